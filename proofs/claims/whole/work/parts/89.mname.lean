/-! The model: names; find, append. -/
theorem zor_5 {a d : Int} (ha : 0 ≤ a ∧ a < 33554432) (hd : 0 ≤ d ∧ d < 32) : zor (zshl a 5) d = 32 * a + d := by
  obtain ⟨n, rfl⟩ := z_nat ha.1
  obtain ⟨m, rfl⟩ := z_nat hd.1
  have e1 : zshl (n : Int) 5 = ((n * 2 ^ 5 : Nat) : Int) := zshl_nat (k := 5) (by omega) (by decide)
  rw [e1, zor_nat (by omega) (by omega)]
  have e2 := Nat.two_pow_add_eq_or_of_lt (i := 5) (b := m) (by omega) n
  rw [show n * 2 ^ 5 = 2 ^ 5 * n by omega, ← e2]
  omega
theorem wc_in {I : Int → Int} {s : Int} : ∀ k : Nat, k ≤ 6 → (∀ j : Nat, j < k → 97 ≤ I (s + j) ∧ I (s + j) ≤ 122) → 0 ≤ wc I s k ∧ wc I s k < 32 ^ k ∧ (k ≠ 0 → 0 < wc I s k) := by
  intro k
  induction k with
  | zero => intro _ _; exact ⟨Int.le_refl 0, by show (0 : Int) < 1; decide, fun h => absurd rfl h⟩
  | succ k ih =>
    intro hk h
    have h1 := ih (by omega) (fun j hj => h j (by omega))
    have h2 := h k (by omega)
    have h3 : (32 : Int) ^ k ≤ 33554432 := by
      have e : k = 0 ∨ k = 1 ∨ k = 2 ∨ k = 3 ∨ k = 4 ∨ k = 5 := by omega
      rcases e with rfl | rfl | rfl | rfl | rfl | rfl <;> decide
    rw [wc, zor_5 ⟨h1.1, by omega⟩ (by omega), Int.pow_succ]
    omega
theorem wc_st {I : Int → Int} {s : Int} {k : Nat} (hk : k + 1 ≤ 6) (h : ∀ j : Nat, j < k + 1 → 97 ≤ I (s + j) ∧ I (s + j) ≤ 122) : wc I s (k + 1) = 32 * wc I s k + (I (s + k) - 96) := by
  have h1 := wc_in (I := I) (s := s) k (by omega) (fun j hj => h j (by omega))
  have h2 := h k (by omega)
  have h3 : (32 : Int) ^ k ≤ 33554432 := by
    have e : k = 0 ∨ k = 1 ∨ k = 2 ∨ k = 3 ∨ k = 4 ∨ k = 5 := by omega
    rcases e with rfl | rfl | rfl | rfl | rfl | rfl <;> decide
  rw [wc, zor_5 ⟨h1.1, by omega⟩ (by omega)]
  omega
theorem wc_cg {I J : Int → Int} {s r : Int} : ∀ k : Nat, (∀ j : Nat, j < k → I (s + j) = J (r + j)) → wc I s k = wc J r k := by
  intro k
  induction k with
  | zero => intro _; rfl
  | succ k ih => intro h; rw [wc, wc, ih (fun j hj => h j (by omega)), h k (by omega)]
theorem wc_inj {I J : Int → Int} {s r : Int} : ∀ k k' : Nat, k ≤ 6 → k' ≤ 6 → (∀ j : Nat, j < k → 97 ≤ I (s + j) ∧ I (s + j) ≤ 122) → (∀ j : Nat, j < k' → 97 ≤ J (r + j) ∧ J (r + j) ≤ 122) → wc I s k = wc J r k' → k = k' ∧ ∀ j : Nat, j < k → I (s + j) = J (r + j) := by
  intro k
  induction k with
  | zero =>
    intro k' _ hk' _ hJ h
    have h1 := wc_in (I := J) (s := r) k' hk' hJ
    refine ⟨Classical.byContradiction fun q => ?_, fun j hj => absurd hj (Nat.not_lt_zero j)⟩
    have h2 := h1.2.2 (fun e => q e.symm)
    rw [← h] at h2
    exact absurd h2 (by show ¬ (0 : Int) < 0; decide)
  | succ k ih =>
    intro k' hk hk' hI hJ h
    cases k' with
    | zero =>
      have h1 := wc_in (I := I) (s := s) (k + 1) hk hI
      have h2 := h1.2.2 (by omega)
      rw [h] at h2
      exact absurd h2 (by show ¬ (0 : Int) < 0; decide)
    | succ k' =>
      rw [wc_st hk hI, wc_st hk' hJ] at h
      have a1 := hI k (by omega)
      have a2 := hJ k' (by omega)
      have h1 := ih k' (by omega) (by omega) (fun j hj => hI j (by omega)) (fun j hj => hJ j (by omega)) (by omega)
      obtain ⟨rfl, h2⟩ := h1
      refine ⟨rfl, fun j hj => ?_⟩
      by_cases e : j = k
      · subst e; omega
      · exact h2 j (by omega)
/-- six bytes are the name with a number -/
def nmR (f : Int → Int) (v : Int) : Prop := ∃ (J : Int → Int) (len : Nat), 1 ≤ len ∧ len ≤ 6 ∧ (∀ j : Nat, j < len → 97 ≤ J (0 + (j : Int)) ∧ J (0 + (j : Int)) ≤ 122) ∧ v = wc J 0 len ∧ ∀ j : Int, 0 ≤ j → j < 6 → f j = if j < len then J j else 0
theorem nm_b {f : Int → Int} {v : Int} (h : nmR f v) : ∀ j, 0 ≤ j → j < 6 → 0 ≤ f j ∧ f j < 256 := fun j j0 j1 => by
  obtain ⟨J, len, h1, h2, h3, h4, h5⟩ := h
  rw [h5 j j0 j1]
  by_cases e : j < (len : Int)
  · rw [if_pos e]
    have := h3 j.toNat (by omega)
    rw [show (0 : Int) + ((j.toNat : Nat) : Int) = j by omega] at this
    omega
  · rw [if_neg e]; omega
/-- the bytes from s on, len of them, are the name -/
theorem nm_eq {f I : Int → Int} {v s : Int} {len : Nat} (h : nmR f v) (hl : 1 ≤ len ∧ len ≤ 6) (hI : ∀ j : Nat, j < len → 97 ≤ I (s + j) ∧ I (s + j) ≤ 122) : (∀ j : Int, 0 ≤ j → j < 6 → f j = if j < len then I (s + j) else 0) ↔ v = wc I s len := by
  obtain ⟨J, l2, h1, h2, h3, h4, h5⟩ := h
  have hJ : ∀ j : Int, 0 ≤ j → j < l2 → 97 ≤ J j ∧ J j ≤ 122 := fun j j0 j1 => by
    have := h3 j.toNat (by omega)
    rw [show (0 : Int) + ((j.toNat : Nat) : Int) = j by omega] at this
    exact this
  have hI2 : ∀ j : Int, 0 ≤ j → j < len → 97 ≤ I (s + j) ∧ I (s + j) ≤ 122 := fun j j0 j1 => by
    have := hI j.toNat (by omega)
    rw [show (((j.toNat : Nat)) : Int) = j by omega] at this
    exact this
  constructor
  · intro h
    have el : l2 = len := by
      apply Classical.byContradiction
      intro q
      by_cases e : l2 < len
      · have a1 := h l2 (by omega) (by omega)
        rw [h5 l2 (by omega) (by omega), if_neg (by omega), if_pos (by omega)] at a1
        have := hI2 l2 (by omega) (by omega)
        omega
      · have a1 := h len (by omega) (by omega)
        rw [h5 len (by omega) (by omega), if_pos (by omega), if_neg (by omega)] at a1
        have := hJ len (by omega) (by omega)
        omega
    subst el
    rw [h4]
    refine wc_cg _ (fun j hj => ?_)
    have a1 := h j (by omega) (by omega)
    rw [h5 j (by omega) (by omega), if_pos (by omega), if_pos (by omega)] at a1
    rw [Int.zero_add]
    exact a1
  · intro h
    rw [h4] at h
    obtain ⟨rfl, h6⟩ := wc_inj l2 len h2 hl.2 h3 hI h
    intro j j0 j1
    rw [h5 j j0 j1]
    by_cases e : j < (l2 : Int)
    · rw [if_pos e, if_pos e]
      have := h6 j.toNat (by omega)
      rw [show (0 : Int) + ((j.toNat : Nat) : Int) = j by omega, show (((j.toNat : Nat)) : Int) = j by omega] at this
      exact this
    · rw [if_neg e, if_neg e]
/-- six bytes are those from b to e -/
def nmP (f I : Int → Int) (b e : Int) : Prop := (1 ≤ e - b ∧ e - b ≤ 6) ∧ ∀ j, 0 ≤ j → j < 6 → f j = (if b + j < e then I (b + j) else 0) ∧ (b + j < e → I (b + j) ≠ 0)
theorem nmP_word {f I : Int → Int} {v b e : Int} (h : nmR f v) (hl : 1 ≤ e - b ∧ e - b ≤ 6) (hI : ∀ j, b ≤ j → j < e → 97 ≤ I j ∧ I j ≤ 122) : nmP f I b e ↔ v = wc I b (e - b).toNat := by
  rw [← nm_eq (s := b) (len := (e - b).toNat) h (by omega) (fun j hj => hI _ (by omega) (by omega))]
  constructor
  · intro q j j0 j1
    rw [(q.2 j j0 j1).1]
    by_cases g : b + j < e
    · rw [if_pos g, if_pos (by omega)]
    · rw [if_neg g, if_neg (by omega)]
  · intro q
    refine ⟨hl, fun j j0 j1 => ⟨?_, fun g => ?_⟩⟩
    · rw [q j j0 j1]
      by_cases g : b + j < e
      · rw [if_pos g, if_pos (by omega)]
      · rw [if_neg g, if_neg (by omega)]
    · have := hI (b + j) (by omega) g
      omega
theorem mn_at {N : Int → Int} {v : Int} : ∀ m : Nat, mn N v m ≠ -1 → N (mn N v m) = v := by
  intro m
  induction m with
  | zero => intro h; exact absurd rfl h
  | succ m ih =>
    intro h
    rw [mn] at h ⊢
    by_cases g : mn N v m ≠ -1
    · rw [if_pos g]; exact ih g
    · rw [if_neg g] at h ⊢
      by_cases e : N m = v
      · rw [if_pos e]; exact e
      · rw [if_neg e] at h; exact absurd rfl h
section MNM
variable {M : qM} {I N : Int → Int} {L : Nat} {a c d n k b e s v w x m : Int} {o : Nat}
set_option maxHeartbeats 1500000 in
theorem m_isName (ho : qLay[o]? = some (.inr (36, false))) (hk : 0 ≤ k ∧ k < 6) (hB : inM M I n) (hb : 0 ≤ b ∧ b ≤ n) (he : 0 ≤ e ∧ e ≤ n) (hz : ∀ j, 0 ≤ j → j < 6 → zR (M o (6 * k + j))) : qCt mX8_isName 0 1 [.ref o, .int (zI k), .ref 48, .int (zI b), .int (zI e)] M (qpe (zb (nmP (fun j => M o (6 * k + j)) I b e)) M) := by
  have hn := hB.1
  have hn2 := hB.2.1
  refine q_intro (own := 8) (L := [some (.ref o), some (.int (zI k)), some (.ref 48), some (.int (zI b)), some (.int (zI e)), none, none, none]) md_X8_isName rfl rfl rfl (Nat.le_of_ble_eq_true rfl) (fun X => ?_)
  refine q_iload dX8_isName_0 rfl ?_
  refine q_iload_n dX8_isName_2 rfl ?_
  refine q_isub dX8_isName_3 ?_
  refine q_iconst dX8_isName_4 ?_
  refine q_bipush dX8_isName_5 rfl ?_
  refine q_S3 dX8_isName_7 ml_8_71 md_X8_in (m_in (v := e - b) (a := 1) (b := 6) (by (first | (unfold zR; omega) | (unfold zLR; omega) | omega | (simp only [zR, qup] at *; omega) | (simp [zR, qup]; omega) | (simp [zR, qup]; done))) (by (first | (unfold zR; omega) | (unfold zLR; omega) | omega | (simp only [zR, qup] at *; omega) | (simp [zR, qup]; omega) | (simp [zR, qup]; done))) (by (first | (unfold zR; omega) | (unfold zLR; omega) | omega | (simp only [zR, qup] at *; omega) | (simp [zR, qup]; omega) | (simp [zR, qup]; done)))) rfl (by first | decide | omega) (Nat.le_of_ble_eq_true rfl) (Nat.le_of_ble_eq_true rfl) (qk_e ?_)
  refine q_istore dX8_isName_10 (Nat.le_of_ble_eq_true rfl) rfl ?_
  refine q_iconst dX8_isName_12 ?_
  refine q_istore dX8_isName_13 (Nat.le_of_ble_eq_true rfl) rfl ?_
  refine q_lp (fun j : Int => (6 - j).toNat) (fun j => 0 ≤ j ∧ j ≤ 6) (fun j => [some (.ref o), some (.int (zI k)), some (.ref 48), some (.int (zI b)), some (.int (zI e)), some (.int (zI (zb ((1 ≤ e - b ∧ e - b ≤ 6) ∧ ∀ i, 0 ≤ i → i < j → M o (6 * k + i) = (if b + i < e then I (b + i) else 0) ∧ (b + i < e → I (b + i) ≠ 0))))), some (.int (zI j)), none]) (fun _ => M) 0 (by rw [zb_c (show ((1 ≤ e - b ∧ e - b ≤ 6) ∧ ∀ i, 0 ≤ i → i < 0 → M o (6 * k + i) = (if b + i < e then I (b + i) else 0) ∧ (b + i < e → I (b + i) ≠ 0)) ↔ (1 ≤ e - b ∧ e - b ≤ 6) from ⟨fun q => q.1, fun q => ⟨q, fun i i0 i1 => by omega⟩⟩)]; rfl) rfl ⟨by omega, by omega⟩ (fun j hj ih => ?_)
  have up0 : ¬ (M o (6 * k + j) = (if b + j < e then I (b + j) else 0) ∧ (b + j < e → I (b + j) ≠ 0)) → zb ((1 ≤ e - b ∧ e - b ≤ 6) ∧ ∀ i, 0 ≤ i → i < j + 1 → M o (6 * k + i) = (if b + i < e then I (b + i) else 0) ∧ (b + i < e → I (b + i) ≠ 0)) = 0 := fun q => zb_f (fun g => q (g.2 j hj.1 (by omega)))
  have up1 : ((1 ≤ e - b ∧ e - b ≤ 6) ∧ ∀ i, 0 ≤ i → i < j → M o (6 * k + i) = (if b + i < e then I (b + i) else 0) ∧ (b + i < e → I (b + i) ≠ 0)) → (M o (6 * k + j) = (if b + j < e then I (b + j) else 0) ∧ (b + j < e → I (b + j) ≠ 0)) → zb ((1 ≤ e - b ∧ e - b ≤ 6) ∧ ∀ i, 0 ≤ i → i < j + 1 → M o (6 * k + i) = (if b + i < e then I (b + i) else 0) ∧ (b + i < e → I (b + i) ≠ 0)) = 1 := fun q p => zb_t ⟨q.1, fun i i0 i1 => by
    by_cases g : i = j
    · subst g; exact p
    · exact q.2 i i0 (by omega)⟩
  generalize hA : ((1 ≤ e - b ∧ e - b ≤ 6) ∧ ∀ i, 0 ≤ i → i < j → M o (6 * k + i) = (if b + i < e then I (b + i) else 0) ∧ (b + i < e → I (b + i) ≠ 0)) = A at up1
  have zA := zb_01 A
  refine q_iload dX8_isName_15 rfl ?_
  refine q_bipush dX8_isName_17 rfl ?_
  refine q_icmp_ge (tgt := 89) dX8_isName_19 rfl (by (first | (unfold zR; omega) | (unfold zLR; omega) | omega | (simp only [zR, qup] at *; omega) | (simp [zR, qup]; omega) | (simp [zR, qup]; done))) (by (first | (unfold zR; omega) | (unfold zLR; omega) | omega | (simp only [zR, qup] at *; omega) | (simp [zR, qup]; omega) | (simp [zR, qup]; done))) (fun h19 => ?_) (fun h19 => ?_)
  ·
    refine q_iload dX8_isName_89 rfl ?_
    refine q_zreturn (by exact zA) dX8_isName_91 ?_
    exact ⟨by rw [← hA]; exact congrArg (fun z => some (Value.int (zI z))) (zb_c ⟨fun q => ⟨q.1, fun i i0 i1 => q.2 i i0 (by omega)⟩, fun q => ⟨q.1, fun i i0 i1 => q.2 i i0 (by omega)⟩⟩), rfl⟩
  ·
    refine q_iload dX8_isName_22 rfl ?_
    have hzj := hz j hj.1 (by omega)
    refine q_if_eq (tgt := 89) dX8_isName_24 rfl (by exact zb_R _) (fun h24 => ?_) (fun h24 => ?_)
    ·
      refine q_iload dX8_isName_89 rfl ?_
      refine q_zreturn (by exact zA) dX8_isName_91 ?_
      exact ⟨by rw [h24, zb_f (fun q => zb_0.1 h24 (by rw [← hA]; exact ⟨q.1, fun i i0 i1 => q.2 i i0 (by omega)⟩))], rfl⟩
    ·
      refine q_iload_n dX8_isName_27 rfl ?_
      refine q_iload dX8_isName_28 rfl ?_
      refine q_iadd dX8_isName_30 ?_
      refine q_iload dX8_isName_31 rfl ?_
      refine q_icmp_ge (tgt := 45) dX8_isName_33 rfl (by (first | (unfold zR; omega) | (unfold zLR; omega) | omega | (simp only [zR, qup] at *; omega) | (simp [zR, qup]; omega) | (simp [zR, qup]; done))) (by (first | (unfold zR; omega) | (unfold zLR; omega) | omega | (simp only [zR, qup] at *; omega) | (simp [zR, qup]; omega) | (simp [zR, qup]; done))) (fun h33 => ?_) (fun h33 => ?_)
      ·
        refine q_iconst dX8_isName_45 ?_
        refine q_istore dX8_isName_46 (Nat.le_of_ble_eq_true rfl) rfl ?_
        refine q_aload_n dX8_isName_48 rfl ?_
        refine q_bipush dX8_isName_49 rfl ?_
        refine q_iload_n dX8_isName_51 rfl ?_
        refine q_imul dX8_isName_52 ?_
        refine q_iload dX8_isName_53 rfl ?_
        refine q_iadd dX8_isName_55 ?_
        refine q_iald dX8_isName_56 ho (by (first | (unfold zR; omega) | (unfold zLR; omega) | omega | (simp only [zR, qup] at *; omega) | (simp [zR, qup]; omega) | (simp [zR, qup]; done))) (Nat.le_of_ble_eq_true rfl) ?_
        refine q_iload dX8_isName_57 rfl ?_
        refine q_icmp_ne (tgt := 80) dX8_isName_59 rfl (by (first | (unfold zR; omega) | (unfold zLR; omega) | omega | (simp only [zR, qup] at *; omega) | (simp [zR, qup]; omega) | (simp [zR, qup]; done))) (by (first | (unfold zR; omega) | (unfold zLR; omega) | omega | (simp only [zR, qup] at *; omega) | (simp [zR, qup]; omega) | (simp [zR, qup]; done))) (fun h59 => ?_) (fun h59 => ?_)
        ·
          refine q_iconst dX8_isName_80 ?_
          refine q_istore dX8_isName_81 (Nat.le_of_ble_eq_true rfl) rfl ?_
          refine q_iinc dX8_isName_83 rfl (Nat.le_of_ble_eq_true rfl) rfl ?_
          refine q_goto (tgt := 15) dX8_isName_86 rfl ?_
          refine q_wk _ ?_ (ih (j + 1) _ _ ⟨by omega, by omega⟩ (by omega) rfl rfl)
          rw [up0 (fun q => h59 (by rw [q.1, if_neg (by omega)]))]
          simp only [wkB]
          (repeat (first | exact rfl | exact trivial | refine ⟨rfl, ?_⟩))
        ·
          refine q_iload dX8_isName_62 rfl ?_
          refine q_if_ne (tgt := 76) dX8_isName_64 rfl (by (first | (unfold zR; omega) | (unfold zLR; omega) | omega | (simp only [zR, qup] at *; omega) | (simp [zR, qup]; omega) | (simp [zR, qup]; done))) (fun h64 => ?_) (fun h64 => ?_)
          ·
            refine q_iconst dX8_isName_76 ?_
            refine q_goto (tgt := 81) dX8_isName_77 rfl ?_
            refine q_istore dX8_isName_81 (Nat.le_of_ble_eq_true rfl) rfl ?_
            refine q_iinc dX8_isName_83 rfl (Nat.le_of_ble_eq_true rfl) rfl ?_
            refine q_goto (tgt := 15) dX8_isName_86 rfl ?_
            exact absurd rfl h64
          ·
            refine q_iload_n dX8_isName_67 rfl ?_
            refine q_iload dX8_isName_68 rfl ?_
            refine q_iadd dX8_isName_70 ?_
            refine q_iload dX8_isName_71 rfl ?_
            refine q_icmp_lt (tgt := 80) dX8_isName_73 rfl (by (first | (unfold zR; omega) | (unfold zLR; omega) | omega | (simp only [zR, qup] at *; omega) | (simp [zR, qup]; omega) | (simp [zR, qup]; done))) (by (first | (unfold zR; omega) | (unfold zLR; omega) | omega | (simp only [zR, qup] at *; omega) | (simp [zR, qup]; omega) | (simp [zR, qup]; done))) (fun h73 => ?_) (fun h73 => ?_)
            ·
              refine q_iconst dX8_isName_80 ?_
              refine q_istore dX8_isName_81 (Nat.le_of_ble_eq_true rfl) rfl ?_
              refine q_iinc dX8_isName_83 rfl (Nat.le_of_ble_eq_true rfl) rfl ?_
              refine q_goto (tgt := 15) dX8_isName_86 rfl ?_
              exfalso
              omega
            ·
              refine q_iconst dX8_isName_76 ?_
              refine q_goto (tgt := 81) dX8_isName_77 rfl ?_
              refine q_istore dX8_isName_81 (Nat.le_of_ble_eq_true rfl) rfl ?_
              refine q_iinc dX8_isName_83 rfl (Nat.le_of_ble_eq_true rfl) rfl ?_
              refine q_goto (tgt := 15) dX8_isName_86 rfl ?_
              refine q_wk _ ?_ (ih (j + 1) _ _ ⟨by omega, by omega⟩ (by omega) rfl rfl)
              rw [up1 (zb_1.1 (by omega)) ⟨by rw [if_neg (by omega)]; exact h59, fun q => by omega⟩]
              simp only [wkB]
              (repeat (first | exact rfl | exact trivial | refine ⟨rfl, ?_⟩))
      ·
        refine q_aload_n dX8_isName_36 rfl ?_
        refine q_iload_n dX8_isName_37 rfl ?_
        refine q_iload dX8_isName_38 rfl ?_
        refine q_iadd dX8_isName_40 ?_
        refine q_iald dX8_isName_41 rfl (by (first | (unfold zR; omega) | (unfold zLR; omega) | omega | (simp only [zR, qup] at *; omega) | (simp [zR, qup]; omega) | (simp [zR, qup]; done))) (Nat.le_of_ble_eq_true rfl) ?_
        rw [(hB.2.2 (b + j) (by omega) (by omega)).1]
        have hIj := (hB.2.2 (b + j) (by omega) (by omega)).2
        refine q_goto (tgt := 46) dX8_isName_42 rfl ?_
        refine q_istore dX8_isName_46 (Nat.le_of_ble_eq_true rfl) rfl ?_
        refine q_aload_n dX8_isName_48 rfl ?_
        refine q_bipush dX8_isName_49 rfl ?_
        refine q_iload_n dX8_isName_51 rfl ?_
        refine q_imul dX8_isName_52 ?_
        refine q_iload dX8_isName_53 rfl ?_
        refine q_iadd dX8_isName_55 ?_
        refine q_iald dX8_isName_56 ho (by (first | (unfold zR; omega) | (unfold zLR; omega) | omega | (simp only [zR, qup] at *; omega) | (simp [zR, qup]; omega) | (simp [zR, qup]; done))) (Nat.le_of_ble_eq_true rfl) ?_
        refine q_iload dX8_isName_57 rfl ?_
        refine q_icmp_ne (tgt := 80) dX8_isName_59 rfl (by (first | (unfold zR; omega) | (unfold zLR; omega) | omega | (simp only [zR, qup] at *; omega) | (simp [zR, qup]; omega) | (simp [zR, qup]; done))) (by (first | (unfold zR; omega) | (unfold zLR; omega) | omega | (simp only [zR, qup] at *; omega) | (simp [zR, qup]; omega) | (simp [zR, qup]; done))) (fun h59 => ?_) (fun h59 => ?_)
        ·
          refine q_iconst dX8_isName_80 ?_
          refine q_istore dX8_isName_81 (Nat.le_of_ble_eq_true rfl) rfl ?_
          refine q_iinc dX8_isName_83 rfl (Nat.le_of_ble_eq_true rfl) rfl ?_
          refine q_goto (tgt := 15) dX8_isName_86 rfl ?_
          refine q_wk _ ?_ (ih (j + 1) _ _ ⟨by omega, by omega⟩ (by omega) rfl rfl)
          rw [up0 (fun q => h59 (by rw [q.1, if_pos h33]))]
          simp only [wkB]
          (repeat (first | exact rfl | exact trivial | refine ⟨rfl, ?_⟩))
        ·
          refine q_iload dX8_isName_62 rfl ?_
          refine q_if_ne (tgt := 76) dX8_isName_64 rfl (by (first | (unfold zR; omega) | (unfold zLR; omega) | omega | (simp only [zR, qup] at *; omega) | (simp [zR, qup]; omega) | (simp [zR, qup]; done))) (fun h64 => ?_) (fun h64 => ?_)
          ·
            refine q_iconst dX8_isName_76 ?_
            refine q_goto (tgt := 81) dX8_isName_77 rfl ?_
            refine q_istore dX8_isName_81 (Nat.le_of_ble_eq_true rfl) rfl ?_
            refine q_iinc dX8_isName_83 rfl (Nat.le_of_ble_eq_true rfl) rfl ?_
            refine q_goto (tgt := 15) dX8_isName_86 rfl ?_
            refine q_wk _ ?_ (ih (j + 1) _ _ ⟨by omega, by omega⟩ (by omega) rfl rfl)
            rw [up1 (zb_1.1 (by omega)) ⟨by rw [if_pos h33]; exact h59, fun _ => h64⟩]
            simp only [wkB]
            (repeat (first | exact rfl | exact trivial | refine ⟨rfl, ?_⟩))
          ·
            refine q_iload_n dX8_isName_67 rfl ?_
            refine q_iload dX8_isName_68 rfl ?_
            refine q_iadd dX8_isName_70 ?_
            refine q_iload dX8_isName_71 rfl ?_
            refine q_icmp_lt (tgt := 80) dX8_isName_73 rfl (by (first | (unfold zR; omega) | (unfold zLR; omega) | omega | (simp only [zR, qup] at *; omega) | (simp [zR, qup]; omega) | (simp [zR, qup]; done))) (by (first | (unfold zR; omega) | (unfold zLR; omega) | omega | (simp only [zR, qup] at *; omega) | (simp [zR, qup]; omega) | (simp [zR, qup]; done))) (fun h73 => ?_) (fun h73 => ?_)
            ·
              refine q_iconst dX8_isName_80 ?_
              refine q_istore dX8_isName_81 (Nat.le_of_ble_eq_true rfl) rfl ?_
              refine q_iinc dX8_isName_83 rfl (Nat.le_of_ble_eq_true rfl) rfl ?_
              refine q_goto (tgt := 15) dX8_isName_86 rfl ?_
              refine q_wk _ ?_ (ih (j + 1) _ _ ⟨by omega, by omega⟩ (by omega) rfl rfl)
              rw [up0 (fun q => q.2 h33 h64)]
              simp only [wkB]
              (repeat (first | exact rfl | exact trivial | refine ⟨rfl, ?_⟩))
            ·
              refine q_iconst dX8_isName_76 ?_
              refine q_goto (tgt := 81) dX8_isName_77 rfl ?_
              refine q_istore dX8_isName_81 (Nat.le_of_ble_eq_true rfl) rfl ?_
              refine q_iinc dX8_isName_83 rfl (Nat.le_of_ble_eq_true rfl) rfl ?_
              refine q_goto (tgt := 15) dX8_isName_86 rfl ?_
              exfalso
              omega
set_option maxHeartbeats 1500000 in
theorem m_named (hB : inM M I n) (hm : M 37 31 = m) (hm2 : 0 ≤ m ∧ m ≤ 6) (hf : M 37 26 = s) (hx : M 37 25 = e) (hs : 0 ≤ s ∧ e ≤ n) (hl : 1 ≤ e - s ∧ e - s ≤ 6) (hI : ∀ j, s ≤ j → j < e → 97 ≤ I j ∧ I j ≤ 122) (hN : ∀ k, 0 ≤ k → k < m → nmR (fun j => M 49 (6 * k + j)) (N k)) : qCt mX8_named 0 2 [.ref 37] M (qpe (mn N (wc I s (e - s).toNat) m.toNat) M) := by
  refine q_intro (own := 8) (L := [some (.ref 37), none]) md_X8_named rfl rfl rfl (Nat.le_of_ble_eq_true rfl) (fun X => ?_)
  refine q_iconst dX8_named_0 ?_
  refine q_istore_n dX8_named_1 (Nat.le_of_ble_eq_true rfl) rfl ?_
  refine q_lp (fun i : Nat => m.toNat - i) (fun i => (i : Int) ≤ m ∧ ∀ k : Int, 0 ≤ k → k < i → N k ≠ wc I s (e - s).toNat) (fun i => [some (.ref 37), some (.int (zI (i : Int)))]) (fun _ => M) 0 rfl rfl ⟨by omega, fun k k0 k1 => by omega⟩ (fun i hi ih => ?_)
  obtain ⟨hi1, hi2⟩ := hi
  refine q_iload_n dX8_named_2 rfl ?_
  refine q_aload_n dX8_named_3 rfl ?_
  refine q_geti (j := 31) dX8_named_4 fl_8_208 rfl rfl rfl ?_
  rw [hm]
  refine q_icmp_ge (tgt := 41) dX8_named_7 rfl (by (first | (unfold zR; omega) | (unfold zLR; omega) | omega | (simp only [zR, qup] at *; omega) | (simp [zR, qup]; omega) | (simp [zR, qup]; done))) (by (first | (unfold zR; omega) | (unfold zLR; omega) | omega | (simp only [zR, qup] at *; omega) | (simp [zR, qup]; omega) | (simp [zR, qup]; done))) (fun h7 => ?_) (fun h7 => ?_)
  rotate_left
  ·
    refine q_aload_n dX8_named_10 rfl ?_
    refine q_getr dX8_named_11 fl_8_48 rfl rfl ?_
    refine q_iload_n dX8_named_14 rfl ?_
    refine q_aload_n dX8_named_15 rfl ?_
    refine q_getr dX8_named_16 fl_8_41 rfl rfl ?_
    refine q_aload_n dX8_named_19 rfl ?_
    refine q_geti (j := 26) dX8_named_20 fl_8_167 rfl rfl rfl ?_
    rw [hf]
    refine q_aload_n dX8_named_23 rfl ?_
    refine q_geti (j := 25) dX8_named_24 fl_8_161 rfl rfl rfl ?_
    rw [hx]
    have hNi := hN i (by omega) h7
    refine q_S5 dX8_named_27 ml_8_211 md_X8_isName (m_isName (o := 49) (I := I) (n := n) rfl (by omega) hB (by omega) (by omega) (fun j j0 j1 => by have := nm_b hNi j j0 j1; unfold zR; omega)) rfl (by first | decide | omega) (Nat.le_of_ble_eq_true rfl) (Nat.le_of_ble_eq_true rfl) (qk_e ?_)
    refine q_if_eq (tgt := 35) dX8_named_30 rfl (by exact zb_R _) (fun h30 => ?_) (fun h30 => ?_)
    ·
      refine q_iinc dX8_named_35 rfl (Nat.le_of_ble_eq_true rfl) rfl ?_
      refine q_goto (tgt := 2) dX8_named_38 rfl ?_
      have hno := zb_0.1 h30
      rw [nmP_word hNi hl hI] at hno
      exact ih (i + 1) _ _ ⟨by omega, fun k k0 k1 => by
        by_cases g : k = i
        · subst g; exact hno
        · exact hi2 k k0 (by omega)⟩ (by omega) rfl rfl
    ·
      refine q_iload_n dX8_named_33 rfl ?_
      refine q_ireturn dX8_named_34 ?_
      have hyes := (nmP_word hNi hl hI).1 (zb_1.1 (by have := zb_01 (nmP (fun j => M 49 (6 * (i : Int) + j)) I s e); omega))
      exact ⟨by rw [mn_first (j := i) hyes hi2 m.toNat (by omega)], rfl⟩
  refine q_iconst dX8_named_41 ?_
  refine q_ireturn dX8_named_42 ?_
  have hnn : mn N (wc I s (e - s).toNat) m.toNat = -1 := by
    rcases mn_in N (wc I s (e - s).toNat) m.toNat with h | h
    · exact h
    · exfalso
      have h2 := mn_at (N := N) (v := wc I s (e - s).toNat) m.toNat (by omega)
      exact hi2 _ h.1 (by omega) h2
  exact ⟨by rw [hnn], rfl⟩
set_option maxHeartbeats 1500000 in
theorem o_find (hM : MI M) (hn : zR n) : qCt mX8_find 0 3 [.ref 37, .int (zI n)] M (mpx (gor (mT M) (gBm M n)) (fun z M' => frst (fun i => nmP (fun j => M 38 (6 * i + j)) (M 48) 0 n) 0 (M 37 3) z ∧ MS (qup (qup M 37 0 0) 37 21 0) M') M) := by
  have hb := hM.2.2.2.2.2.2.2.2.1
  have hbb := hM.2.2.2.2.2.2.2.2.2.1
  have h38 := hM.2.2.2.2.2.2.2.2.2.2.2.2.1
  have m3q := hM.2.2.2.1
  have z01 := zb_01 (0 ≤ n ∧ n ≤ M 37 21)
  have e21 : ∀ g, qup M 37 0 g 37 21 = M 37 21 := fun g => qup_k _ _ _ (by decide)
  refine q_intro (own := 8) (L := [some (.ref 37), some (.int (zI n)), none]) md_X8_find rfl rfl rfl (Nat.le_of_ble_eq_true rfl) (fun X => ?_)
  refine q_aload_n dX8_find_0 rfl ?_
  refine q_V0 dX8_find_1 ml_8_75 md_X8_noMaps (m_noMapsT hM.1) rfl rfl rfl (by first | decide | omega) (Nat.le_of_ble_eq_true rfl) (Nat.le_of_ble_eq_true rfl) (qk_e ?_)
  refine q_if_ne (tgt := 32) dX8_find_4 rfl (by exact zb_R _) (fun h4 => ?_) (fun h4 => ?_)
  ·
    refine q_iconst dX8_find_32 ?_
    refine q_ireturn dX8_find_33 ?_
    exact mpx_g2 (zbn h4)
  ·
    refine q_aload_n dX8_find_7 rfl ?_
    refine q_iload_n dX8_find_8 rfl ?_
    refine q_iconst dX8_find_9 ?_
    refine q_aload_n dX8_find_10 rfl ?_
    refine q_geti (j := 21) dX8_find_11 fl_8_152 rfl rfl rfl ?_
    rw [e21]
    refine q_S3 dX8_find_14 ml_8_71 md_X8_in (m_in hn (by (first | (unfold zR; omega) | (unfold zLR; omega) | omega | (simp only [zR, qup] at *; omega) | (simp [zR, qup]; omega) | (simp [zR, qup]; done))) (by (first | (unfold zR; omega) | (unfold zLR; omega) | omega | (simp only [zR, qup] at *; omega) | (simp [zR, qup]; omega) | (simp [zR, qup]; done)))) rfl (by first | decide | omega) (Nat.le_of_ble_eq_true rfl) (Nat.le_of_ble_eq_true rfl) (qk_e ?_)
    refine q_if_ne (tgt := 24) dX8_find_17 rfl (by exact zb_R _) (fun h17 => ?_) (fun h17 => ?_)
    ·
      refine q_iconst dX8_find_24 ?_
      refine q_iconst dX8_find_25 ?_
      have hgb : (if (0 : Int) = 1 then (2 : Int) else 0) = gBm M n := (if_pos (zb_1.1 (by omega))).symm
      refine q_V2 dX8_find_26 ml_8_64 md_X8_refuse (m_refH (by omega) (mT_R M) (by (first | (unfold zR; omega) | (unfold zLR; omega) | omega | (simp only [zR, qup] at *; omega) | (simp [zR, qup]; omega) | (simp [zR, qup]; done))) hgb) rfl rfl rfl (by first | decide | omega) (Nat.le_of_ble_eq_true rfl) (Nat.le_of_ble_eq_true rfl) (qk_e ?_)
      refine q_if_eq (tgt := 34) dX8_find_29 rfl (by exact zb_R _) (fun h29 => ?_) (fun h29 => ?_)
      ·
        have hg := zbz h29
        have hnn : 0 ≤ n ∧ n ≤ M 37 21 := Classical.byContradiction fun q => by have h := (gor_00.1 hg).2; unfold gBm at h; rw [if_neg q] at h; omega
        rw [hg]
        refine q_aload_n dX8_find_34 rfl ?_
        refine q_iconst dX8_find_35 ?_
        refine q_puti (j := 21) dX8_find_36 fl_8_152 rfl rfl rfl rfl rfl ?_
        refine q_iconst dX8_find_39 ?_
        refine q_istore_n dX8_find_40 (Nat.le_of_ble_eq_true rfl) rfl ?_
        have w38 : qup (qup M 37 0 0) 37 21 0 38 = M 38 := by funext j; rw [qup_o _ _ _ _ (by decide), qup_o _ _ _ _ (by decide)]
        have w3 : qup (qup M 37 0 0) 37 21 0 37 3 = M 37 3 := by rw [qup_k _ _ _ (by decide), qup_k _ _ _ (by decide)]
        have hB : inM (qup (qup M 37 0 0) 37 21 0) (M 48) n := ⟨hnn.1, by omega, fun i i0 i1 => ⟨by rw [qup_o _ _ _ _ (by decide), qup_o _ _ _ _ (by decide)], hbb i i0 (by omega)⟩⟩
        generalize hW : qup (qup M 37 0 0) 37 21 0 = W at w38 w3 hB
        refine q_lp (fun i : Int => (M 37 3 - i).toNat) (fun i => 0 ≤ i ∧ i ≤ M 37 3 ∧ ∀ j, 0 ≤ j → j < i → ¬ nmP (fun u => M 38 (6 * j + u)) (M 48) 0 n) (fun i => [some (.ref 37), some (.int (zI n)), some (.int (zI i))]) (fun _ => W) 0 rfl rfl ⟨by omega, by omega, fun j q1 q2 => by omega⟩ (fun i hi ih => ?_)
        refine q_iload_n dX8_find_41 rfl ?_
        refine q_aload_n dX8_find_42 rfl ?_
        refine q_geti (j := 3) dX8_find_43 fl_8_68 rfl rfl rfl ?_
        rw [w3]
        refine q_icmp_ge (tgt := 74) dX8_find_46 rfl (by (first | (unfold zR; omega) | (unfold zLR; omega) | omega | (simp only [zR, qup] at *; omega) | (simp [zR, qup]; omega) | (simp [zR, qup]; done))) (by (first | (unfold zR; omega) | (unfold zLR; omega) | omega | (simp only [zR, qup] at *; omega) | (simp [zR, qup]; omega) | (simp [zR, qup]; done))) (fun h46 => ?_) (fun h46 => ?_)
        rotate_left
        ·
          refine q_aload_n dX8_find_49 rfl ?_
          refine q_getr dX8_find_50 fl_8_7 rfl rfl ?_
          refine q_iload_n dX8_find_53 rfl ?_
          refine q_aload_n dX8_find_54 rfl ?_
          refine q_getr dX8_find_55 fl_8_41 rfl rfl ?_
          refine q_iconst dX8_find_58 ?_
          refine q_iload_n dX8_find_59 rfl ?_
          refine q_S5 dX8_find_60 ml_8_211 md_X8_isName (m_isName (o := 38) (I := M 48) (n := n) rfl (by omega) hB (by omega) (by omega) (fun j j0 j1 => by rw [w38]; have := h38 (6 * i + j) (by omega) (by omega); unfold zR; omega)) rfl (by first | decide | omega) (Nat.le_of_ble_eq_true rfl) (Nat.le_of_ble_eq_true rfl) (qk_e ?_)
          rw [w38]
          refine q_if_eq (tgt := 68) dX8_find_63 rfl (by exact zb_R _) (fun h63 => ?_) (fun h63 => ?_)
          ·
            refine q_iinc dX8_find_68 rfl (Nat.le_of_ble_eq_true rfl) rfl ?_
            refine q_goto (tgt := 41) dX8_find_71 rfl ?_
            exact ih (i + 1) _ _ ⟨by omega, by omega, fun j q1 q2 => by
              by_cases q3 : j = i
              · subst q3; exact zb_0.1 h63
              · exact hi.2.2 j q1 (by omega)⟩ (by omega) rfl rfl
          ·
            refine q_iload_n dX8_find_66 rfl ?_
            refine q_ireturn dX8_find_67 ?_
            exact mpx_k rfl ⟨Or.inr ⟨hi.1, h46, zb_1.1 ((zb_01 _).resolve_left h63), hi.2.2⟩, MS_rf _⟩
        refine q_iconst dX8_find_74 ?_
        refine q_ireturn dX8_find_75 ?_
        exact mpx_k rfl ⟨Or.inl ⟨rfl, fun j q1 q2 => hi.2.2 j q1 (by omega)⟩, MS_rf _⟩
      ·
        refine q_iconst dX8_find_32 ?_
        refine q_ireturn dX8_find_33 ?_
        exact mpx_g (zbn h29)
    ·
      refine q_iconst dX8_find_20 ?_
      refine q_goto (tgt := 25) dX8_find_21 rfl ?_
      refine q_iconst dX8_find_25 ?_
      have hgb : (if (1 : Int) = 1 then (2 : Int) else 0) = gBm M n := (if_neg (zb_0.1 (by omega))).symm
      refine q_V2 dX8_find_26 ml_8_64 md_X8_refuse (m_refH (by omega) (mT_R M) (by (first | (unfold zR; omega) | (unfold zLR; omega) | omega | (simp only [zR, qup] at *; omega) | (simp [zR, qup]; omega) | (simp [zR, qup]; done))) hgb) rfl rfl rfl (by first | decide | omega) (Nat.le_of_ble_eq_true rfl) (Nat.le_of_ble_eq_true rfl) (qk_e ?_)
      refine q_if_eq (tgt := 34) dX8_find_29 rfl (by exact zb_R _) (fun h29 => ?_) (fun h29 => ?_)
      ·
        have hg := zbz h29
        have hnn : 0 ≤ n ∧ n ≤ M 37 21 := Classical.byContradiction fun q => by have h := (gor_00.1 hg).2; unfold gBm at h; rw [if_neg q] at h; omega
        rw [hg]
        refine q_aload_n dX8_find_34 rfl ?_
        refine q_iconst dX8_find_35 ?_
        refine q_puti (j := 21) dX8_find_36 fl_8_152 rfl rfl rfl rfl rfl ?_
        refine q_iconst dX8_find_39 ?_
        refine q_istore_n dX8_find_40 (Nat.le_of_ble_eq_true rfl) rfl ?_
        have w38 : qup (qup M 37 0 0) 37 21 0 38 = M 38 := by funext j; rw [qup_o _ _ _ _ (by decide), qup_o _ _ _ _ (by decide)]
        have w3 : qup (qup M 37 0 0) 37 21 0 37 3 = M 37 3 := by rw [qup_k _ _ _ (by decide), qup_k _ _ _ (by decide)]
        have hB : inM (qup (qup M 37 0 0) 37 21 0) (M 48) n := ⟨hnn.1, by omega, fun i i0 i1 => ⟨by rw [qup_o _ _ _ _ (by decide), qup_o _ _ _ _ (by decide)], hbb i i0 (by omega)⟩⟩
        generalize hW : qup (qup M 37 0 0) 37 21 0 = W at w38 w3 hB
        refine q_lp (fun i : Int => (M 37 3 - i).toNat) (fun i => 0 ≤ i ∧ i ≤ M 37 3 ∧ ∀ j, 0 ≤ j → j < i → ¬ nmP (fun u => M 38 (6 * j + u)) (M 48) 0 n) (fun i => [some (.ref 37), some (.int (zI n)), some (.int (zI i))]) (fun _ => W) 0 rfl rfl ⟨by omega, by omega, fun j q1 q2 => by omega⟩ (fun i hi ih => ?_)
        refine q_iload_n dX8_find_41 rfl ?_
        refine q_aload_n dX8_find_42 rfl ?_
        refine q_geti (j := 3) dX8_find_43 fl_8_68 rfl rfl rfl ?_
        rw [w3]
        refine q_icmp_ge (tgt := 74) dX8_find_46 rfl (by (first | (unfold zR; omega) | (unfold zLR; omega) | omega | (simp only [zR, qup] at *; omega) | (simp [zR, qup]; omega) | (simp [zR, qup]; done))) (by (first | (unfold zR; omega) | (unfold zLR; omega) | omega | (simp only [zR, qup] at *; omega) | (simp [zR, qup]; omega) | (simp [zR, qup]; done))) (fun h46 => ?_) (fun h46 => ?_)
        rotate_left
        ·
          refine q_aload_n dX8_find_49 rfl ?_
          refine q_getr dX8_find_50 fl_8_7 rfl rfl ?_
          refine q_iload_n dX8_find_53 rfl ?_
          refine q_aload_n dX8_find_54 rfl ?_
          refine q_getr dX8_find_55 fl_8_41 rfl rfl ?_
          refine q_iconst dX8_find_58 ?_
          refine q_iload_n dX8_find_59 rfl ?_
          refine q_S5 dX8_find_60 ml_8_211 md_X8_isName (m_isName (o := 38) (I := M 48) (n := n) rfl (by omega) hB (by omega) (by omega) (fun j j0 j1 => by rw [w38]; have := h38 (6 * i + j) (by omega) (by omega); unfold zR; omega)) rfl (by first | decide | omega) (Nat.le_of_ble_eq_true rfl) (Nat.le_of_ble_eq_true rfl) (qk_e ?_)
          rw [w38]
          refine q_if_eq (tgt := 68) dX8_find_63 rfl (by exact zb_R _) (fun h63 => ?_) (fun h63 => ?_)
          ·
            refine q_iinc dX8_find_68 rfl (Nat.le_of_ble_eq_true rfl) rfl ?_
            refine q_goto (tgt := 41) dX8_find_71 rfl ?_
            exact ih (i + 1) _ _ ⟨by omega, by omega, fun j q1 q2 => by
              by_cases q3 : j = i
              · subst q3; exact zb_0.1 h63
              · exact hi.2.2 j q1 (by omega)⟩ (by omega) rfl rfl
          ·
            refine q_iload_n dX8_find_66 rfl ?_
            refine q_ireturn dX8_find_67 ?_
            exact mpx_k rfl ⟨Or.inr ⟨hi.1, h46, zb_1.1 ((zb_01 _).resolve_left h63), hi.2.2⟩, MS_rf _⟩
        refine q_iconst dX8_find_74 ?_
        refine q_ireturn dX8_find_75 ?_
        exact mpx_k rfl ⟨Or.inl ⟨rfl, fun j q1 q2 => hi.2.2 j q1 (by omega)⟩, MS_rf _⟩
      ·
        refine q_iconst dX8_find_32 ?_
        refine q_ireturn dX8_find_33 ?_
        exact mpx_g (zbn h29)
/-- n bytes F behind those in the buffer -/
def apW (M : qM) (F : Int → Int) (n : Int) : qM := fun o i => if o = 48 ∧ M 37 21 ≤ i ∧ i < M 37 21 + n then F (i - M 37 21) else M o i
def apF (a b c d e : Int) : Int → Int := fun k => (wl5 a b c d e).getD k.toNat 0
set_option maxHeartbeats 1500000 in
theorem o_append (hM : MI M) : qCt mX8_append 0 0 [.ref 37, .int (zI a), .int (zI b), .int (zI c), .int (zI d), .int (zI e)] M (qpg (fun z M' => (M 37 21 + 20 ≤ 700 ∧ z = M 37 21 + 20 ∧ MS (qup (apW (qup M 37 0 0) (apF a b c d e) 20) 37 21 (M 37 21 + 20)) M') ∨ (¬ M 37 21 + 20 ≤ 700 ∧ z = -1 ∧ MS (qup M 37 0 0) M'))) := by
  have hb := hM.2.2.2.2.2.2.2.2.1
  have e21 : ∀ g, qup M 37 0 g 37 21 = M 37 21 := fun g => qup_k _ _ _ (by decide)
  refine q_intro (own := 8) (L := [some (.ref 37), some (.int (zI a)), some (.int (zI b)), some (.int (zI c)), some (.int (zI d)), some (.int (zI e)), none, none]) md_X8_append rfl rfl rfl (Nat.le_of_ble_eq_true rfl) (fun X => ?_)
  refine q_aload_n dX8_append_0 rfl ?_
  refine q_iconst dX8_append_1 ?_
  refine q_puti (j := 0) dX8_append_2 fl_8_57 rfl rfl rfl rfl rfl ?_
  refine q_aload_n dX8_append_5 rfl ?_
  refine q_geti (j := 21) dX8_append_6 fl_8_152 rfl rfl rfl ?_
  rw [e21]
  refine q_bipush dX8_append_9 rfl ?_
  refine q_iadd dX8_append_11 ?_
  refine q_sipush dX8_append_12 rfl ?_
  refine q_icmp_le (tgt := 20) dX8_append_15 rfl (by (first | (unfold zR; omega) | (unfold zLR; omega) | omega | (simp only [zR, qup] at *; omega) | (simp [zR, qup]; omega) | (simp [zR, qup]; done))) (by (first | (unfold zR; omega) | (unfold zLR; omega) | omega | (simp only [zR, qup] at *; omega) | (simp [zR, qup]; omega) | (simp [zR, qup]; done))) (fun h15 => ?_) (fun h15 => ?_)
  ·
    refine q_iconst dX8_append_20 ?_
    refine q_istore dX8_append_21 (Nat.le_of_ble_eq_true rfl) rfl ?_
    have a21 : ∀ n, apW (qup M 37 0 0) (apF a b c d e) n 37 21 = M 37 21 := fun n => by unfold apW; rw [if_neg (fun w => by have := w.1; omega), e21]
    refine q_lp (fun i : Int => (20 - i).toNat) (fun i => 0 ≤ i ∧ i ≤ 20) (fun i => [some (.ref 37), some (.int (zI a)), some (.int (zI b)), some (.int (zI c)), some (.int (zI d)), some (.int (zI e)), some (.int (zI i)), none]) (fun i => apW (qup M 37 0 0) (apF a b c d e) i) 0 rfl (by funext u j; unfold apW; rw [if_neg (by omega)]) ⟨by omega, by omega⟩ (fun i hi ih => ?_)
    have hnx : ∀ v, v = apF a b c d e i → qup (apW (qup M 37 0 0) (apF a b c d e) i) 48 (M 37 21 + i) v = apW (qup M 37 0 0) (apF a b c d e) (i + 1) := fun v hv => by
      funext u j
      unfold apW
      rw [e21]
      by_cases g : u = 48
      · subst g
        by_cases g2 : j = M 37 21 + i
        · subst g2; rw [qup_s, if_pos ⟨rfl, by omega, by omega⟩, hv, show M 37 21 + i - M 37 21 = i by omega]
        · rw [qup_k _ _ _ g2]
          by_cases g3 : M 37 21 ≤ j ∧ j < M 37 21 + i
          · rw [if_pos ⟨rfl, g3⟩, if_pos ⟨rfl, g3.1, by omega⟩]
          · rw [if_neg (fun w => g3 w.2), if_neg (by omega)]
      · rw [qup_o _ _ _ _ g, if_neg (fun w => g w.1), if_neg (fun w => g w.1)]
    have hr : 24 - 8 * zrem i 4 = 24 - 8 * (i % 4) := by rw [zrem_i hi.1 (by omega) (by decide) (by decide)]
    refine q_iload dX8_append_23 rfl ?_
    refine q_bipush dX8_append_25 rfl ?_
    refine q_icmp_ge (tgt := 113) dX8_append_27 rfl (by (first | (unfold zR; omega) | (unfold zLR; omega) | omega | (simp only [zR, qup] at *; omega) | (simp [zR, qup]; omega) | (simp [zR, qup]; done))) (by (first | (unfold zR; omega) | (unfold zLR; omega) | omega | (simp only [zR, qup] at *; omega) | (simp [zR, qup]; omega) | (simp [zR, qup]; done))) (fun h27 => ?_) (fun h27 => ?_)
    ·
      refine q_aload_n dX8_append_113 rfl ?_
      refine q_dup dX8_append_114 rfl ?_
      refine q_geti (j := 21) dX8_append_115 fl_8_152 rfl rfl rfl ?_
      rw [a21]
      refine q_bipush dX8_append_118 rfl ?_
      refine q_iadd dX8_append_120 ?_
      refine q_puti (j := 21) dX8_append_121 fl_8_152 rfl rfl rfl rfl rfl ?_
      have hi2 : i = 20 := by omega
      subst hi2
      refine q_aload_n dX8_append_124 rfl ?_
      refine q_geti (j := 21) dX8_append_125 fl_8_152 rfl rfl rfl ?_
      rw [qup_s]
      refine q_ireturn dX8_append_128 ?_
      exact ⟨_, rfl, Or.inl ⟨by omega, rfl, MS_rf _⟩⟩
    ·
      refine q_iload dX8_append_30 rfl ?_
      refine q_iconst dX8_append_32 ?_
      refine q_icmp_ge (tgt := 40) dX8_append_33 rfl (by (first | (unfold zR; omega) | (unfold zLR; omega) | omega | (simp only [zR, qup] at *; omega) | (simp [zR, qup]; omega) | (simp [zR, qup]; done))) (by (first | (unfold zR; omega) | (unfold zLR; omega) | omega | (simp only [zR, qup] at *; omega) | (simp [zR, qup]; omega) | (simp [zR, qup]; done))) (fun h33 => ?_) (fun h33 => ?_)
      ·
        refine q_iload dX8_append_40 rfl ?_
        refine q_bipush dX8_append_42 rfl ?_
        refine q_icmp_ge (tgt := 51) dX8_append_44 rfl (by (first | (unfold zR; omega) | (unfold zLR; omega) | omega | (simp only [zR, qup] at *; omega) | (simp [zR, qup]; omega) | (simp [zR, qup]; done))) (by (first | (unfold zR; omega) | (unfold zLR; omega) | omega | (simp only [zR, qup] at *; omega) | (simp [zR, qup]; omega) | (simp [zR, qup]; done))) (fun h44 => ?_) (fun h44 => ?_)
        ·
          refine q_iload dX8_append_51 rfl ?_
          refine q_bipush dX8_append_53 rfl ?_
          refine q_icmp_ge (tgt := 62) dX8_append_55 rfl (by (first | (unfold zR; omega) | (unfold zLR; omega) | omega | (simp only [zR, qup] at *; omega) | (simp [zR, qup]; omega) | (simp [zR, qup]; done))) (by (first | (unfold zR; omega) | (unfold zLR; omega) | omega | (simp only [zR, qup] at *; omega) | (simp [zR, qup]; omega) | (simp [zR, qup]; done))) (fun h55 => ?_) (fun h55 => ?_)
          ·
            refine q_iload dX8_append_62 rfl ?_
            refine q_bipush dX8_append_64 rfl ?_
            refine q_icmp_ge (tgt := 74) dX8_append_66 rfl (by (first | (unfold zR; omega) | (unfold zLR; omega) | omega | (simp only [zR, qup] at *; omega) | (simp [zR, qup]; omega) | (simp [zR, qup]; done))) (by (first | (unfold zR; omega) | (unfold zLR; omega) | omega | (simp only [zR, qup] at *; omega) | (simp [zR, qup]; omega) | (simp [zR, qup]; done))) (fun h66 => ?_) (fun h66 => ?_)
            ·
              refine q_iload dX8_append_74 rfl ?_
              refine q_istore dX8_append_76 (Nat.le_of_ble_eq_true rfl) rfl ?_
              refine q_aload_n dX8_append_78 rfl ?_
              refine q_getr dX8_append_79 fl_8_41 rfl rfl ?_
              refine q_aload_n dX8_append_82 rfl ?_
              refine q_geti (j := 21) dX8_append_83 fl_8_152 rfl rfl rfl ?_
              rw [a21]
              refine q_iload dX8_append_86 rfl ?_
              refine q_iadd dX8_append_88 ?_
              refine q_iload dX8_append_89 rfl ?_
              refine q_bipush dX8_append_91 rfl ?_
              refine q_bipush dX8_append_93 rfl ?_
              refine q_iload dX8_append_95 rfl ?_
              refine q_iconst dX8_append_97 ?_
              refine q_irem dX8_append_98 (by (first | (unfold zR; omega) | (unfold zLR; omega) | omega | (simp only [zR, qup] at *; omega) | (simp [zR, qup]; omega) | (simp [zR, qup]; done))) (by (first | (unfold zR; omega) | (unfold zLR; omega) | omega | (simp only [zR, qup] at *; omega) | (simp [zR, qup]; omega) | (simp [zR, qup]; done))) ?_
              refine q_imul dX8_append_99 ?_
              refine q_isub dX8_append_100 ?_
              rw [hr]
              refine q_ishr dX8_append_101 ?_
              refine q_sipush dX8_append_102 rfl ?_
              refine q_iand dX8_append_105 ?_
              refine q_iast dX8_append_106 rfl (by (first | (unfold zR; omega) | (unfold zLR; omega) | omega | (simp only [zR, qup] at *; omega) | (simp [zR, qup]; omega) | (simp [zR, qup]; done))) (Nat.le_of_ble_eq_true rfl) ?_
              rw [hnx _ (by
                have g : i = 16 ∨ i = 17 ∨ i = 18 ∨ i = 19 := by omega
                rcases g with rfl | rfl | rfl | rfl <;> rfl)]
              refine q_iinc dX8_append_107 rfl (Nat.le_of_ble_eq_true rfl) rfl ?_
              refine q_goto (tgt := 23) dX8_append_110 rfl ?_
              refine q_wk _ ?_ (ih (i + 1) _ _ ⟨by omega, by omega⟩ (by omega) rfl rfl)
              simp only [wkB]
              (repeat (first | exact rfl | exact trivial | refine ⟨rfl, ?_⟩))
            ·
              refine q_iload dX8_append_69 rfl ?_
              refine q_goto (tgt := 76) dX8_append_71 rfl ?_
              refine q_istore dX8_append_76 (Nat.le_of_ble_eq_true rfl) rfl ?_
              refine q_aload_n dX8_append_78 rfl ?_
              refine q_getr dX8_append_79 fl_8_41 rfl rfl ?_
              refine q_aload_n dX8_append_82 rfl ?_
              refine q_geti (j := 21) dX8_append_83 fl_8_152 rfl rfl rfl ?_
              rw [a21]
              refine q_iload dX8_append_86 rfl ?_
              refine q_iadd dX8_append_88 ?_
              refine q_iload dX8_append_89 rfl ?_
              refine q_bipush dX8_append_91 rfl ?_
              refine q_bipush dX8_append_93 rfl ?_
              refine q_iload dX8_append_95 rfl ?_
              refine q_iconst dX8_append_97 ?_
              refine q_irem dX8_append_98 (by (first | (unfold zR; omega) | (unfold zLR; omega) | omega | (simp only [zR, qup] at *; omega) | (simp [zR, qup]; omega) | (simp [zR, qup]; done))) (by (first | (unfold zR; omega) | (unfold zLR; omega) | omega | (simp only [zR, qup] at *; omega) | (simp [zR, qup]; omega) | (simp [zR, qup]; done))) ?_
              refine q_imul dX8_append_99 ?_
              refine q_isub dX8_append_100 ?_
              rw [hr]
              refine q_ishr dX8_append_101 ?_
              refine q_sipush dX8_append_102 rfl ?_
              refine q_iand dX8_append_105 ?_
              refine q_iast dX8_append_106 rfl (by (first | (unfold zR; omega) | (unfold zLR; omega) | omega | (simp only [zR, qup] at *; omega) | (simp [zR, qup]; omega) | (simp [zR, qup]; done))) (Nat.le_of_ble_eq_true rfl) ?_
              rw [hnx _ (by
                have g : i = 12 ∨ i = 13 ∨ i = 14 ∨ i = 15 := by omega
                rcases g with rfl | rfl | rfl | rfl <;> rfl)]
              refine q_iinc dX8_append_107 rfl (Nat.le_of_ble_eq_true rfl) rfl ?_
              refine q_goto (tgt := 23) dX8_append_110 rfl ?_
              refine q_wk _ ?_ (ih (i + 1) _ _ ⟨by omega, by omega⟩ (by omega) rfl rfl)
              simp only [wkB]
              (repeat (first | exact rfl | exact trivial | refine ⟨rfl, ?_⟩))
          ·
            refine q_iload_n dX8_append_58 rfl ?_
            refine q_goto (tgt := 76) dX8_append_59 rfl ?_
            refine q_istore dX8_append_76 (Nat.le_of_ble_eq_true rfl) rfl ?_
            refine q_aload_n dX8_append_78 rfl ?_
            refine q_getr dX8_append_79 fl_8_41 rfl rfl ?_
            refine q_aload_n dX8_append_82 rfl ?_
            refine q_geti (j := 21) dX8_append_83 fl_8_152 rfl rfl rfl ?_
            rw [a21]
            refine q_iload dX8_append_86 rfl ?_
            refine q_iadd dX8_append_88 ?_
            refine q_iload dX8_append_89 rfl ?_
            refine q_bipush dX8_append_91 rfl ?_
            refine q_bipush dX8_append_93 rfl ?_
            refine q_iload dX8_append_95 rfl ?_
            refine q_iconst dX8_append_97 ?_
            refine q_irem dX8_append_98 (by (first | (unfold zR; omega) | (unfold zLR; omega) | omega | (simp only [zR, qup] at *; omega) | (simp [zR, qup]; omega) | (simp [zR, qup]; done))) (by (first | (unfold zR; omega) | (unfold zLR; omega) | omega | (simp only [zR, qup] at *; omega) | (simp [zR, qup]; omega) | (simp [zR, qup]; done))) ?_
            refine q_imul dX8_append_99 ?_
            refine q_isub dX8_append_100 ?_
            rw [hr]
            refine q_ishr dX8_append_101 ?_
            refine q_sipush dX8_append_102 rfl ?_
            refine q_iand dX8_append_105 ?_
            refine q_iast dX8_append_106 rfl (by (first | (unfold zR; omega) | (unfold zLR; omega) | omega | (simp only [zR, qup] at *; omega) | (simp [zR, qup]; omega) | (simp [zR, qup]; done))) (Nat.le_of_ble_eq_true rfl) ?_
            rw [hnx _ (by
              have g : i = 8 ∨ i = 9 ∨ i = 10 ∨ i = 11 := by omega
              rcases g with rfl | rfl | rfl | rfl <;> rfl)]
            refine q_iinc dX8_append_107 rfl (Nat.le_of_ble_eq_true rfl) rfl ?_
            refine q_goto (tgt := 23) dX8_append_110 rfl ?_
            refine q_wk _ ?_ (ih (i + 1) _ _ ⟨by omega, by omega⟩ (by omega) rfl rfl)
            simp only [wkB]
            (repeat (first | exact rfl | exact trivial | refine ⟨rfl, ?_⟩))
        ·
          refine q_iload_n dX8_append_47 rfl ?_
          refine q_goto (tgt := 76) dX8_append_48 rfl ?_
          refine q_istore dX8_append_76 (Nat.le_of_ble_eq_true rfl) rfl ?_
          refine q_aload_n dX8_append_78 rfl ?_
          refine q_getr dX8_append_79 fl_8_41 rfl rfl ?_
          refine q_aload_n dX8_append_82 rfl ?_
          refine q_geti (j := 21) dX8_append_83 fl_8_152 rfl rfl rfl ?_
          rw [a21]
          refine q_iload dX8_append_86 rfl ?_
          refine q_iadd dX8_append_88 ?_
          refine q_iload dX8_append_89 rfl ?_
          refine q_bipush dX8_append_91 rfl ?_
          refine q_bipush dX8_append_93 rfl ?_
          refine q_iload dX8_append_95 rfl ?_
          refine q_iconst dX8_append_97 ?_
          refine q_irem dX8_append_98 (by (first | (unfold zR; omega) | (unfold zLR; omega) | omega | (simp only [zR, qup] at *; omega) | (simp [zR, qup]; omega) | (simp [zR, qup]; done))) (by (first | (unfold zR; omega) | (unfold zLR; omega) | omega | (simp only [zR, qup] at *; omega) | (simp [zR, qup]; omega) | (simp [zR, qup]; done))) ?_
          refine q_imul dX8_append_99 ?_
          refine q_isub dX8_append_100 ?_
          rw [hr]
          refine q_ishr dX8_append_101 ?_
          refine q_sipush dX8_append_102 rfl ?_
          refine q_iand dX8_append_105 ?_
          refine q_iast dX8_append_106 rfl (by (first | (unfold zR; omega) | (unfold zLR; omega) | omega | (simp only [zR, qup] at *; omega) | (simp [zR, qup]; omega) | (simp [zR, qup]; done))) (Nat.le_of_ble_eq_true rfl) ?_
          rw [hnx _ (by
            have g : i = 4 ∨ i = 5 ∨ i = 6 ∨ i = 7 := by omega
            rcases g with rfl | rfl | rfl | rfl <;> rfl)]
          refine q_iinc dX8_append_107 rfl (Nat.le_of_ble_eq_true rfl) rfl ?_
          refine q_goto (tgt := 23) dX8_append_110 rfl ?_
          refine q_wk _ ?_ (ih (i + 1) _ _ ⟨by omega, by omega⟩ (by omega) rfl rfl)
          simp only [wkB]
          (repeat (first | exact rfl | exact trivial | refine ⟨rfl, ?_⟩))
      ·
        refine q_iload_n dX8_append_36 rfl ?_
        refine q_goto (tgt := 76) dX8_append_37 rfl ?_
        refine q_istore dX8_append_76 (Nat.le_of_ble_eq_true rfl) rfl ?_
        refine q_aload_n dX8_append_78 rfl ?_
        refine q_getr dX8_append_79 fl_8_41 rfl rfl ?_
        refine q_aload_n dX8_append_82 rfl ?_
        refine q_geti (j := 21) dX8_append_83 fl_8_152 rfl rfl rfl ?_
        rw [a21]
        refine q_iload dX8_append_86 rfl ?_
        refine q_iadd dX8_append_88 ?_
        refine q_iload dX8_append_89 rfl ?_
        refine q_bipush dX8_append_91 rfl ?_
        refine q_bipush dX8_append_93 rfl ?_
        refine q_iload dX8_append_95 rfl ?_
        refine q_iconst dX8_append_97 ?_
        refine q_irem dX8_append_98 (by (first | (unfold zR; omega) | (unfold zLR; omega) | omega | (simp only [zR, qup] at *; omega) | (simp [zR, qup]; omega) | (simp [zR, qup]; done))) (by (first | (unfold zR; omega) | (unfold zLR; omega) | omega | (simp only [zR, qup] at *; omega) | (simp [zR, qup]; omega) | (simp [zR, qup]; done))) ?_
        refine q_imul dX8_append_99 ?_
        refine q_isub dX8_append_100 ?_
        rw [hr]
        refine q_ishr dX8_append_101 ?_
        refine q_sipush dX8_append_102 rfl ?_
        refine q_iand dX8_append_105 ?_
        refine q_iast dX8_append_106 rfl (by (first | (unfold zR; omega) | (unfold zLR; omega) | omega | (simp only [zR, qup] at *; omega) | (simp [zR, qup]; omega) | (simp [zR, qup]; done))) (Nat.le_of_ble_eq_true rfl) ?_
        rw [hnx _ (by
          have g : i = 0 ∨ i = 1 ∨ i = 2 ∨ i = 3 := by omega
          rcases g with rfl | rfl | rfl | rfl <;> rfl)]
        refine q_iinc dX8_append_107 rfl (Nat.le_of_ble_eq_true rfl) rfl ?_
        refine q_goto (tgt := 23) dX8_append_110 rfl ?_
        refine q_wk _ ?_ (ih (i + 1) _ _ ⟨by omega, by omega⟩ (by omega) rfl rfl)
        simp only [wkB]
        (repeat (first | exact rfl | exact trivial | refine ⟨rfl, ?_⟩))
  ·
    refine q_iconst dX8_append_18 ?_
    refine q_ireturn dX8_append_19 ?_
    exact ⟨_, rfl, Or.inr ⟨by omega, rfl, MS_rf _⟩⟩
end MNM


/-! QuarterMaps$Tree: measuring. -/
def kf (K : Int → Int) (l : Nat) (b : Int) : Nat → Int := fun q => K (nd (l : Int) (4 * b + (q : Int)))
def lk (f : Nat → Int) : Nat → Int
  | 0 => -1
  | i + 1 => if ckind (f i) (lk f i) = 2 then f i else lk f i
def gk (f : Nat → Int) (i : Nat) : Int := ckind (f i) (lk f i)
def sm (f s : Nat → Int) : Nat → Int
  | 0 => 1
  | i + 1 => sm f s i + if gk f i = 2 then s i else 0
def fupq (C : Int → Int) (base : Int) (g : Nat → Int) (i : Nat) : Int → Int := fun j => if base ≤ j ∧ j < base + i then g (j - base).toNat else C j
theorem fupq_0 (C : Int → Int) (base : Int) (g : Nat → Int) : fupq C base g 0 = C := by
  funext j
  exact if_neg (by omega)
theorem fupq_s (C : Int → Int) (base : Int) (g : Nat → Int) (i : Nat) : fup (fupq C base g i) (base + i) (g i) = fupq C base g (i + 1) := by
  funext j
  unfold fup fupq
  by_cases h : j = base + i
  · rw [if_pos h, if_pos (by omega)]
    congr 1
    omega
  · rw [if_neg h]
    by_cases h2 : base ≤ j ∧ j < base + i
    · rw [if_pos h2, if_pos (by omega)]
    · rw [if_neg h2, if_neg (by omega)]
theorem fupq_at {C : Int → Int} {base : Int} {g : Nat → Int} {i q : Nat} (h : q < i) : fupq C base g i (base + q) = g q := by
  unfold fupq
  rw [if_pos (by omega)]
  congr 1
  omega
theorem fupq_n {C : Int → Int} {base j : Int} {g : Nat → Int} {i : Nat} (h : ∀ q : Nat, q < i → j ≠ base + q) : fupq C base g i j = C j := by
  unfold fupq
  refine if_neg (fun q => ?_)
  exact h (j - base).toNat (by omega) (by omega)
theorem fup_R {f : Int → Int} {k v : Int} (hf : ∀ j, zR (f j)) (hv : zR v) : ∀ j, zR (fup f k v j) := by
  intro j
  unfold fup
  by_cases e : j = k
  · rw [if_pos e]; exact hv
  · rw [if_neg e]; exact hf j
theorem nd_add (l x : Int) (q : Int) : nd l (x + q) = nd l x + q := by unfold nd; omega
theorem ckind_in {k last : Int} (h : 0 ≤ k) : 0 ≤ ckind k last ∧ ckind k last < 4 := by
  unfold ckind
  by_cases h0 : k = 0 ∨ k = 1
  · rw [if_pos h0]; omega
  · rw [if_neg h0]
    by_cases h1 : k = last
    · rw [if_pos h1]; omega
    · rw [if_neg h1]; omega
theorem lk_in {f : Nat → Int} (hf : ∀ q, q < 4 → 0 ≤ f q ∧ f q < 256) : ∀ i : Nat, i ≤ 4 → -1 ≤ lk f i ∧ lk f i < 256 := by
  intro i
  induction i with
  | zero => intro _; simp [lk]
  | succ i ih =>
    intro hi
    have h1 := ih (by omega)
    have h2 := hf i (by omega)
    rw [lk]
    by_cases h : ckind (f i) (lk f i) = 2
    · rw [if_pos h]; omega
    · rw [if_neg h]; exact h1
set_option maxHeartbeats 2000000 in
theorem c_kindOfKey {l L : Nat} {key : Int} {M : qM} (hl : 1 ≤ l ∧ l ≤ L ∧ L ≤ 4) (hL : M 5 8 = (L : Int)) (hkey : zR key) (hY : ∀ j, zR (M 13 j)) : qCt mX6_kindOfKey 0 1 [.ref 5, .int (zI (l : Int)), .int (zI key)] M (qpg (fun z M' => M' = M ∧ kkP (fun g => M 13 (nd (l : Int) g)) (p4 ((L : Int) - l)) key z)) := by
  have hp := p4_in ((L : Int) - l)
  have hp4 : p4 ((L : Int) - l) ≤ p4 (4 - l) := p4_le (by omega)
  refine q_intro (own := 6) (L := [some (.ref 5), some (.int (zI (l : Int))), some (.int (zI key)), none, none, none]) md_X6_kindOfKey rfl rfl rfl (Nat.le_of_ble_eq_true rfl) (fun X => ?_)
  refine q_iload_n dX6_kindOfKey_0 rfl ?_
  refine q_if_ne (tgt := 6) dX6_kindOfKey_1 rfl (by exact hkey) (fun h1 => ?_) (fun h1 => ?_)
  rotate_left
  ·
    refine q_iconst dX6_kindOfKey_4 ?_
    refine q_ireturn dX6_kindOfKey_5 ?_
    exact ⟨0, rfl, rfl, Or.inl ⟨h1, rfl⟩⟩
  refine q_iload_n dX6_kindOfKey_6 rfl ?_
  refine q_ldc dX6_kindOfKey_7 k_6_84 ?_
  refine q_icmp_ne (tgt := 14) dX6_kindOfKey_9 rfl (by exact hkey) (by (first | (unfold zR; omega) | (unfold zLR; omega) | omega | (simp only [zR, qup] at *; omega) | (simp [zR, qup]; omega) | (simp [zR, qup]; done))) (fun h9 => ?_) (fun h9 => ?_)
  rotate_left
  ·
    refine q_iconst dX6_kindOfKey_12 ?_
    refine q_ireturn dX6_kindOfKey_13 ?_
    exact ⟨1, rfl, rfl, Or.inr (Or.inl ⟨h9, rfl⟩)⟩
  refine q_iload_n dX6_kindOfKey_14 rfl ?_
  refine q_iconst dX6_kindOfKey_15 ?_
  refine q_S2 dX6_kindOfKey_16 ml_6_72 md_X6_node (c_node (by omega)) rfl (by first | decide | omega) (Nat.le_of_ble_eq_true rfl) (Nat.le_of_ble_eq_true rfl) (qk_e ?_)
  refine q_istore_n dX6_kindOfKey_19 (Nat.le_of_ble_eq_true rfl) rfl ?_
  refine q_iload_n dX6_kindOfKey_20 rfl ?_
  refine q_aload_n dX6_kindOfKey_21 rfl ?_
  refine q_geti (j := 8) dX6_kindOfKey_22 fl_6_43 rfl rfl rfl ?_
  rw [hL]
  refine q_N2 dX6_kindOfKey_25 (by decide +kernel) md_X7_blocksAt (c_blocksAt (by omega)) rfl (by first | decide | omega) (Nat.le_of_ble_eq_true rfl) (Nat.le_of_ble_eq_true rfl) (qk_e ?_)
  refine q_istore dX6_kindOfKey_28 (Nat.le_of_ble_eq_true rfl) rfl ?_
  refine q_iconst dX6_kindOfKey_30 ?_
  refine q_istore dX6_kindOfKey_31 (Nat.le_of_ble_eq_true rfl) rfl ?_
  refine q_lp (fun b : Int => (p4 ((L : Int) - l) - b).toNat) (fun b => 0 ≤ b ∧ b ≤ p4 ((L : Int) - l) ∧ ∀ g, 0 ≤ g → g < b → M 13 (nd (l : Int) g) ≠ key) (fun b => [some (.ref 5), some (.int (zI (l : Int))), some (.int (zI key)), some (.int (zI (nd (l : Int) 0))), some (.int (zI (p4 ((L : Int) - l)))), some (.int (zI b))]) (fun _ => M) 0 rfl rfl ⟨by omega, by omega, fun g g0 g1 => by omega⟩ (fun b hb ih => ?_)
  obtain ⟨hb1, hb2, hb3⟩ := hb
  refine q_iload dX6_kindOfKey_33 rfl ?_
  refine q_iload dX6_kindOfKey_35 rfl ?_
  refine q_icmp_ge (tgt := 66) dX6_kindOfKey_37 rfl (by (first | (unfold zR; omega) | (unfold zLR; omega) | omega | (simp only [zR, qup] at *; omega) | (simp [zR, qup]; omega) | (simp [zR, qup]; done))) (by (first | (unfold zR; omega) | (unfold zLR; omega) | omega | (simp only [zR, qup] at *; omega) | (simp [zR, qup]; omega) | (simp [zR, qup]; done))) (fun h37 => ?_) (fun h37 => ?_)
  ·
    refine q_bipush dX6_kindOfKey_66 rfl ?_
    refine q_ireturn dX6_kindOfKey_68 ?_
    exact ⟨-2, rfl, rfl, Or.inr (Or.inr ⟨h1, h9, Or.inr ⟨fun g g0 g1 => hb3 g g0 (by omega), rfl⟩⟩)⟩
  refine q_aload_n dX6_kindOfKey_40 rfl ?_
  refine q_getr dX6_kindOfKey_41 fl_6_20 rfl rfl ?_
  refine q_iload_n dX6_kindOfKey_44 rfl ?_
  refine q_iload dX6_kindOfKey_45 rfl ?_
  refine q_iadd dX6_kindOfKey_47 ?_
  have hn := nd_in (l := (l : Int)) (x := b) (by omega) (by omega)
  rw [show nd (l : Int) 0 + b = nd (l : Int) b by unfold nd; omega]
  refine q_V1 dX6_kindOfKey_48 ml_6_75 md_X5_get (c_rget (o := 7) (r := 13) (n := 341) rfl rfl (by omega) (by omega)) rfl rfl rfl (by first | decide | omega) (Nat.le_of_ble_eq_true rfl) (Nat.le_of_ble_eq_true rfl) (qk_e ?_)
  refine q_iload_n dX6_kindOfKey_51 rfl ?_
  refine q_icmp_ne (tgt := 60) dX6_kindOfKey_52 rfl (by exact hY _) (by exact hkey) (fun h52 => ?_) (fun h52 => ?_)
  ·
    refine q_iinc dX6_kindOfKey_60 rfl (Nat.le_of_ble_eq_true rfl) rfl ?_
    refine q_goto (tgt := 33) dX6_kindOfKey_63 rfl ?_
    exact ih (b + 1) _ _ ⟨by omega, by omega, fun g g0 g1 => by
      by_cases e : g = b
      · rw [e]; exact h52
      · exact hb3 g g0 (by omega)⟩ (by omega) rfl rfl
  refine q_iload dX6_kindOfKey_55 rfl ?_
  refine q_iconst dX6_kindOfKey_57 ?_
  refine q_iadd dX6_kindOfKey_58 ?_
  refine q_ireturn dX6_kindOfKey_59 ?_
  exact ⟨b + 2, rfl, rfl, Or.inr (Or.inr ⟨h1, h9, Or.inl ⟨b, by omega, by omega, rfl, h52, hb3⟩⟩)⟩
set_option maxHeartbeats 4000000 in
theorem c_measureBlock {l L : Nat} {b : Int} {M : qM} {K Y S C T N : Int → Int} (hl : l < L ∧ L ≤ 4) (hb : 0 ≤ b ∧ b < p4 ((L : Int) - (l + 1))) (hL : M 5 8 = (L : Int)) (hY : ∀ j, zR (Y j)) (hK : ∀ q, q < 4 → 0 ≤ kf K l b q ∧ kf K l b q < 256) : qCt mX6_measureBlock 0 2 [.ref 5, .int (zI ((l : Int) + 1)), .int (zI b)] (tw M K Y S C T N) (qph (fun M' => ∃ z, kkP (fun g => fup Y (nd ((l : Int) + 1) b) (pkk (kf K l b) 4) (nd ((l : Int) + 1) g)) (p4 ((L : Int) - (l + 1))) (pkk (kf K l b) 4) z ∧ M' = tw M (fup K (nd ((l : Int) + 1) b) z) (fup Y (nd ((l : Int) + 1) b) (pkk (kf K l b) 4)) (fup S (nd ((l : Int) + 1) b) (sm (kf K l b) (fun q => S (nd (l : Int) (4 * b + (q : Int)))) 4)) (fupq C (nd (l : Int) (4 * b)) (gk (kf K l b)) 4) T N)) := by
  have hp4 : p4 ((L : Int) - (l + 1)) ≤ p4 (4 - ((l : Int) + 1)) := p4_le (by omega)
  have hps := p4_s (l := 4 - ((l : Int) + 1)) (by omega)
  rw [show (4 : Int) - (l + 1) + 1 = 4 - l by omega] at hps
  have hn : ∀ i : Nat, i < 4 → 0 ≤ nd (l : Int) (4 * b + (i : Int)) ∧ nd (l : Int) (4 * b + (i : Int)) < 341 := fun i hi => nd_in (by omega) (by omega)
  have hn1 : 0 ≤ nd ((l : Int) + 1) b ∧ nd ((l : Int) + 1) b < 341 := nd_in (by omega) (by omega)
  refine q_intro (own := 6) (L := [some (.ref 5), some (.int (zI ((l : Int) + 1))), some (.int (zI b)), none, none, none, none, none, none, none]) md_X6_measureBlock rfl rfl rfl (Nat.le_of_ble_eq_true rfl) (fun X => ?_)
  refine q_iconst dX6_measureBlock_0 ?_
  refine q_istore_n dX6_measureBlock_1 (Nat.le_of_ble_eq_true rfl) rfl ?_
  refine q_iconst dX6_measureBlock_2 ?_
  refine q_istore dX6_measureBlock_3 (Nat.le_of_ble_eq_true rfl) rfl ?_
  refine q_iconst dX6_measureBlock_5 ?_
  refine q_istore dX6_measureBlock_6 (Nat.le_of_ble_eq_true rfl) rfl ?_
  refine q_iconst dX6_measureBlock_8 ?_
  refine q_istore dX6_measureBlock_9 (Nat.le_of_ble_eq_true rfl) rfl ?_
  refine q_lp (fun i : Nat => 5 - i) (fun i => i ≤ 4) (fun i => [some (.ref 5), some (.int (zI ((l : Int) + 1))), some (.int (zI b)), some (.int (zI (lk (kf K l b) i))), some (.int (zI (sm (kf K l b) (fun q => S (nd (l : Int) (4 * b + (q : Int)))) i))), some (.int (zI (pkk (kf K l b) i))), some (.int (zI (i : Int))), none, none, none]) (fun i => tw M K Y S (fupq C (nd (l : Int) (4 * b)) (gk (kf K l b)) i) T N) 0 rfl (by rw [fupq_0]) (by omega) (fun i hi ih => ?_)
  refine q_iload dX6_measureBlock_11 rfl ?_
  refine q_iconst dX6_measureBlock_13 ?_
  refine q_icmp_ge (tgt := 103) dX6_measureBlock_14 rfl (by (first | (unfold zR; omega) | (unfold zLR; omega) | omega | (simp only [zR, qup] at *; omega) | (simp [zR, qup]; omega) | (simp [zR, qup]; done))) (by (first | (unfold zR; omega) | (unfold zLR; omega) | omega | (simp only [zR, qup] at *; omega) | (simp [zR, qup]; omega) | (simp [zR, qup]; done))) (fun h14 => ?_) (fun h14 => ?_)
  rotate_left
  ·
    refine q_iload_n dX6_measureBlock_17 rfl ?_
    refine q_iconst dX6_measureBlock_18 ?_
    refine q_isub dX6_measureBlock_19 ?_
    refine q_iconst dX6_measureBlock_20 ?_
    refine q_iload_n dX6_measureBlock_21 rfl ?_
    refine q_imul dX6_measureBlock_22 ?_
    refine q_iload dX6_measureBlock_23 rfl ?_
    refine q_iadd dX6_measureBlock_25 ?_
    rw [show (l : Int) + 1 - 1 = l by omega]
    have hki := hK i (by omega)
    have hlk := lk_in hK i (by omega)
    have hni := hn i (by omega)
    have hck := ckind_in (k := kf K l b i) (last := lk (kf K l b) i) hki.1
    refine q_S2 dX6_measureBlock_26 ml_6_72 md_X6_node (c_node (by omega)) rfl (by first | decide | omega) (Nat.le_of_ble_eq_true rfl) (Nat.le_of_ble_eq_true rfl) (qk_e ?_)
    refine q_istore dX6_measureBlock_29 (Nat.le_of_ble_eq_true rfl) rfl ?_
    refine q_aload_n dX6_measureBlock_31 rfl ?_
    refine q_getr dX6_measureBlock_32 fl_6_14 rfl rfl ?_
    refine q_iload dX6_measureBlock_35 rfl ?_
    refine q_V1 dX6_measureBlock_37 ml_6_75 md_X5_get (c_rget (o := 6) (r := 12) (n := 341) rfl rfl (by omega) hni) rfl rfl rfl (by first | decide | omega) (Nat.le_of_ble_eq_true rfl) (Nat.le_of_ble_eq_true rfl) (qk_e ?_)
    rw [tw_12]
    refine q_istore dX6_measureBlock_40 (Nat.le_of_ble_eq_true rfl) rfl ?_
    refine q_iload dX6_measureBlock_42 rfl ?_
    refine q_iload_n dX6_measureBlock_44 rfl ?_
    refine q_S2 dX6_measureBlock_45 ml_6_78 md_X6_codeOfKind (c_codeOfKind (show zR (kf K l b i) by (first | (unfold zR; omega) | (unfold zLR; omega) | omega | (simp only [zR, qup] at *; omega) | (simp [zR, qup]; omega) | (simp [zR, qup]; done))) (by (first | (unfold zR; omega) | (unfold zLR; omega) | omega | (simp only [zR, qup] at *; omega) | (simp [zR, qup]; omega) | (simp [zR, qup]; done)))) rfl (by first | decide | omega) (Nat.le_of_ble_eq_true rfl) (Nat.le_of_ble_eq_true rfl) (qk_e ?_)
    refine q_istore dX6_measureBlock_48 (Nat.le_of_ble_eq_true rfl) rfl ?_
    refine q_aload_n dX6_measureBlock_50 rfl ?_
    refine q_getr dX6_measureBlock_51 fl_6_26 rfl rfl ?_
    refine q_iload dX6_measureBlock_54 rfl ?_
    refine q_iload dX6_measureBlock_56 rfl ?_
    refine q_V2 dX6_measureBlock_58 ml_6_59 md_X5_set (c_rset (o := 9) (r := 15) (n := 341) rfl rfl (by omega) hni) rfl rfl rfl (by first | decide | omega) (Nat.le_of_ble_eq_true rfl) (Nat.le_of_ble_eq_true rfl) (qk_v ?_)
    rw [tw_u15, show fup (fupq C (nd (l : Int) (4 * b)) (gk (kf K l b)) i) (nd (l : Int) (4 * b + (i : Int))) (ckind (K (nd (l : Int) (4 * b + (i : Int)))) (lk (kf K l b) i)) = fupq C (nd (l : Int) (4 * b)) (gk (kf K l b)) (i + 1) from by have e := fupq_s C (nd (l : Int) (4 * b)) (gk (kf K l b)) i; rw [← nd_add] at e; exact e]
    refine q_iload dX6_measureBlock_61 rfl ?_
    refine q_iload dX6_measureBlock_63 rfl ?_
    refine q_bipush dX6_measureBlock_65 rfl ?_
    refine q_iload dX6_measureBlock_67 rfl ?_
    refine q_imul dX6_measureBlock_69 ?_
    refine q_ishl dX6_measureBlock_70 ?_
    refine q_ior dX6_measureBlock_71 ?_
    refine q_istore dX6_measureBlock_72 (Nat.le_of_ble_eq_true rfl) rfl ?_
    refine q_iload dX6_measureBlock_74 rfl ?_
    refine q_iconst dX6_measureBlock_76 ?_
    refine q_icmp_ne (tgt := 97) dX6_measureBlock_77 rfl (by exact ⟨by have := hck.1; show _ ≤ ckind (kf K l b i) (lk (kf K l b) i); omega, by have := hck.2; show ckind (kf K l b i) (lk (kf K l b) i) < _; omega⟩) (by (first | (unfold zR; omega) | (unfold zLR; omega) | omega | (simp only [zR, qup] at *; omega) | (simp [zR, qup]; omega) | (simp [zR, qup]; done))) (fun h77 => ?_) (fun h77 => ?_)
    ·
      refine q_iinc dX6_measureBlock_97 rfl (Nat.le_of_ble_eq_true rfl) rfl ?_
      refine q_goto (tgt := 11) dX6_measureBlock_100 rfl ?_
      have e1 : lk (kf K l b) (i + 1) = lk (kf K l b) i := if_neg h77
      have e2 : sm (kf K l b) (fun q => S (nd (l : Int) (4 * b + (q : Int)))) (i + 1) = sm (kf K l b) (fun q => S (nd (l : Int) (4 * b + (q : Int)))) i := by rw [sm, if_neg (show ¬ gk (kf K l b) i = 2 from h77), Int.add_zero]
      refine q_wk _ ?_ (ih (i + 1) _ _ (by omega) (by omega) rfl rfl)
      simp only [wkB, e1, e2]
      (repeat (first | exact rfl | exact trivial | refine ⟨rfl, ?_⟩))
    ·
      refine q_iload dX6_measureBlock_80 rfl ?_
      refine q_istore_n dX6_measureBlock_82 (Nat.le_of_ble_eq_true rfl) rfl ?_
      refine q_iload dX6_measureBlock_83 rfl ?_
      refine q_aload_n dX6_measureBlock_85 rfl ?_
      refine q_getr dX6_measureBlock_86 fl_6_23 rfl rfl ?_
      refine q_iload dX6_measureBlock_89 rfl ?_
      refine q_V1 dX6_measureBlock_91 ml_6_75 md_X5_get (c_rget (o := 8) (r := 14) (n := 341) rfl rfl (by omega) hni) rfl rfl rfl (by first | decide | omega) (Nat.le_of_ble_eq_true rfl) (Nat.le_of_ble_eq_true rfl) (qk_e ?_)
      rw [tw_14]
      refine q_iadd dX6_measureBlock_94 ?_
      refine q_istore dX6_measureBlock_95 (Nat.le_of_ble_eq_true rfl) rfl ?_
      refine q_iinc dX6_measureBlock_97 rfl (Nat.le_of_ble_eq_true rfl) rfl ?_
      refine q_goto (tgt := 11) dX6_measureBlock_100 rfl ?_
      have e1 : lk (kf K l b) (i + 1) = kf K l b i := if_pos h77
      have e2 : sm (kf K l b) (fun q => S (nd (l : Int) (4 * b + (q : Int)))) (i + 1) = sm (kf K l b) (fun q => S (nd (l : Int) (4 * b + (q : Int)))) i + S (nd (l : Int) (4 * b + (i : Int))) := by rw [sm, if_pos (show gk (kf K l b) i = 2 from h77)]
      refine q_wk _ ?_ (ih (i + 1) _ _ (by omega) (by omega) rfl rfl)
      simp only [wkB, e1, e2]
      (repeat (first | exact rfl | exact trivial | refine ⟨rfl, ?_⟩))
  have hi4 : i = 4 := by omega
  subst hi4
  refine q_aload_n dX6_measureBlock_103 rfl ?_
  refine q_getr dX6_measureBlock_104 fl_6_23 rfl rfl ?_
  refine q_iload_n dX6_measureBlock_107 rfl ?_
  refine q_iload_n dX6_measureBlock_108 rfl ?_
  refine q_S2 dX6_measureBlock_109 ml_6_72 md_X6_node (c_node (by omega)) rfl (by first | decide | omega) (Nat.le_of_ble_eq_true rfl) (Nat.le_of_ble_eq_true rfl) (qk_e ?_)
  refine q_iload dX6_measureBlock_112 rfl ?_
  refine q_V2 dX6_measureBlock_114 ml_6_59 md_X5_set (c_rset (o := 8) (r := 14) (n := 341) rfl rfl (by omega) hn1) rfl rfl rfl (by first | decide | omega) (Nat.le_of_ble_eq_true rfl) (Nat.le_of_ble_eq_true rfl) (qk_v ?_)
  rw [tw_u14]
  refine q_aload_n dX6_measureBlock_117 rfl ?_
  refine q_getr dX6_measureBlock_118 fl_6_20 rfl rfl ?_
  refine q_iload_n dX6_measureBlock_121 rfl ?_
  refine q_iload_n dX6_measureBlock_122 rfl ?_
  refine q_S2 dX6_measureBlock_123 ml_6_72 md_X6_node (c_node (by omega)) rfl (by first | decide | omega) (Nat.le_of_ble_eq_true rfl) (Nat.le_of_ble_eq_true rfl) (qk_e ?_)
  refine q_iload dX6_measureBlock_126 rfl ?_
  refine q_V2 dX6_measureBlock_128 ml_6_59 md_X5_set (c_rset (o := 7) (r := 13) (n := 341) rfl rfl (by omega) hn1) rfl rfl rfl (by first | decide | omega) (Nat.le_of_ble_eq_true rfl) (Nat.le_of_ble_eq_true rfl) (qk_v ?_)
  rw [tw_u13]
  refine q_aload_n dX6_measureBlock_131 rfl ?_
  refine q_getr dX6_measureBlock_132 fl_6_14 rfl rfl ?_
  refine q_iload_n dX6_measureBlock_135 rfl ?_
  refine q_iload_n dX6_measureBlock_136 rfl ?_
  refine q_S2 dX6_measureBlock_137 ml_6_72 md_X6_node (c_node (by omega)) rfl (by first | decide | omega) (Nat.le_of_ble_eq_true rfl) (Nat.le_of_ble_eq_true rfl) (qk_e ?_)
  refine q_aload_n dX6_measureBlock_140 rfl ?_
  refine q_iload_n dX6_measureBlock_141 rfl ?_
  refine q_iload dX6_measureBlock_142 rfl ?_
  refine q_V2 dX6_measureBlock_144 ml_6_81 md_X6_kindOfKey (c_kindOfKey (l := l + 1) (L := L) (by omega) hL (pkk_R _ 4) (fup_R hY (pkk_R _ 4))) rfl rfl rfl (by first | decide | omega) (Nat.le_of_ble_eq_true rfl) (Nat.le_of_ble_eq_true rfl) (qk_g (fun z144 N144 hq144 => ?_))
  obtain ⟨rfl, hz⟩ := hq144
  refine q_V2 dX6_measureBlock_147 ml_6_59 md_X5_set (c_rset (o := 6) (r := 12) (n := 341) rfl rfl (by omega) hn1) rfl rfl rfl (by first | decide | omega) (Nat.le_of_ble_eq_true rfl) (Nat.le_of_ble_eq_true rfl) (qk_v ?_)
  rw [tw_u12]
  refine q_return dX6_measureBlock_150 ?_
  exact ⟨rfl, z144, hz, rfl⟩


/-! QuarterMaps$Tree: the laying out, and measure. -/
def fupc (T : Int → Int) (base : Int) (w g : Nat → Int) (i : Nat) : Int → Int := fun j => if base ≤ j ∧ j < base + i ∧ w (j - base).toNat = 2 then g (j - base).toNat else T j
theorem fupc_0 (T : Int → Int) (base : Int) (w g : Nat → Int) : fupc T base w g 0 = T := by
  funext j
  exact if_neg (by omega)
theorem fupc_s {T : Int → Int} {base : Int} {w g : Nat → Int} {i : Nat} (h : w i = 2) : fup (fupc T base w g i) (base + i) (g i) = fupc T base w g (i + 1) := by
  funext j
  unfold fup fupc
  by_cases e : j = base + i
  · rw [if_pos e]
    have : (j - base).toNat = i := by omega
    rw [this, if_pos ⟨by omega, by omega, h⟩]
  · rw [if_neg e]
    by_cases h2 : base ≤ j ∧ j < base + i ∧ w (j - base).toNat = 2
    · rw [if_pos h2, if_pos ⟨h2.1, by omega, h2.2.2⟩]
    · rw [if_neg h2, if_neg (fun q => h2 ⟨q.1, by omega, q.2.2⟩)]
theorem fupc_k {T : Int → Int} {base : Int} {w g : Nat → Int} {i : Nat} (h : ¬ w i = 2) : fupc T base w g i = fupc T base w g (i + 1) := by
  funext j
  unfold fupc
  by_cases h2 : base ≤ j ∧ j < base + i ∧ w (j - base).toNat = 2
  · rw [if_pos h2, if_pos ⟨h2.1, by omega, h2.2.2⟩]
  · rw [if_neg h2, if_neg (fun q => h2 ⟨q.1, by
      have : j ≠ base + i := fun e => h (by have := q.2.2; rwa [show (j - base).toNat = i by omega] at this)
      omega, q.2.2⟩)]
theorem fupc_at {T : Int → Int} {base : Int} {w g : Nat → Int} {i q : Nat} (h : q < i) : fupc T base w g i (base + q) = if w q = 2 then g q else T (base + q) := by
  unfold fupc
  have : (base + (q : Int) - base).toNat = q := by omega
  rw [this]
  by_cases e : w q = 2
  · rw [if_pos e, if_pos ⟨by omega, by omega, e⟩]
  · rw [if_neg e, if_neg (fun r => e r.2.2)]
theorem fupc_n {T : Int → Int} {base j : Int} {w g : Nat → Int} {i : Nat} (h : ∀ q : Nat, q < i → j ≠ base + q) : fupc T base w g i j = T j := by
  unfold fupc
  refine if_neg (fun q => ?_)
  exact h (j - base).toNat (by omega) (by omega)
set_option maxHeartbeats 2000000 in
theorem c_isTold {l b : Int} {M : qM} (h : 0 ≤ l ∧ l ≤ 4) (hn : 0 ≤ nd l b ∧ nd l b < 341) (hz : zR (M 16 (nd l b))) : qCt mX6_isTold 0 1 [.ref 5, .int (zI l), .int (zI b)] M (qpe (zb (M 16 (nd l b) ≠ -1)) M) := by
  refine q_intro (own := 6) (L := [some (.ref 5), some (.int (zI l)), some (.int (zI b))]) md_X6_isTold rfl rfl rfl (Nat.le_of_ble_eq_true rfl) (fun X => ?_)
  refine q_aload_n dX6_isTold_0 rfl ?_
  refine q_getr dX6_isTold_1 fl_6_29 rfl rfl ?_
  refine q_iload_n dX6_isTold_4 rfl ?_
  refine q_iload_n dX6_isTold_5 rfl ?_
  refine q_S2 dX6_isTold_6 ml_6_72 md_X6_node (c_node h) rfl (by first | decide | omega) (Nat.le_of_ble_eq_true rfl) (Nat.le_of_ble_eq_true rfl) (qk_e ?_)
  refine q_V1 dX6_isTold_9 ml_6_75 md_X5_get (c_rget (o := 10) (r := 16) (n := 341) rfl rfl (by omega) hn) rfl rfl rfl (by first | decide | omega) (Nat.le_of_ble_eq_true rfl) (Nat.le_of_ble_eq_true rfl) (qk_e ?_)
  refine q_iconst dX6_isTold_12 ?_
  refine q_icmp_eq (tgt := 20) dX6_isTold_13 rfl (by exact hz) (by (first | (unfold zR; omega) | (unfold zLR; omega) | omega | (simp only [zR, qup] at *; omega) | (simp [zR, qup]; omega) | (simp [zR, qup]; done))) (fun h13 => ?_) (fun h13 => ?_)
  ·
    refine q_iconst dX6_isTold_20 ?_
    refine q_zreturn (by first | exact Or.inl rfl | exact Or.inr rfl) dX6_isTold_21 ?_
    exact ⟨by rw [zb_f (fun q => q h13)], rfl⟩
  ·
    refine q_iconst dX6_isTold_16 ?_
    refine q_goto (tgt := 21) dX6_isTold_17 rfl ?_
    refine q_zreturn (by first | exact Or.inl rfl | exact Or.inr rfl) dX6_isTold_21 ?_
    exact ⟨by rw [zb_t h13], rfl⟩
set_option maxHeartbeats 4000000 in
theorem c_layOutBlock {l : Nat} {a b : Int} {c : Int → Int} {M : qM} {K Y S C T N : Int → Int} (hl : l < 4) (hb : 0 ≤ b ∧ b < p4 (4 - ((l : Int) + 1))) (ha : T (nd ((l : Int) + 1) b) = a) (ha2 : 0 ≤ a ∧ a < 341) (hC : ∀ q : Nat, q < 4 → C (nd (l : Int) (4 * b + q)) = qcode c l b q) (hS : ∀ q : Nat, q < 4 → S (nd (l : Int) (4 * b + q)) = tsz c l (4 * b + q)) :
    qCt mX6_layOutBlock 0 1 [.ref 5, .int (zI ((l : Int) + 1)), .int (zI b)] (tw M K Y S C T N) (qpv (tw M K Y S C (fupc T (nd (l : Int) (4 * b)) (qcode c l b) (fun i => a + 1 + tsum c (tsz c l) l b i) 4) (fup N a (thd c l b 4)))) := by
  have hps := p4_s (l := 4 - ((l : Int) + 1)) (by omega)
  rw [show (4 : Int) - (l + 1) + 1 = 4 - l by omega] at hps
  have hn : ∀ i : Nat, i < 4 → 0 ≤ nd (l : Int) (4 * b + (i : Int)) ∧ nd (l : Int) (4 * b + (i : Int)) < 341 := fun i hi => nd_in (by omega) (by omega)
  have hn1 : 0 ≤ nd ((l : Int) + 1) b ∧ nd ((l : Int) + 1) b < 341 := nd_in (by omega) (by omega)
  refine q_intro (own := 6) (L := [some (.ref 5), some (.int (zI ((l : Int) + 1))), some (.int (zI b)), none, none, none, none, none]) md_X6_layOutBlock rfl rfl rfl (Nat.le_of_ble_eq_true rfl) (fun X => ?_)
  refine q_aload_n dX6_layOutBlock_0 rfl ?_
  refine q_getr dX6_layOutBlock_1 fl_6_29 rfl rfl ?_
  refine q_iload_n dX6_layOutBlock_4 rfl ?_
  refine q_iload_n dX6_layOutBlock_5 rfl ?_
  refine q_S2 dX6_layOutBlock_6 ml_6_72 md_X6_node (c_node (by omega)) rfl (by first | decide | omega) (Nat.le_of_ble_eq_true rfl) (Nat.le_of_ble_eq_true rfl) (qk_e ?_)
  refine q_V1 dX6_layOutBlock_9 ml_6_75 md_X5_get (c_rget (o := 10) (r := 16) (n := 341) rfl rfl (by omega) hn1) rfl rfl rfl (by first | decide | omega) (Nat.le_of_ble_eq_true rfl) (Nat.le_of_ble_eq_true rfl) (qk_e ?_)
  rw [tw_16, ha]
  refine q_istore_n dX6_layOutBlock_12 (Nat.le_of_ble_eq_true rfl) rfl ?_
  refine q_iload_n dX6_layOutBlock_13 rfl ?_
  refine q_iconst dX6_layOutBlock_14 ?_
  refine q_iadd dX6_layOutBlock_15 ?_
  refine q_istore dX6_layOutBlock_16 (Nat.le_of_ble_eq_true rfl) rfl ?_
  refine q_iconst dX6_layOutBlock_18 ?_
  refine q_istore dX6_layOutBlock_19 (Nat.le_of_ble_eq_true rfl) rfl ?_
  refine q_iconst dX6_layOutBlock_21 ?_
  refine q_istore dX6_layOutBlock_22 (Nat.le_of_ble_eq_true rfl) rfl ?_
  refine q_lp (fun i : Nat => 5 - i) (fun i => i ≤ 4) (fun i => [some (.ref 5), some (.int (zI ((l : Int) + 1))), some (.int (zI b)), some (.int (zI a)), some (.int (zI (a + 1 + tsum c (tsz c l) l b i))), some (.int (zI (thd c l b i))), some (.int (zI (i : Int))), none]) (fun i => tw M K Y S C (fupc T (nd (l : Int) (4 * b)) (qcode c l b) (fun i => a + 1 + tsum c (tsz c l) l b i) i) N) 0 (by simp only [tsum, thd, Int.add_zero]; rfl) (by rw [fupc_0]) (by omega) (fun i hi ih => ?_)
  refine q_iload dX6_layOutBlock_24 rfl ?_
  refine q_iconst dX6_layOutBlock_26 ?_
  refine q_icmp_ge (tgt := 107) dX6_layOutBlock_27 rfl (by (first | (unfold zR; omega) | (unfold zLR; omega) | omega | (simp only [zR, qup] at *; omega) | (simp [zR, qup]; omega) | (simp [zR, qup]; done))) (by (first | (unfold zR; omega) | (unfold zLR; omega) | omega | (simp only [zR, qup] at *; omega) | (simp [zR, qup]; omega) | (simp [zR, qup]; done))) (fun h27 => ?_) (fun h27 => ?_)
  rotate_left
  ·
    refine q_iload_n dX6_layOutBlock_30 rfl ?_
    refine q_iconst dX6_layOutBlock_31 ?_
    refine q_isub dX6_layOutBlock_32 ?_
    refine q_iconst dX6_layOutBlock_33 ?_
    refine q_iload_n dX6_layOutBlock_34 rfl ?_
    refine q_imul dX6_layOutBlock_35 ?_
    refine q_iload dX6_layOutBlock_36 rfl ?_
    refine q_iadd dX6_layOutBlock_38 ?_
    rw [show (l : Int) + 1 - 1 = l by omega]
    have hni := hn i (by omega)
    have hq := qcode_in c l b i
    refine q_S2 dX6_layOutBlock_39 ml_6_72 md_X6_node (c_node (by omega)) rfl (by first | decide | omega) (Nat.le_of_ble_eq_true rfl) (Nat.le_of_ble_eq_true rfl) (qk_e ?_)
    refine q_istore dX6_layOutBlock_42 (Nat.le_of_ble_eq_true rfl) rfl ?_
    refine q_iload dX6_layOutBlock_44 rfl ?_
    refine q_aload_n dX6_layOutBlock_46 rfl ?_
    refine q_getr dX6_layOutBlock_47 fl_6_26 rfl rfl ?_
    refine q_iload dX6_layOutBlock_50 rfl ?_
    refine q_V1 dX6_layOutBlock_52 ml_6_75 md_X5_get (c_rget (o := 9) (r := 15) (n := 341) rfl rfl (by omega) hni) rfl rfl rfl (by first | decide | omega) (Nat.le_of_ble_eq_true rfl) (Nat.le_of_ble_eq_true rfl) (qk_e ?_)
    rw [tw_15, hC i (by omega)]
    refine q_iconst dX6_layOutBlock_55 ?_
    refine q_iload dX6_layOutBlock_56 rfl ?_
    refine q_imul dX6_layOutBlock_58 ?_
    refine q_ishl dX6_layOutBlock_59 ?_
    refine q_ior dX6_layOutBlock_60 ?_
    refine q_istore dX6_layOutBlock_61 (Nat.le_of_ble_eq_true rfl) rfl ?_
    refine q_aload_n dX6_layOutBlock_63 rfl ?_
    refine q_getr dX6_layOutBlock_64 fl_6_26 rfl rfl ?_
    refine q_iload dX6_layOutBlock_67 rfl ?_
    refine q_V1 dX6_layOutBlock_69 ml_6_75 md_X5_get (c_rget (o := 9) (r := 15) (n := 341) rfl rfl (by omega) hni) rfl rfl rfl (by first | decide | omega) (Nat.le_of_ble_eq_true rfl) (Nat.le_of_ble_eq_true rfl) (qk_e ?_)
    rw [tw_15, hC i (by omega)]
    refine q_iconst dX6_layOutBlock_72 ?_
    refine q_icmp_ne (tgt := 101) dX6_layOutBlock_73 rfl (by (first | (unfold zR; omega) | (unfold zLR; omega) | omega | (simp only [zR, qup] at *; omega) | (simp [zR, qup]; omega) | (simp [zR, qup]; done))) (by (first | (unfold zR; omega) | (unfold zLR; omega) | omega | (simp only [zR, qup] at *; omega) | (simp [zR, qup]; omega) | (simp [zR, qup]; done))) (fun h73 => ?_) (fun h73 => ?_)
    ·
      refine q_iinc dX6_layOutBlock_101 rfl (Nat.le_of_ble_eq_true rfl) rfl ?_
      refine q_goto (tgt := 24) dX6_layOutBlock_104 rfl ?_
      refine q_wk _ ?_ (ih (i + 1) _ _ (by omega) (by omega) rfl (by rw [fupc_k h73]))
      have e1 : tsum c (tsz c l) l b (i + 1) = tsum c (tsz c l) l b i := by rw [tsum, if_neg h73, Int.add_zero]
      simp only [wkB, e1]
      (repeat (first | exact rfl | exact trivial | refine ⟨rfl, ?_⟩))
    ·
      refine q_aload_n dX6_layOutBlock_76 rfl ?_
      refine q_getr dX6_layOutBlock_77 fl_6_29 rfl rfl ?_
      refine q_iload dX6_layOutBlock_80 rfl ?_
      refine q_iload dX6_layOutBlock_82 rfl ?_
      refine q_V2 dX6_layOutBlock_84 ml_6_59 md_X5_set (c_rset (o := 10) (r := 16) (n := 341) rfl rfl (by omega) hni) rfl rfl rfl (by first | decide | omega) (Nat.le_of_ble_eq_true rfl) (Nat.le_of_ble_eq_true rfl) (qk_v ?_)
      rw [tw_u16, show fup (fupc T (nd (l : Int) (4 * b)) (qcode c l b) (fun i => a + 1 + tsum c (tsz c l) l b i) i) (nd (l : Int) (4 * b + (i : Int))) (a + 1 + tsum c (tsz c l) l b i) = fupc T (nd (l : Int) (4 * b)) (qcode c l b) (fun i => a + 1 + tsum c (tsz c l) l b i) (i + 1) from by have e := fupc_s (T := T) (base := nd (l : Int) (4 * b)) (g := fun i => a + 1 + tsum c (tsz c l) l b i) h73; rw [← nd_add] at e; exact e]
      refine q_iload dX6_layOutBlock_87 rfl ?_
      refine q_aload_n dX6_layOutBlock_89 rfl ?_
      refine q_getr dX6_layOutBlock_90 fl_6_23 rfl rfl ?_
      refine q_iload dX6_layOutBlock_93 rfl ?_
      refine q_V1 dX6_layOutBlock_95 ml_6_75 md_X5_get (c_rget (o := 8) (r := 14) (n := 341) rfl rfl (by omega) hni) rfl rfl rfl (by first | decide | omega) (Nat.le_of_ble_eq_true rfl) (Nat.le_of_ble_eq_true rfl) (qk_e ?_)
      rw [tw_14, hS i (by omega)]
      refine q_iadd dX6_layOutBlock_98 ?_
      refine q_istore dX6_layOutBlock_99 (Nat.le_of_ble_eq_true rfl) rfl ?_
      refine q_iinc dX6_layOutBlock_101 rfl (Nat.le_of_ble_eq_true rfl) rfl ?_
      refine q_goto (tgt := 24) dX6_layOutBlock_104 rfl ?_
      refine q_wk _ ?_ (ih (i + 1) _ _ (by omega) (by omega) rfl rfl)
      have e1 : a + 1 + tsum c (tsz c l) l b (i + 1) = a + 1 + tsum c (tsz c l) l b i + tsz c l (4 * b + i) := by rw [tsum, if_pos h73]; omega
      simp only [wkB, e1]
      (repeat (first | exact rfl | exact trivial | refine ⟨rfl, ?_⟩))
  have hi4 : i = 4 := by omega
  subst hi4
  refine q_aload_n dX6_layOutBlock_107 rfl ?_
  refine q_getr dX6_layOutBlock_108 fl_6_32 rfl rfl ?_
  refine q_iload_n dX6_layOutBlock_111 rfl ?_
  refine q_iload dX6_layOutBlock_112 rfl ?_
  refine q_V2 dX6_layOutBlock_114 ml_6_59 md_X5_set (c_rset (o := 11) (r := 17) (n := 341) rfl rfl (by omega) ha2) rfl rfl rfl (by first | decide | omega) (Nat.le_of_ble_eq_true rfl) (Nat.le_of_ble_eq_true rfl) (qk_v ?_)
  rw [tw_u17]
  refine q_return dX6_layOutBlock_117 ?_
  exact ⟨rfl, rfl⟩
/-- the starts laid down to the depth d0, and below those of its blocks that are less than b -/
def Ls (c : Int → Int) (L d0 : Nat) (b : Int) (T : Int → Int) : Prop := ∀ (d : Nat) (x : Int), d ≤ L → 0 ≤ x → x < p4 d → T (nd ((L : Int) - d) x) = if d ≤ d0 ∨ (d = d0 + 1 ∧ x / 4 < b) then sr c L 0 d x else -1
def Lc (c : Int → Int) (L d0 : Nat) (b : Int) (N : Int → Int) : Prop := ∀ (d : Nat) (x : Int), d < L → 0 ≤ x → x < p4 d → sr c L 0 d x ≠ -1 → (d < d0 ∨ (d = d0 ∧ x < b)) → N (sr c L 0 d x) = thd c ((L : Int) - d - 1) x 4
theorem sr_in {c : Int → Int} {L d : Nat} {x : Int} (hL : L ≤ 4) (hd : d ≤ L) (hx : 0 ≤ x ∧ x < p4 d) : -1 ≤ sr c L 0 d x ∧ sr c L 0 d x < 341 := by
  by_cases h : sr c L 0 d x = -1
  · omega
  · have h1 := sr_room hd h
    have h2 := (tsz_in c L (anc d x)).2
    have h3 := (tsz_in c (L - d) x).1
    have := tmax_in L hL
    omega
theorem Ls_in {c : Int → Int} {L d0 : Nat} {b : Int} {T : Int → Int} (hL : L ≤ 4) (h : Ls c L d0 b T) {d : Nat} {x : Int} (hd : d ≤ L) (hx : 0 ≤ x ∧ x < p4 d) : -1 ≤ T (nd ((L : Int) - d) x) ∧ T (nd ((L : Int) - d) x) < 341 := by
  rw [h d x hd hx.1 hx.2]
  by_cases e : d ≤ d0 ∨ (d = d0 + 1 ∧ x / 4 < b)
  · rw [if_pos e]; exact sr_in hL hd hx
  · rw [if_neg e]; omega
theorem Ls_no {c : Int → Int} {L d0 : Nat} {b : Int} {T : Int → Int} (h : Ls c L d0 b T) (ht : sr c L 0 d0 b = -1) : Ls c L d0 (b + 1) T := by
  intro d x hd h0 h1
  rw [h d x hd h0 h1]
  by_cases e : d ≤ d0 ∨ (d = d0 + 1 ∧ x / 4 < b)
  · rw [if_pos e, if_pos (by omega)]
  · rw [if_neg e]
    by_cases e2 : d = d0 + 1 ∧ x / 4 = b
    · obtain ⟨rfl, rfl⟩ := e2
      rw [if_pos (by omega), sr_s, if_neg (fun q => q.1 ht)]
    · rw [if_neg (by omega)]
theorem Lc_no {c : Int → Int} {L d0 : Nat} {b : Int} {N : Int → Int} (h : Lc c L d0 b N) (ht : sr c L 0 d0 b = -1) : Lc c L d0 (b + 1) N := by
  intro d x hd h0 h1 hn h2
  refine h d x hd h0 h1 hn ?_
  rcases h2 with h2 | ⟨rfl, h2⟩
  · exact Or.inl h2
  · refine Or.inr ⟨rfl, ?_⟩
    have : x ≠ b := fun e => hn (by rw [e]; exact ht)
    omega
theorem Ls_up {c : Int → Int} {L d0 l : Nat} {b : Int} {T : Int → Int} (hL : L ≤ 4) (hl : l + d0 + 1 = L) (hb : 0 ≤ b ∧ b < p4 d0) (h : Ls c L d0 b T) (ht : sr c L 0 d0 b ≠ -1) : Ls c L d0 (b + 1) (fupc T (nd (l : Int) (4 * b)) (qcode c l b) (fun i => sr c L 0 d0 b + 1 + tsum c (tsz c l) l b i) 4) := by
  have e1 : (L : Int) - ((d0 + 1 : Nat) : Int) = l := by omega
  have hkid : ∀ q : Nat, q < 4 → 0 ≤ 4 * b + (q : Int) ∧ 4 * b + (q : Int) < p4 ((L : Int) - l) := fun q hq => p4_kid (l := l) (x := b) (by omega) hL (by rw [show (L : Int) - (l + 1) = d0 by omega]; exact hb) hq
  intro d x hd h0 h1
  by_cases e2 : d = d0 + 1 ∧ x / 4 = b
  · obtain ⟨rfl, rfl⟩ := e2
    rw [e1, if_pos (by omega)]
    have e3 : nd (l : Int) x = nd (l : Int) (4 * (x / 4)) + ((x % 4).toNat : Int) := by rw [← nd_add]; congr 1; omega
    rw [e3, fupc_at (by omega), sr_s, show (L : Int) - d0 - 1 = l by omega, show L - d0 - 1 = l by omega]
    by_cases g : qcode c l (x / 4) (x % 4).toNat = 2
    · rw [if_pos g, if_pos ⟨ht, g⟩]
    · rw [if_neg g, if_neg (fun q => g q.2), ← e3, ← e1, h (d0 + 1) x hd h0 h1, if_neg (by omega)]
  · rw [fupc_n, h d x hd h0 h1]
    · by_cases e : d ≤ d0 ∨ (d = d0 + 1 ∧ x / 4 < b)
      · rw [if_pos e, if_pos (by omega)]
      · rw [if_neg e, if_neg (by omega)]
    · intro q hq w
      rw [← nd_add] at w
      have e4 : ((L - d : Nat) : Int) = (L : Int) - d := by omega
      rw [← e4] at w
      exact nd_ne (L := L) hL (by omega) (by omega) ⟨h0, by rw [e4, show (L : Int) - ((L : Int) - d) = d by omega]; exact h1⟩ (hkid q hq) (fun r => e2 ⟨by omega, by omega⟩) w
theorem Lc_up {c : Int → Int} {L d0 l : Nat} {b : Int} {N : Int → Int} (hL : L ≤ 4) (hl : l + d0 + 1 = L) (hb : 0 ≤ b ∧ b < p4 d0) (h : Lc c L d0 b N) (ht : sr c L 0 d0 b ≠ -1) : Lc c L d0 (b + 1) (fup N (sr c L 0 d0 b) (thd c l b 4)) := by
  intro d x hd h0 h1 hn h2
  by_cases e : d = d0 ∧ x = b
  · obtain ⟨rfl, rfl⟩ := e
    rw [fup_s]
    congr 1
    omega
  · rw [fup_n]
    · refine h d x hd h0 h1 hn ?_
      rcases h2 with h2 | ⟨rfl, h2⟩
      · exact Or.inl h2
      · exact Or.inr ⟨rfl, by omega⟩
    · intro w
      have a1 := (anc_0 d (by omega) x).mpr ⟨h0, h1⟩
      have a2 := (anc_0 d0 (by omega) b).mpr hb
      exact e (sr_inj (by omega) (by omega) (by omega) (by rw [a1, a2]) hn w)
theorem Ls_next {c : Int → Int} {L d0 : Nat} {b : Int} {T : Int → Int} (hL : L ≤ 4) (hd : d0 < L) (h : Ls c L d0 b T) (hb : p4 d0 ≤ b) : Ls c L (d0 + 1) 0 T := by
  intro d x hd h0 h1
  rw [h d x hd h0 h1]
  by_cases e : d ≤ d0 + 1
  · have : d ≤ d0 ∨ (d = d0 + 1 ∧ x / 4 < b) := by
      by_cases e2 : d ≤ d0
      · exact Or.inl e2
      · refine Or.inr ⟨by omega, ?_⟩
        have := p4_s (l := (d0 : Int)) (by omega)
        rw [show ((d : Nat) : Int) = (d0 : Int) + 1 by omega] at h1
        omega
    rw [if_pos this, if_pos (Or.inl e)]
  · rw [if_neg (by omega), if_neg (by omega)]
theorem Lc_next {c : Int → Int} {L d0 : Nat} {b : Int} {N : Int → Int} (h : Lc c L d0 b N) (hb : p4 d0 ≤ b) : Lc c L (d0 + 1) 0 N := by
  intro d x hd h0 h1 hn h2
  refine h d x hd h0 h1 hn ?_
  by_cases e : d < d0
  · exact Or.inl e
  · have : d = d0 := by omega
    subst this
    exact Or.inr ⟨rfl, by omega⟩


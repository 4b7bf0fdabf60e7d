/-! The model: the tree is laid, the method. -/
theorem zbp {p : Prop} (h : ¬ zb p = 0) : p := Classical.byContradiction (fun q => h (zb_f q))
section MM
variable {c : Int → Int} {L d0 l : Nat} {b n : Int} {T K F S T1 K1 F1 S1 T2 K2 F2 S2 : Int → Int}
/-- the children of a quarter that is told wait -/
theorem LyI_pre (hdl : d0 + (l + 1) = L) (hL : L ≤ 4) (hb : 0 ≤ b ∧ b < p4 d0) {i : Nat} (hi : i < 4) (h : LyI c L d0 l b n i T K F S T1 K1 F1 S1) : ∀ (d : Nat) (x : Int), d ≤ L → 0 ≤ x → x < p4 d → d0 + 1 < d → anc (d - (d0 + 1)) x = 4 * b + i → LyM (fup K1 (off (d0 + 1) + (4 * b + i)) (qcode c l b i)) F1 S1 d x := fun d x a1 a2 a3 a4 a5 => by
  rw [show d - (d0 + 1) = d - d0 - 1 by omega] at a5
  have he := h.2.2.2.2.1 d x a1 a2 a3 (by omega) (by omega) (by omega)
  exact ⟨by rw [fup_n _ (fun q => by have := (off_inj (by omega) (by omega) ⟨a2, a3⟩ (kid_in hdl hL hb hi) q).1; omega)]; exact he.1, he.2⟩
/-- a quarter that is told -/
theorem LyI_yes (hdl : d0 + (l + 1) = L) (hL : L ≤ 4) (hb : 0 ≤ b ∧ b < p4 d0) (hs : sr c L 0 d0 b = n) (hn : n ≠ -1) (hn0 : 0 ≤ n) {i : Nat} (hi : i < 4) (hq : qcode c l b i = 2) (h : LyI c L d0 l b n i T K F S T1 K1 F1 S1) (hp : LyP c L (d0 + 1) l (4 * b + i) (n + 1 + tsum c (tsz c l) l b i) (fup T1 n (thd c l b (i + 1))) (fup K1 (off (d0 + 1) + (4 * b + i)) (qcode c l b i)) F1 S1 T2 K2 F2 S2) : LyI c L d0 l b n (i + 1) T K F S T2 K2 F2 S2 := by
  obtain ⟨h1, h2, h3, h4, h5, h6, h7, h8⟩ := h
  obtain ⟨g1, g2, g3, g4, g5, g6⟩ := hp
  have hts : tsum c (tsz c l) l b (i + 1) = tsum c (tsz c l) l b i + tsz c l (4 * b + i) := by rw [tsum, if_pos hq]
  have hsz : ∀ x, 1 ≤ tsz c l x := fun x => (tsz_in c l x).1
  have ht0 : ∀ j : Nat, 0 ≤ tsum c (tsz c l) l b j := fun j => (tsum_in (m := tmax l) (fun x => tsz_in c l x) j).1
  have hk := kid_in hdl hL hb hi
  have hks := kid_sr hdl hs hn hi
  rw [if_pos hq] at hks
  have t0 := ht0 i
  have z1 := hsz (4 * b + i)
  have hout : ∀ (d : Nat) (x : Int), d ≤ L → 0 ≤ x → x < p4 d → ¬ (d0 + 1 ≤ d ∧ anc (d - d0 - 1) x = 4 * b + i) → Ly3 K1 F1 S1 K2 F2 S2 d x := fun d x a1 a2 a3 a4 => by
    have e := g5 d x a1 a2 a3 (by rw [show d - (d0 + 1) = d - d0 - 1 by omega]; exact a4)
    refine ⟨e.1.trans ?_, e.2⟩
    exact fup_n _ (fun q => by
      obtain ⟨e1, e2⟩ := off_inj (by omega) (by omega) ⟨a2, a3⟩ hk q
      exact a4 ⟨by omega, by rw [e1, e2, show d0 + 1 - d0 - 1 = 0 by omega]; rfl⟩)
  refine ⟨fun j hj => ?_, ?_, fun q hq1 hq2 => ?_, fun d x a1 a2 a3 a4 a5 a6 => ?_, fun d x a1 a2 a3 a4 a5 a6 => ?_, ⟨?_, ?_⟩, fun d x a1 a2 a3 a4 => ?_, fun k hk2 => by rw [g6 k hk2, fup_n _ (by have := off_lt (show d0 + 1 ≤ L by omega) hk.2; omega)]; exact h8 k hk2⟩
  · rw [g1 j (by omega), fup_n _ (by omega)]
    exact h1 j (by omega)
  · rw [g1 n (by omega), fup_s]
  · by_cases hqi : q = i
    · subst hqi; exact g2
    · have tl := tsum_lt (c := c) (l := (l : Int)) (B := b) hsz (show q < i by omega) hq2
      refine lay_congr l _ _ _ _ (h3 q (by omega) hq2) (fun j j0 j1 => ?_)
      have := ht0 q
      rw [g1 _ (by omega), fup_n _ (by omega)]
  · by_cases ga : anc (d - d0 - 1) x = 4 * b + i
    · by_cases gd : d = d0 + 1
      · subst gd
        rw [show d0 + 1 - d0 - 1 = 0 by omega, anc] at ga
        subst ga
        refine ⟨by rw [g4.1, fup_s, kid_code hdl (by omega) hi], by rw [g4.2.1, hks], ?_⟩
        rw [g4.2.2, if_pos (by omega), show L - (d0 + 1) = l by omega]
      · exact g3 d x a1 a2 a3 (by omega) (by rw [show d - (d0 + 1) = d - d0 - 1 by omega]; exact ga)
    · have e := hout d x a1 a2 a3 (fun q => ga q.2)
      have he := h4 d x a1 a2 a3 a4 a5 (by omega)
      exact ⟨e.1.trans he.1, e.2.1.trans he.2.1, e.2.2.trans he.2.2⟩
  · have e := hout d x a1 a2 a3 (fun q => by have := q.2; omega)
    have he := h5 d x a1 a2 a3 a4 (by omega) a6
    exact ⟨e.1.trans he.1, e.2.1.trans he.2.1, e.2.2.trans he.2.2⟩
  · have e := hout d0 b (by omega) hb.1 hb.2 (fun q => by have := q.1; omega)
    exact e.1.trans h6.1
  · have e := hout d0 b (by omega) hb.1 hb.2 (fun q => by have := q.1; omega)
    exact e.2.1.trans h6.2
  · have e := hout d x a1 a2 a3 (fun q => a4 ⟨by omega, by rw [anc_q (by omega), q.2]; omega⟩)
    have he := h7 d x a1 a2 a3 a4
    exact ⟨e.1.trans he.1, e.2.1.trans he.2.1, e.2.2.trans he.2.2⟩
set_option maxHeartbeats 8000000 in
theorem m_lays (hL : L ≤ 4) (hcb : ∀ k, 0 ≤ k → k < p4 L → 0 ≤ c k ∧ c k < 256) : ∀ (l d0 : Nat) (b n : Int) (M : qM) (T K F S : Int → Int), d0 + l = L → M 37 9 = (L : Int) → (∀ k, M 42 k = c k) → 0 ≤ b ∧ b < p4 d0 → sr c L 0 d0 b = n → n ≠ -1 → (∀ (d : Nat) (x : Int), d ≤ L → 0 ≤ x → x < p4 d → d0 < d → anc (d - d0) x = b → LyM K F S d x) →
    qCt mX8_lays 0 (l + 2) [.ref 37, .int (zI (l : Int)), .int (zI b)] (mtw M T K F S n) (qph (fun M' => ∃ T' K' F' S', M' = mtw M T' K' F' S' (n + tsz c l b) ∧ LyP c L d0 l b n T K F S T' K' F' S')) := by
  intro l
  induction l with
  | zero =>
    intro d0 b n M T K F S hdl h9 hc hb hs hn hpre
    have hsi := sr_in (c := c) (L := L) (d := d0) (x := b) hL (by omega) hb
    have hoi := off_in (d := d0) (by omega) hb
    have hpin := p4_in (L : Int)
    have hb2 : b < p4 (L : Int) := by have := hb.2; rw [show d0 = L by omega] at this; exact this
    refine q_intro (own := 8) (L := [some (.ref 37), some (.int (zI ((0 : Nat) : Int))), some (.int (zI b)), none, none, none, none, none, none]) md_X8_lays rfl rfl rfl (Nat.le_of_ble_eq_true rfl) (fun X => ?_)
    refine q_aload_n dX8_lays_0 rfl ?_
    refine q_iload_n dX8_lays_1 rfl ?_
    refine q_iload_n dX8_lays_2 rfl ?_
    refine q_V2 dX8_lays_3 ml_8_97 md_X8_spot (m_spot (L := L) (by rw [mtw_9]; exact h9) hL (by omega) (by rw [show L - 0 = d0 by omega]; exact hb)) rfl rfl rfl (by first | decide | omega) (Nat.le_of_ble_eq_true rfl) (Nat.le_of_ble_eq_true rfl) (qk_e ?_)
    rw [show L - 0 = d0 by omega]
    refine q_istore_n dX8_lays_6 (Nat.le_of_ble_eq_true rfl) rfl ?_
    refine q_aload_n dX8_lays_7 rfl ?_
    refine q_getr dX8_lays_8 fl_8_32 rfl rfl ?_
    refine q_iload_n dX8_lays_11 rfl ?_
    refine q_aload_n dX8_lays_12 rfl ?_
    refine q_geti (j := 12) dX8_lays_13 fl_8_101 rfl rfl rfl ?_
    rw [mtw_12]
    refine q_iast dX8_lays_16 rfl (by (first | (unfold zR; omega) | (unfold zLR; omega) | omega | (simp only [zR, qup] at *; omega) | (simp [zR, qup]; omega) | (simp [zR, qup]; done))) (Nat.le_of_ble_eq_true rfl) ?_
    rw [mtw_45]
    refine q_aload_n dX8_lays_17 rfl ?_
    refine q_geti (j := 12) dX8_lays_18 fl_8_101 rfl rfl rfl ?_
    rw [mtw_12]
    refine q_istore dX8_lays_21 (Nat.le_of_ble_eq_true rfl) rfl ?_
    refine q_aload_n dX8_lays_23 rfl ?_
    refine q_dup dX8_lays_24 rfl ?_
    refine q_geti (j := 12) dX8_lays_25 fl_8_101 rfl rfl rfl ?_
    rw [mtw_12]
    refine q_iconst dX8_lays_28 ?_
    refine q_iadd dX8_lays_29 ?_
    refine q_puti (j := 12) dX8_lays_30 fl_8_101 rfl rfl rfl rfl rfl ?_
    rw [mtw_n]
    refine q_aload_n dX8_lays_33 rfl ?_
    refine q_getr dX8_lays_34 fl_8_26 rfl rfl ?_
    refine q_iload dX8_lays_37 rfl ?_
    refine q_iload_n dX8_lays_39 rfl ?_
    refine q_if_ne (tgt := 52) dX8_lays_40 rfl (by (first | (unfold zR; omega) | (unfold zLR; omega) | omega | (simp only [zR, qup] at *; omega) | (simp [zR, qup]; omega) | (simp [zR, qup]; done))) (fun h40 => absurd h40 (by omega)) (fun h40 => ?_)
    refine q_aload_n dX8_lays_43 rfl ?_
    refine q_getr dX8_lays_44 fl_8_23 rfl rfl ?_
    refine q_iload_n dX8_lays_47 rfl ?_
    refine q_iald dX8_lays_48 rfl (by (first | (unfold zR; omega) | (unfold zLR; omega) | omega | (simp only [zR, qup] at *; omega) | (simp [zR, qup]; omega) | (simp [zR, qup]; done))) (Nat.le_of_ble_eq_true rfl) ?_
    refine q_goto (tgt := 53) dX8_lays_49 rfl ?_
    rw [show mtw M T K (fup F (off d0 + b) n) S (n + 1) 42 b = c b by rw [mtw_42]; exact hc b]
    refine q_iast dX8_lays_53 rfl (by (first | (unfold zR; omega) | (unfold zLR; omega) | omega | (simp only [zR, qup] at *; omega) | (simp [zR, qup]; omega) | (simp [zR, qup]; done))) (Nat.le_of_ble_eq_true rfl) ?_
    rw [mtw_43]
    refine q_iconst dX8_lays_54 ?_
    refine q_istore dX8_lays_55 (Nat.le_of_ble_eq_true rfl) rfl ?_
    refine q_iconst dX8_lays_57 ?_
    refine q_istore dX8_lays_58 (Nat.le_of_ble_eq_true rfl) rfl ?_
    refine q_iload dX8_lays_60 rfl ?_
    refine q_iconst dX8_lays_62 ?_
    refine q_icmp_ge (tgt := 210) dX8_lays_63 rfl (by (first | (unfold zR; omega) | (unfold zLR; omega) | omega | (simp only [zR, qup] at *; omega) | (simp [zR, qup]; omega) | (simp [zR, qup]; done))) (by (first | (unfold zR; omega) | (unfold zLR; omega) | omega | (simp only [zR, qup] at *; omega) | (simp [zR, qup]; omega) | (simp [zR, qup]; done))) (fun h63 => ?_) (fun h63 => ?_)
    rotate_left
    ·
      refine q_iload_n dX8_lays_66 rfl ?_
      refine q_if_le (tgt := 210) dX8_lays_67 rfl (by (first | (unfold zR; omega) | (unfold zLR; omega) | omega | (simp only [zR, qup] at *; omega) | (simp [zR, qup]; omega) | (simp [zR, qup]; done))) (fun h67 => ?_) (fun h67 => absurd h67 (by omega))
      refine q_aload_n dX8_lays_210 rfl ?_
      refine q_getr dX8_lays_211 fl_8_35 rfl rfl ?_
      refine q_iload_n dX8_lays_214 rfl ?_
      refine q_aload_n dX8_lays_215 rfl ?_
      refine q_geti (j := 12) dX8_lays_216 fl_8_101 rfl rfl rfl ?_
      rw [mtw_12]
      refine q_iload dX8_lays_219 rfl ?_
      refine q_isub dX8_lays_221 ?_
      refine q_iast dX8_lays_222 rfl (by (first | (unfold zR; omega) | (unfold zLR; omega) | omega | (simp only [zR, qup] at *; omega) | (simp [zR, qup]; omega) | (simp [zR, qup]; done))) (Nat.le_of_ble_eq_true rfl) ?_
      rw [mtw_46]
      refine q_return dX8_lays_223 ?_
      refine ⟨rfl, _, _, _, _, by rw [show tsz c 0 b = 1 from rfl], fun j hj => fup_n _ (by rw [show tsz c 0 b = 1 from rfl] at hj; omega), fup_s _ _ _, fun d x h1 h2 h3 h4 h5 => by omega, ⟨rfl, fup_s _ _ _, by rw [fup_s, show tsz c 0 b = 1 from rfl]; omega⟩, fun d x h1 h2 h3 h4 => ?_, fun k hk => rfl⟩
      have hne : off d + x ≠ off d0 + b := fun q => by
        obtain ⟨e1, e2⟩ := off_inj (by omega) (by omega) ⟨h2, h3⟩ hb q
        exact h4 ⟨by omega, by rw [e1, e2, Nat.sub_self]; rfl⟩
      exact ⟨rfl, fup_n _ hne, fup_n _ hne⟩
    refine q_aload_n dX8_lays_210 rfl ?_
    refine q_getr dX8_lays_211 fl_8_35 rfl rfl ?_
    refine q_iload_n dX8_lays_214 rfl ?_
    refine q_aload_n dX8_lays_215 rfl ?_
    refine q_geti (j := 12) dX8_lays_216 fl_8_101 rfl rfl rfl ?_
    rw [mtw_12]
    refine q_iload dX8_lays_219 rfl ?_
    refine q_isub dX8_lays_221 ?_
    refine q_iast dX8_lays_222 rfl (by (first | (unfold zR; omega) | (unfold zLR; omega) | omega | (simp only [zR, qup] at *; omega) | (simp [zR, qup]; omega) | (simp [zR, qup]; done))) (Nat.le_of_ble_eq_true rfl) ?_
    rw [mtw_46]
    refine q_return dX8_lays_223 ?_
    refine ⟨rfl, _, _, _, _, by rw [show tsz c 0 b = 1 from rfl], fun j hj => fup_n _ (by rw [show tsz c 0 b = 1 from rfl] at hj; omega), fup_s _ _ _, fun d x h1 h2 h3 h4 h5 => by omega, ⟨rfl, fup_s _ _ _, by rw [fup_s, show tsz c 0 b = 1 from rfl]; omega⟩, fun d x h1 h2 h3 h4 => ?_, fun k hk => rfl⟩
    have hne : off d + x ≠ off d0 + b := fun q => by
      obtain ⟨e1, e2⟩ := off_inj (by omega) (by omega) ⟨h2, h3⟩ hb q
      exact h4 ⟨by omega, by rw [e1, e2, Nat.sub_self]; rfl⟩
    exact ⟨rfl, fup_n _ hne, fup_n _ hne⟩
  | succ l ih =>
    intro d0 b n M T K F S hdl h9 hc hb hs hn hpre
    have hsi := sr_in (c := c) (L := L) (d := d0) (x := b) hL (by omega) hb
    have hoi := off_in (d := d0) (by omega) hb
    have hpin := p4_in (L : Int)
    have hcR : ∀ k, 0 ≤ k → k < p4 (L : Int) → zR (M 42 k) := fun k h0 h1 => by rw [hc k]; have := hcb k h0 h1; unfold zR; omega
    have hM42 : M 42 = c := funext hc
    have hroom := sr_room (c := c) (L := L) (d := d0) (x := b) (by omega) (by omega)
    have htm := tmax_in L hL
    have htr := tsz_in c L (anc d0 b)
    have htl : tsz c (l + 1) b = 1 + tsum c (tsz c l) l b 4 := rfl
    rw [show L - d0 = l + 1 by omega, hs] at hroom
    have hsz : ∀ x, 1 ≤ tsz c l x := fun x => (tsz_in c l x).1
    refine q_intro (own := 8) (L := [some (.ref 37), some (.int (zI ((l + 1 : Nat) : Int))), some (.int (zI b)), none, none, none, none, none, none]) md_X8_lays rfl rfl rfl (Nat.le_of_ble_eq_true rfl) (fun X => ?_)
    refine q_aload_n dX8_lays_0 rfl ?_
    refine q_iload_n dX8_lays_1 rfl ?_
    refine q_iload_n dX8_lays_2 rfl ?_
    refine q_V2 dX8_lays_3 ml_8_97 md_X8_spot (m_spot (L := L) (by rw [mtw_9]; exact h9) hL (by omega) (by rw [show L - (l + 1) = d0 by omega]; exact hb)) rfl rfl rfl (by first | decide | omega) (Nat.le_of_ble_eq_true rfl) (Nat.le_of_ble_eq_true rfl) (qk_e ?_)
    rw [show L - (l + 1) = d0 by omega]
    refine q_istore_n dX8_lays_6 (Nat.le_of_ble_eq_true rfl) rfl ?_
    refine q_aload_n dX8_lays_7 rfl ?_
    refine q_getr dX8_lays_8 fl_8_32 rfl rfl ?_
    refine q_iload_n dX8_lays_11 rfl ?_
    refine q_aload_n dX8_lays_12 rfl ?_
    refine q_geti (j := 12) dX8_lays_13 fl_8_101 rfl rfl rfl ?_
    rw [mtw_12]
    refine q_iast dX8_lays_16 rfl (by (first | (unfold zR; omega) | (unfold zLR; omega) | omega | (simp only [zR, qup] at *; omega) | (simp [zR, qup]; omega) | (simp [zR, qup]; done))) (Nat.le_of_ble_eq_true rfl) ?_
    rw [mtw_45]
    refine q_aload_n dX8_lays_17 rfl ?_
    refine q_geti (j := 12) dX8_lays_18 fl_8_101 rfl rfl rfl ?_
    rw [mtw_12]
    refine q_istore dX8_lays_21 (Nat.le_of_ble_eq_true rfl) rfl ?_
    refine q_aload_n dX8_lays_23 rfl ?_
    refine q_dup dX8_lays_24 rfl ?_
    refine q_geti (j := 12) dX8_lays_25 fl_8_101 rfl rfl rfl ?_
    rw [mtw_12]
    refine q_iconst dX8_lays_28 ?_
    refine q_iadd dX8_lays_29 ?_
    refine q_puti (j := 12) dX8_lays_30 fl_8_101 rfl rfl rfl rfl rfl ?_
    rw [mtw_n]
    refine q_aload_n dX8_lays_33 rfl ?_
    refine q_getr dX8_lays_34 fl_8_26 rfl rfl ?_
    refine q_iload dX8_lays_37 rfl ?_
    refine q_iload_n dX8_lays_39 rfl ?_
    refine q_if_ne (tgt := 52) dX8_lays_40 rfl (by (first | (unfold zR; omega) | (unfold zLR; omega) | omega | (simp only [zR, qup] at *; omega) | (simp [zR, qup]; omega) | (simp [zR, qup]; done))) (fun h40 => ?_) (fun h40 => absurd h40 (by omega))
    refine q_iconst dX8_lays_52 ?_
    refine q_iast dX8_lays_53 rfl (by (first | (unfold zR; omega) | (unfold zLR; omega) | omega | (simp only [zR, qup] at *; omega) | (simp [zR, qup]; omega) | (simp [zR, qup]; done))) (Nat.le_of_ble_eq_true rfl) ?_
    rw [mtw_43]
    refine q_iconst dX8_lays_54 ?_
    refine q_istore dX8_lays_55 (Nat.le_of_ble_eq_true rfl) rfl ?_
    refine q_iconst dX8_lays_57 ?_
    refine q_istore dX8_lays_58 (Nat.le_of_ble_eq_true rfl) rfl ?_
    refine q_lp (α := Nat × (Int → Int) × (Int → Int) × (Int → Int) × (Int → Int)) (fun y => 4 - y.1) (fun y => y.1 ≤ 4 ∧ LyI c L d0 l b n y.1 T K F S y.2.1 y.2.2.1 y.2.2.2.1 y.2.2.2.2) (fun y => [some (.ref 37), some (.int (zI ((l + 1 : Nat) : Int))), some (.int (zI b)), some (.int (zI (off d0 + b))), some (.int (zI n)), some (.int (zI (qlast c l b y.1))), some (.int (zI (y.1 : Int))), none, none]) (fun y => mtw M y.2.1 y.2.2.1 y.2.2.2.1 y.2.2.2.2 (n + 1 + tsum c (tsz c l) l b y.1)) (0, fup T n 0, K, fup F (off d0 + b) n, S) rfl (by rw [show tsum c (tsz c l) l b 0 = 0 from rfl, Int.add_zero]) ⟨by dsimp only; omega, LI_0 (by omega) hL hb hpre⟩ (fun y hy ih2 => ?_)
    obtain ⟨i, T1, K1, F1, S1⟩ := y
    obtain ⟨hi4, hI⟩ := hy
    dsimp only at hi4 hI ih2 ⊢
    have hql := qlast_in c l b i
    have hqc := qcode_in c l b i
    have hqs := qlast_s c l b i
    have hmon := tsum_mono (c := c) (l := (l : Int)) (B := b) hsz hi4
    have htd := thd_in c l b i hi4
    have ht0 := (tsum_in (c := c) (l := (l : Int)) (B := b) (m := tmax l) (fun x => tsz_in c l x) i).1
    have hcont : i < 4 → ∀ w0 : Option Value, QW X (8, cX8_lays, 9, none, 0, l + 1 + 2) (qph (fun M' => ∃ T' K' F' S', M' = mtw M T' K' F' S' (n + tsz c (l + 1) b) ∧ LyP c L d0 (l + 1) b n T K F S T' K' F' S')) 0 139 [some (.ref 37), some (.int (zI ((l + 1 : Nat) : Int))), some (.int (zI b)), some (.int (zI (off d0 + b))), some (.int (zI n)), some (.int (zI (qlast c l b i))), some (.int (zI (i : Int))), some (.int (zI (4 * b + i))), w0] [.int (zI (qcode c l b i))] (mtw M T1 K1 F1 S1 (n + 1 + tsum c (tsz c l) l b i)) := by
      intro hi w0
      have hk := kid_in hdl hL hb hi
      have hko := off_in (d := d0 + 1) (by omega) hk
      have hks := kid_sr hdl hs hn hi
      have hth : zor (thd c l b i) (zshl (qcode c l b i) (2 * (i : Int))) = thd c l b (i + 1) := rfl
      skip
      refine q_istore dX8_lays_139 (Nat.le_of_ble_eq_true rfl) rfl ?_
      refine q_iload dX8_lays_141 rfl ?_
      refine q_iconst dX8_lays_143 ?_
      refine q_icmp_ne (tgt := 152) dX8_lays_144 rfl (by (first | (unfold zR; omega) | (unfold zLR; omega) | omega | (simp only [zR, qup] at *; omega) | (simp [zR, qup]; omega) | (simp [zR, qup]; done))) (by (first | (unfold zR; omega) | (unfold zLR; omega) | omega | (simp only [zR, qup] at *; omega) | (simp [zR, qup]; omega) | (simp [zR, qup]; done))) (fun h144 => ?_) (fun h144 => ?_)
      ·
        refine q_iload dX8_lays_152 rfl ?_
        refine q_istore dX8_lays_154 (Nat.le_of_ble_eq_true rfl) rfl ?_
        refine q_aload_n dX8_lays_156 rfl ?_
        refine q_getr dX8_lays_157 fl_8_29 rfl rfl ?_
        refine q_aload_n dX8_lays_160 rfl ?_
        refine q_iload_n dX8_lays_161 rfl ?_
        refine q_iconst dX8_lays_162 ?_
        refine q_isub dX8_lays_163 ?_
        rw [show ((l + 1 : Nat) : Int) - 1 = (l : Int) by omega]
        refine q_iload dX8_lays_164 rfl ?_
        refine q_V2 dX8_lays_166 ml_8_97 md_X8_spot (m_spot (L := L) (by rw [mtw_9]; exact h9) hL (by omega) (by rw [show L - l = d0 + 1 by omega]; exact hk)) rfl rfl rfl (by first | decide | omega) (Nat.le_of_ble_eq_true rfl) (Nat.le_of_ble_eq_true rfl) (qk_e ?_)
        rw [show L - l = d0 + 1 by omega]
        refine q_iload dX8_lays_169 rfl ?_
        refine q_iast dX8_lays_171 rfl (by (first | (unfold zR; omega) | (unfold zLR; omega) | omega | (simp only [zR, qup] at *; omega) | (simp [zR, qup]; omega) | (simp [zR, qup]; done))) (Nat.le_of_ble_eq_true rfl) ?_
        rw [mtw_44]
        refine q_aload_n dX8_lays_172 rfl ?_
        refine q_getr dX8_lays_173 fl_8_26 rfl rfl ?_
        refine q_iload dX8_lays_176 rfl ?_
        refine q_dup2 dX8_lays_178 rfl rfl ?_
        refine q_iald dX8_lays_179 rfl (by (first | (unfold zR; omega) | (unfold zLR; omega) | omega | (simp only [zR, qup] at *; omega) | (simp [zR, qup]; omega) | (simp [zR, qup]; done))) (Nat.le_of_ble_eq_true rfl) ?_
        rw [show mtw M T1 (fup K1 (off (d0 + 1) + (4 * b + i)) (qcode c l b i)) F1 S1 (n + 1 + tsum c (tsz c l) l b i) 43 n = thd c l b i from hI.2.1]
        refine q_iload dX8_lays_180 rfl ?_
        refine q_iconst dX8_lays_182 ?_
        refine q_iload dX8_lays_183 rfl ?_
        refine q_imul dX8_lays_185 ?_
        refine q_ishl dX8_lays_186 ?_
        refine q_ior dX8_lays_187 ?_
        rw [hth]
        refine q_iast dX8_lays_188 rfl (by (first | (unfold zR; omega) | (unfold zLR; omega) | omega | (simp only [zR, qup] at *; omega) | (simp [zR, qup]; omega) | (simp [zR, qup]; done))) (Nat.le_of_ble_eq_true rfl) ?_
        rw [mtw_43]
        refine q_iload dX8_lays_189 rfl ?_
        refine q_iconst dX8_lays_191 ?_
        refine q_icmp_ne (tgt := 204) dX8_lays_192 rfl (by (first | (unfold zR; omega) | (unfold zLR; omega) | omega | (simp only [zR, qup] at *; omega) | (simp [zR, qup]; omega) | (simp [zR, qup]; done))) (by (first | (unfold zR; omega) | (unfold zLR; omega) | omega | (simp only [zR, qup] at *; omega) | (simp [zR, qup]; omega) | (simp [zR, qup]; done))) (fun h192 => ?_) (fun h192 => ?_)
        ·
          refine q_iinc dX8_lays_204 rfl (Nat.le_of_ble_eq_true rfl) rfl ?_
          refine q_goto (tgt := 60) dX8_lays_207 rfl ?_
          refine q_wk _ ?_ (ih2 (i + 1, fup T1 n (thd c l b (i + 1)), fup K1 (off (d0 + 1) + (4 * b + i)) (qcode c l b i), F1, S1) _ _ ⟨by dsimp only; omega, LI_no hdl hL hb hs hn hi h192 hI⟩ (by dsimp only; omega) rfl (by dsimp only; rw [tsum, if_neg h192, Int.add_zero]))
          simp only [wkB, hqs, if_neg h192]
          (repeat (first | exact rfl | exact trivial | refine ⟨rfl, ?_⟩))
        ·
          exact absurd h192 h144
      ·
        refine q_iload dX8_lays_147 rfl ?_
        refine q_goto (tgt := 154) dX8_lays_149 rfl ?_
        refine q_istore dX8_lays_154 (Nat.le_of_ble_eq_true rfl) rfl ?_
        refine q_aload_n dX8_lays_156 rfl ?_
        refine q_getr dX8_lays_157 fl_8_29 rfl rfl ?_
        refine q_aload_n dX8_lays_160 rfl ?_
        refine q_iload_n dX8_lays_161 rfl ?_
        refine q_iconst dX8_lays_162 ?_
        refine q_isub dX8_lays_163 ?_
        rw [show ((l + 1 : Nat) : Int) - 1 = (l : Int) by omega]
        refine q_iload dX8_lays_164 rfl ?_
        refine q_V2 dX8_lays_166 ml_8_97 md_X8_spot (m_spot (L := L) (by rw [mtw_9]; exact h9) hL (by omega) (by rw [show L - l = d0 + 1 by omega]; exact hk)) rfl rfl rfl (by first | decide | omega) (Nat.le_of_ble_eq_true rfl) (Nat.le_of_ble_eq_true rfl) (qk_e ?_)
        rw [show L - l = d0 + 1 by omega]
        refine q_iload dX8_lays_169 rfl ?_
        refine q_iast dX8_lays_171 rfl (by (first | (unfold zR; omega) | (unfold zLR; omega) | omega | (simp only [zR, qup] at *; omega) | (simp [zR, qup]; omega) | (simp [zR, qup]; done))) (Nat.le_of_ble_eq_true rfl) ?_
        rw [mtw_44]
        refine q_aload_n dX8_lays_172 rfl ?_
        refine q_getr dX8_lays_173 fl_8_26 rfl rfl ?_
        refine q_iload dX8_lays_176 rfl ?_
        refine q_dup2 dX8_lays_178 rfl rfl ?_
        refine q_iald dX8_lays_179 rfl (by (first | (unfold zR; omega) | (unfold zLR; omega) | omega | (simp only [zR, qup] at *; omega) | (simp [zR, qup]; omega) | (simp [zR, qup]; done))) (Nat.le_of_ble_eq_true rfl) ?_
        rw [show mtw M T1 (fup K1 (off (d0 + 1) + (4 * b + i)) (qcode c l b i)) F1 S1 (n + 1 + tsum c (tsz c l) l b i) 43 n = thd c l b i from hI.2.1]
        refine q_iload dX8_lays_180 rfl ?_
        refine q_iconst dX8_lays_182 ?_
        refine q_iload dX8_lays_183 rfl ?_
        refine q_imul dX8_lays_185 ?_
        refine q_ishl dX8_lays_186 ?_
        refine q_ior dX8_lays_187 ?_
        rw [hth]
        refine q_iast dX8_lays_188 rfl (by (first | (unfold zR; omega) | (unfold zLR; omega) | omega | (simp only [zR, qup] at *; omega) | (simp [zR, qup]; omega) | (simp [zR, qup]; done))) (Nat.le_of_ble_eq_true rfl) ?_
        rw [mtw_43]
        refine q_iload dX8_lays_189 rfl ?_
        refine q_iconst dX8_lays_191 ?_
        refine q_icmp_ne (tgt := 204) dX8_lays_192 rfl (by (first | (unfold zR; omega) | (unfold zLR; omega) | omega | (simp only [zR, qup] at *; omega) | (simp [zR, qup]; omega) | (simp [zR, qup]; done))) (by (first | (unfold zR; omega) | (unfold zLR; omega) | omega | (simp only [zR, qup] at *; omega) | (simp [zR, qup]; omega) | (simp [zR, qup]; done))) (fun h192 => ?_) (fun h192 => ?_)
        ·
          exact absurd h144 h192
        ·
          refine q_aload_n dX8_lays_195 rfl ?_
          refine q_iload_n dX8_lays_196 rfl ?_
          refine q_iconst dX8_lays_197 ?_
          refine q_isub dX8_lays_198 ?_
          rw [show ((l + 1 : Nat) : Int) - 1 = (l : Int) by omega]
          refine q_iload dX8_lays_199 rfl ?_
          refine q_V2 dX8_lays_201 ml_8_110 md_X8_lays (ih (d0 + 1) (4 * b + i) (n + 1 + tsum c (tsz c l) l b i) M (fup T1 n (thd c l b (i + 1))) (fup K1 (off (d0 + 1) + (4 * b + i)) (qcode c l b i)) F1 S1 (by omega) h9 hc hk (by rw [hks, if_pos h192]) (by omega) (LyI_pre hdl hL hb hi hI)) rfl rfl rfl (by first | decide | omega) (Nat.le_of_ble_eq_true rfl) (Nat.le_of_ble_eq_true rfl) (qk_h (fun N201 hq201 => ?_))
          obtain ⟨T2, K2, F2, S2, rfl, hP2⟩ := hq201
          refine q_iinc dX8_lays_204 rfl (Nat.le_of_ble_eq_true rfl) rfl ?_
          refine q_goto (tgt := 60) dX8_lays_207 rfl ?_
          refine q_wk _ ?_ (ih2 (i + 1, T2, K2, F2, S2) _ _ ⟨by dsimp only; omega, LyI_yes hdl hL hb hs hn (by omega) hi h192 hI hP2⟩ (by dsimp only; omega) rfl (by dsimp only; rw [tsum, if_pos h192, Int.add_assoc (n + 1)]))
          simp only [wkB, hqs, if_pos h192]
          (repeat (first | exact rfl | exact trivial | refine ⟨rfl, ?_⟩))
    refine q_iload dX8_lays_60 rfl ?_
    refine q_iconst dX8_lays_62 ?_
    refine q_icmp_ge (tgt := 210) dX8_lays_63 rfl (by (first | (unfold zR; omega) | (unfold zLR; omega) | omega | (simp only [zR, qup] at *; omega) | (simp [zR, qup]; omega) | (simp [zR, qup]; done))) (by (first | (unfold zR; omega) | (unfold zLR; omega) | omega | (simp only [zR, qup] at *; omega) | (simp [zR, qup]; omega) | (simp [zR, qup]; done))) (fun h63 => ?_) (fun h63 => ?_)
    rotate_left
    ·
      refine q_iload_n dX8_lays_66 rfl ?_
      refine q_if_le (tgt := 210) dX8_lays_67 rfl (by (first | (unfold zR; omega) | (unfold zLR; omega) | omega | (simp only [zR, qup] at *; omega) | (simp [zR, qup]; omega) | (simp [zR, qup]; done))) (fun h67 => absurd h67 (by omega)) (fun h67 => ?_)
      refine q_iconst dX8_lays_70 ?_
      refine q_iload_n dX8_lays_71 rfl ?_
      refine q_imul dX8_lays_72 ?_
      refine q_iload dX8_lays_73 rfl ?_
      refine q_iadd dX8_lays_75 ?_
      refine q_istore dX8_lays_76 (Nat.le_of_ble_eq_true rfl) rfl ?_
      have hpk := p4_in ((d0 + 1 : Nat) : Int)
      have hk := kid_in hdl hL hb (show i < 4 by omega)
      have hk2 : 0 ≤ 4 * b + (i : Int) ∧ 4 * b + (i : Int) < p4 ((L : Int) - l) := by rw [show (L : Int) - l = ((d0 + 1 : Nat) : Int) by omega]; exact hk
      refine q_aload_n dX8_lays_78 rfl ?_
      refine q_iload_n dX8_lays_79 rfl ?_
      refine q_iconst dX8_lays_80 ?_
      refine q_isub dX8_lays_81 ?_
      refine q_iload dX8_lays_82 rfl ?_
      refine q_iconst dX8_lays_84 ?_
      rw [show ((l + 1 : Nat) : Int) - 1 = (l : Int) by omega]
      refine q_V3 dX8_lays_85 ml_8_104 md_X8_isAll (m_isAll hL (by omega) hk2 (by (first | (unfold zR; omega) | (unfold zLR; omega) | omega | (simp only [zR, qup] at *; omega) | (simp [zR, qup]; omega) | (simp [zR, qup]; done))) (by rw [mtw_42]; exact hcR)) rfl rfl rfl (by first | decide | omega) (Nat.le_of_ble_eq_true rfl) (Nat.le_of_ble_eq_true rfl) (qk_e ?_)
      rw [mtw_42, hM42]
      refine q_if_eq (tgt := 95) dX8_lays_88 rfl (by exact zb_R _) (fun h88 => ?_) (fun h88 => ?_)
      ·
        refine q_aload_n dX8_lays_95 rfl ?_
        refine q_iload_n dX8_lays_96 rfl ?_
        refine q_iconst dX8_lays_97 ?_
        refine q_isub dX8_lays_98 ?_
        refine q_iload dX8_lays_99 rfl ?_
        refine q_sipush dX8_lays_101 rfl ?_
        rw [show ((l + 1 : Nat) : Int) - 1 = (l : Int) by omega]
        refine q_V3 dX8_lays_104 ml_8_104 md_X8_isAll (m_isAll hL (by omega) hk2 (by (first | (unfold zR; omega) | (unfold zLR; omega) | omega | (simp only [zR, qup] at *; omega) | (simp [zR, qup]; omega) | (simp [zR, qup]; done))) (by rw [mtw_42]; exact hcR)) rfl rfl rfl (by first | decide | omega) (Nat.le_of_ble_eq_true rfl) (Nat.le_of_ble_eq_true rfl) (qk_e ?_)
        rw [mtw_42, hM42]
        refine q_if_eq (tgt := 114) dX8_lays_107 rfl (by exact zb_R _) (fun h107 => ?_) (fun h107 => ?_)
        ·
          refine q_iload dX8_lays_114 rfl ?_
          refine q_iconst dX8_lays_116 ?_
          refine q_icmp_eq (tgt := 138) dX8_lays_117 rfl (by (first | (unfold zR; omega) | (unfold zLR; omega) | omega | (simp only [zR, qup] at *; omega) | (simp [zR, qup]; omega) | (simp [zR, qup]; done))) (by (first | (unfold zR; omega) | (unfold zLR; omega) | omega | (simp only [zR, qup] at *; omega) | (simp [zR, qup]; omega) | (simp [zR, qup]; done))) (fun h117 => ?_) (fun h117 => ?_)
          ·
            refine q_iconst dX8_lays_138 ?_
            have e : qcode c l b i = 2 := by
              unfold qcode tc
              rw [cif_f (zb_0.1 h88), cif_f (zb_0.1 h107), cif_f (fun w => w.1 h117)]
            have hcw := hcont (by omega) none
            rw [e] at hcw
            exact hcw
          ·
            refine q_aload_n dX8_lays_120 rfl ?_
            refine q_iload_n dX8_lays_121 rfl ?_
            refine q_iconst dX8_lays_122 ?_
            refine q_isub dX8_lays_123 ?_
            refine q_iload dX8_lays_124 rfl ?_
            refine q_iload dX8_lays_126 rfl ?_
            rw [show ((l + 1 : Nat) : Int) - 1 = (l : Int) by omega]
            refine q_V3 dX8_lays_128 ml_8_107 md_X8_isSame (m_isSame hL (by omega) ⟨by omega, by omega⟩ hk2 (by rw [mtw_42]; exact hcR)) rfl rfl rfl (by first | decide | omega) (Nat.le_of_ble_eq_true rfl) (Nat.le_of_ble_eq_true rfl) (qk_e ?_)
            rw [mtw_42, hM42]
            refine q_if_eq (tgt := 138) dX8_lays_131 rfl (by exact zb_R _) (fun h131 => ?_) (fun h131 => ?_)
            ·
              refine q_iconst dX8_lays_138 ?_
              have e : qcode c l b i = 2 := by
                unfold qcode tc
                rw [cif_f (zb_0.1 h88), cif_f (zb_0.1 h107), cif_f (fun w => zb_0.1 h131 w.2)]
              have hcw := hcont (by omega) none
              rw [e] at hcw
              exact hcw
            ·
              refine q_iconst dX8_lays_134 ?_
              refine q_goto (tgt := 139) dX8_lays_135 rfl ?_
              have e : qcode c l b i = 3 := by
                unfold qcode tc
                rw [cif_f (zb_0.1 h88), cif_f (zb_0.1 h107), cif_t ⟨h117, zbp h131⟩]
              have hcw := hcont (by omega) none
              rw [e] at hcw
              exact hcw
        ·
          refine q_iconst dX8_lays_110 ?_
          refine q_goto (tgt := 139) dX8_lays_111 rfl ?_
          have e : qcode c l b i = 1 := by
            unfold qcode tc
            rw [cif_f (zb_0.1 h88), cif_t (zbp h107)]
          have hcw := hcont (by omega) none
          rw [e] at hcw
          exact hcw
      ·
        refine q_iconst dX8_lays_91 ?_
        refine q_goto (tgt := 139) dX8_lays_92 rfl ?_
        have e : qcode c l b i = 0 := by
          unfold qcode tc
          rw [cif_t (zbp h88)]
        have hcw := hcont (by omega) none
        rw [e] at hcw
        exact hcw
    have hie : i = 4 := by omega
    subst hie
    refine q_aload_n dX8_lays_210 rfl ?_
    refine q_getr dX8_lays_211 fl_8_35 rfl rfl ?_
    refine q_iload_n dX8_lays_214 rfl ?_
    refine q_aload_n dX8_lays_215 rfl ?_
    refine q_geti (j := 12) dX8_lays_216 fl_8_101 rfl rfl rfl ?_
    rw [mtw_12]
    refine q_iload dX8_lays_219 rfl ?_
    refine q_isub dX8_lays_221 ?_
    rw [show n + 1 + tsum c (tsz c l) l b 4 - n = tsz c (l + 1) b by rw [htl]; omega]
    refine q_iast dX8_lays_222 rfl (by (first | (unfold zR; omega) | (unfold zLR; omega) | omega | (simp only [zR, qup] at *; omega) | (simp [zR, qup]; omega) | (simp [zR, qup]; done))) (Nat.le_of_ble_eq_true rfl) ?_
    rw [mtw_46]
    refine q_return dX8_lays_223 ?_
    exact ⟨rfl, _, _, _, _, by rw [htl, ← Int.add_assoc], LI_end hdl hI hL hb⟩
end MM


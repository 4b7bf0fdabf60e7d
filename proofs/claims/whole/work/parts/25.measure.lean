theorem tw_s16 (M : qM) (K Y S C T N : Int → Int) (n v : Int) : qset (tw M K Y S C T N) 16 0 n v = tw M K Y S C (fun j => if 0 ≤ j ∧ j < n then v else T j) N := by
  funext o k
  unfold qset tw
  by_cases e : o = 16
  · subst e
    by_cases h : 0 ≤ k ∧ k < n
    · rw [if_pos ⟨rfl, h.1, by omega⟩]; simp [h]
    · rw [if_neg (fun q => h ⟨q.2.1, by omega⟩)]; simp [h]
  · rw [if_neg (fun q => e q.1)]
    simp [e]
/-- the tree of the cells c, of the level L, is measured -/
def Tm (c : Int → Int) (L : Nat) (K Y S C T N : Int → Int) : Prop := Ti c L (L + 1) 0 K Y S C ∧ (∀ (d : Nat) (x : Int), d ≤ L → 0 ≤ x → x < p4 d → T (nd ((L : Int) - d) x) = sr c L 0 d x) ∧ lay c L 0 N 0 ∧ ∀ j, zR (Y j)
def Lz (c : Int → Int) (L : Nat) (b : Int) (N : Int → Int) : Prop := Lc c L L 0 N ∧ ∀ x, 0 ≤ x → x < b → sr c L 0 L x ≠ -1 → N (sr c L 0 L x) = c x
theorem Lz_up {c : Int → Int} {L : Nat} {b : Int} {N : Int → Int} (hL : L ≤ 4) (hb : 0 ≤ b ∧ b < p4 L) (h : Lz c L b N) (ht : sr c L 0 L b ≠ -1) : Lz c L (b + 1) (fup N (sr c L 0 L b) (c b)) := by
  have ab := (anc_0 L hL b).mpr hb
  refine ⟨fun d x hd h0 h1 hn h2 => ?_, fun x h0 h1 hn => ?_⟩
  · rw [fup_n]
    · exact h.1 d x hd h0 h1 hn h2
    · intro w
      have a1 := (anc_0 d (by omega) x).mpr ⟨h0, h1⟩
      have := (sr_inj (by omega) (by omega) (by omega) (by rw [a1, ab]) hn w).1
      omega
  · by_cases e : x = b
    · rw [e, fup_s]
    · rw [fup_n]
      · exact h.2 x h0 (by omega) hn
      · intro w
        have a1 := (anc_0 L hL x).mpr ⟨h0, by omega⟩
        exact e (sr_inj (by omega) (by omega) (by omega) (by rw [a1, ab]) hn w).2
theorem Lz_no {c : Int → Int} {L : Nat} {b : Int} {N : Int → Int} (h : Lz c L b N) (ht : sr c L 0 L b = -1) : Lz c L (b + 1) N := ⟨h.1, fun x h0 h1 hn => h.2 x h0 (by
  have : x ≠ b := fun e => hn (by rw [e]; exact ht)
  omega) hn⟩
theorem Lz_lay {c : Int → Int} {L : Nat} {N : Int → Int} (hL : L ≤ 4) (h : Lz c L (p4 L) N) : lay c L 0 N 0 := by
  have := lay_of (c := c) (L := L) (a := 0) (b0 := 0) N (by omega) (fun x hx hn => by
    have := (anc_0 L hL x).mp hx
    exact h.2 x this.1 this.2 hn) (fun d x hd hx hn => by
    have := (anc_0 d (by omega) x).mp hx
    exact h.1 d x hd this.1 this.2 hn (Or.inl hd)) L 0 (by omega) 0 rfl (by rw [sr_0]; omega)
  rw [sr_0] at this
  exact this
theorem Td_code {c : Int → Int} {L d : Nat} {x : Int} {K Y S C : Int → Int} (hL : L ≤ 4) (hd : d < L) (hx : 0 ≤ x ∧ x < p4 ((d : Int) + 1)) (h : Ti c L (L + 1) 0 K Y S C) : C (nd ((L : Int) - d - 1) x) = qcode c ((L : Int) - d - 1) (x / 4) (x % 4).toNat := by
  have hp := p4_s (l := (d : Int)) (by omega)
  have t := h (L - d) (x / 4) ⟨by omega, by omega, by rw [show (L : Int) - ((L - d : Nat) : Int) = d by omega]; omega, Or.inl (by omega)⟩
  have u := (t.2.2.2.2.2.2 (L - d - 1) (by omega)).2.2 (x % 4).toNat (by omega)
  rw [show ((L - d - 1 : Nat) : Int) = (L : Int) - d - 1 by omega, show 4 * (x / 4) + ((x % 4).toNat : Int) = x by omega] at u
  exact u
theorem Td_size {c : Int → Int} {L d : Nat} {x : Int} {K Y S C : Int → Int} (hd : d ≤ L) (hx : 0 ≤ x ∧ x < p4 d) (h : Ti c L (L + 1) 0 K Y S C) : S (nd ((L : Int) - d) x) = tsz c (L - d) x := by
  have t := h (L - d) x ⟨hx.1, by omega, by rw [show (L : Int) - ((L - d : Nat) : Int) = d by omega]; exact hx.2, Or.inl (by omega)⟩
  have := t.2.2.2.2.1
  rw [show ((L - d : Nat) : Int) = (L : Int) - d by omega] at this
  exact this
set_option maxHeartbeats 8000000 in
theorem c_layOut {L : Nat} {r : Int} {c : Int → Int} {M : qM} {K Y S C T N : Int → Int} (hL : 1 ≤ L ∧ L ≤ 4) (hr : 0 ≤ r ∧ r < 33) (h8 : M 5 8 = (L : Int)) (h7 : M 5 7 = r) (hc : ∀ k, 0 ≤ k → k < p4 L → M 4 (r * 256 + k) = c k) (hT : Ti c L (L + 1) 0 K Y S C) :
    qCt mX6_layOut 0 2 [.ref 5] (tw M K Y S C T N) (qph (fun M' => ∃ T' N', M' = tw M K Y S C T' N' ∧ (∀ (d : Nat) (x : Int), d ≤ L → 0 ≤ x → x < p4 d → T' (nd ((L : Int) - d) x) = sr c L 0 d x) ∧ lay c L 0 N' 0)) := by
  have nin : ∀ (d : Nat) (x : Int), d ≤ L → 0 ≤ x → x < p4 d → 0 ≤ nd ((L : Int) - d) x ∧ nd ((L : Int) - d) x < 341 := fun d x hd h0 h1 => nd_in (by omega) ⟨h0, by have := p4_le (a := (d : Int)) (b := 4 - ((L : Int) - d)) (by omega); omega⟩
  refine q_intro (own := 6) (L := [some (.ref 5), none, none]) md_X6_layOut rfl rfl rfl (Nat.le_of_ble_eq_true rfl) (fun X => ?_)
  refine q_aload_n dX6_layOut_0 rfl ?_
  refine q_getr dX6_layOut_1 fl_6_29 rfl rfl ?_
  refine q_iconst dX6_layOut_4 ?_
  refine q_V1 dX6_layOut_5 ml_6_85 md_X5_setAll (c_rsetAll (o := 10) (r := 16) (n := 341) rfl rfl (by omega)) rfl rfl rfl (by first | decide | omega) (Nat.le_of_ble_eq_true rfl) (Nat.le_of_ble_eq_true rfl) (qk_v ?_)
  rw [tw_s16]
  refine q_aload_n dX6_layOut_8 rfl ?_
  refine q_getr dX6_layOut_9 fl_6_29 rfl rfl ?_
  refine q_aload_n dX6_layOut_12 rfl ?_
  refine q_geti (j := 8) dX6_layOut_13 fl_6_43 rfl rfl rfl ?_
  refine q_iconst dX6_layOut_16 ?_
  rw [tw_5, h8]
  refine q_S2 dX6_layOut_17 ml_6_72 md_X6_node (c_node (by omega)) rfl (by first | decide | omega) (Nat.le_of_ble_eq_true rfl) (Nat.le_of_ble_eq_true rfl) (qk_e ?_)
  refine q_iconst dX6_layOut_20 ?_
  refine q_V2 dX6_layOut_21 ml_6_59 md_X5_set (c_rset (o := 10) (r := 16) (n := 341) rfl rfl (by omega) (by have := nin 0 0 (by omega) (by omega) (by decide); rw [show (L : Int) - ((0 : Nat) : Int) = L by omega] at this; exact this)) rfl rfl rfl (by first | decide | omega) (Nat.le_of_ble_eq_true rfl) (Nat.le_of_ble_eq_true rfl) (qk_v ?_)
  rw [tw_u16]
  refine q_aload_n dX6_layOut_24 rfl ?_
  refine q_geti (j := 8) dX6_layOut_25 fl_6_43 rfl rfl rfl ?_
  rw [tw_5, h8]
  refine q_istore_n dX6_layOut_28 (Nat.le_of_ble_eq_true rfl) rfl ?_
  refine q_lp (α := Nat × (Int → Int) × (Int → Int)) (fun x => L + 1 - x.1) (fun x => x.1 ≤ L ∧ Ls c L x.1 0 x.2.1 ∧ Lc c L x.1 0 x.2.2) (fun x => [some (.ref 5), some (.int (zI ((L : Int) - x.1))), none]) (fun x => tw M K Y S C x.2.1 x.2.2) (0, fup (fun j => if 0 ≤ j ∧ j < ((341 : Nat) : Int) then -1 else T j) (nd L 0) 0, N) (by show _ = [some (Value.ref 5), some (Value.int (zI ((L : Int) - ((0 : Nat) : Int)))), none]; rw [show (L : Int) - ((0 : Nat) : Int) = L by omega]; rfl) rfl ⟨by omega, fun d x hd h0 h1 => ?_, fun d x hd h0 h1 hn h2 => by omega⟩ (fun x hx ih => ?_)
  · dsimp only
    by_cases e : d = 0
    · subst e
      rw [show ((0 : Nat) : Int) = 0 from rfl, p4_0] at h1
      rw [show x = 0 by omega, show (L : Int) - ((0 : Nat) : Int) = L by omega, fup_s, if_pos (Or.inl (by omega)), sr_0]
    · have hne : nd ((L : Int) - d) x ≠ nd L 0 := by
        have e4 : ((L - d : Nat) : Int) = (L : Int) - d := by omega
        rw [← e4]
        exact nd_ne (L := L) hL.2 (by omega) (by omega) ⟨h0, by rw [e4, show (L : Int) - ((L : Int) - d) = d by omega]; exact h1⟩ ⟨by omega, by rw [show (L : Int) - L = 0 by omega]; decide⟩ (fun q => by omega)
      have hin := nin d x hd h0 h1
      rw [fup_n _ hne, if_pos (by omega), if_neg (by omega)]
  obtain ⟨d0, T1, N1⟩ := x
  obtain ⟨hx1, hx2, hx3⟩ := hx
  dsimp only at hx1 hx2 hx3 ih ⊢
  refine q_iload_n dX6_layOut_29 rfl ?_
  refine q_if_le (tgt := 74) dX6_layOut_30 rfl (by (first | (unfold zR; omega) | (unfold zLR; omega) | omega | (simp only [zR, qup] at *; omega) | (simp [zR, qup]; omega) | (simp [zR, qup]; done))) (fun h30 => ?_) (fun h30 => ?_)
  rotate_left
  ·
    refine q_iconst dX6_layOut_33 ?_
    refine q_istore_n dX6_layOut_34 (Nat.le_of_ble_eq_true rfl) rfl ?_
    refine q_lp (α := Int × (Int → Int) × (Int → Int)) (fun x => (p4 d0 - x.1).toNat) (fun x => 0 ≤ x.1 ∧ x.1 ≤ p4 d0 ∧ Ls c L d0 x.1 x.2.1 ∧ Lc c L d0 x.1 x.2.2) (fun x => [some (.ref 5), some (.int (zI ((L : Int) - d0))), some (.int (zI x.1))]) (fun x => tw M K Y S C x.2.1 x.2.2) (0, T1, N1) rfl rfl ⟨by dsimp only; omega, by dsimp only; have := (p4_in d0).1; omega, hx2, hx3⟩ (fun x hx ih2 => ?_)
    obtain ⟨b, T2, N2⟩ := x
    obtain ⟨hb0, hb1, hb2, hb3⟩ := hx
    dsimp only at hb0 hb1 hb2 hb3 ih2 ⊢
    have hpd := p4_in d0
    obtain ⟨l, hl⟩ : ∃ l : Nat, l + d0 + 1 = L := ⟨L - d0 - 1, by omega⟩
    refine q_iload_n dX6_layOut_35 rfl ?_
    refine q_iload_n dX6_layOut_36 rfl ?_
    refine q_aload_n dX6_layOut_37 rfl ?_
    refine q_geti (j := 8) dX6_layOut_38 fl_6_43 rfl rfl rfl ?_
    rw [tw_5, h8]
    refine q_N2 dX6_layOut_41 (by decide +kernel) md_X7_blocksAt (c_blocksAt (by omega)) rfl (by first | decide | omega) (Nat.le_of_ble_eq_true rfl) (Nat.le_of_ble_eq_true rfl) (qk_e ?_)
    rw [show (L : Int) - ((L : Int) - d0) = d0 by omega]
    refine q_icmp_ge (tgt := 68) dX6_layOut_44 rfl (by (first | (unfold zR; omega) | (unfold zLR; omega) | omega | (simp only [zR, qup] at *; omega) | (simp [zR, qup]; omega) | (simp [zR, qup]; done))) (by (first | (unfold zR; omega) | (unfold zLR; omega) | omega | (simp only [zR, qup] at *; omega) | (simp [zR, qup]; omega) | (simp [zR, qup]; done))) (fun h44 => ?_) (fun h44 => ?_)
    rotate_left
    ·
      refine q_aload_n dX6_layOut_47 rfl ?_
      refine q_iload_n dX6_layOut_48 rfl ?_
      refine q_iload_n dX6_layOut_49 rfl ?_
      have hTn := Ls_in hL.2 hb2 (d := d0) (x := b) (by omega) ⟨hb0, h44⟩
      refine q_V2 dX6_layOut_50 ml_6_88 md_X6_isTold (c_isTold (by omega) (nin d0 b (by omega) hb0 h44) (by rw [tw_16]; (first | (unfold zR; omega) | (unfold zLR; omega) | omega | (simp only [zR, qup] at *; omega) | (simp [zR, qup]; omega) | (simp [zR, qup]; done)))) rfl rfl rfl (by first | decide | omega) (Nat.le_of_ble_eq_true rfl) (Nat.le_of_ble_eq_true rfl) (qk_e ?_)
      rw [tw_16, hb2 d0 b (by omega) hb0 h44, if_pos (Or.inl (by omega))]
      refine q_if_eq (tgt := 62) dX6_layOut_53 rfl (by have := zb_01 (sr c L 0 d0 b ≠ -1); unfold zR; omega) (fun h53 => ?_) (fun h53 => ?_)
      ·
        refine q_iinc dX6_layOut_62 rfl (Nat.le_of_ble_eq_true rfl) rfl ?_
        refine q_goto (tgt := 35) dX6_layOut_65 rfl ?_
        have ht : sr c L 0 d0 b = -1 := Classical.byContradiction fun q => by rw [zb_t q] at h53; omega
        exact ih2 (b + 1, T2, N2) _ _ ⟨by dsimp only; omega, by dsimp only; omega, Ls_no hb2 ht, Lc_no hb3 ht⟩ (by dsimp only; omega) rfl rfl
      ·
        refine q_aload_n dX6_layOut_56 rfl ?_
        refine q_iload_n dX6_layOut_57 rfl ?_
        refine q_iload_n dX6_layOut_58 rfl ?_
        have ht : sr c L 0 d0 b ≠ -1 := zb_1.mp (by have := zb_01 (sr c L 0 d0 b ≠ -1); omega)
        have hs := sr_in (c := c) hL.2 (show d0 ≤ L by omega) (x := b) ⟨hb0, h44⟩
        rw [show (L : Int) - d0 = (l : Int) + 1 by omega]
        refine q_V2 dX6_layOut_59 ml_6_92 md_X6_layOutBlock (c_layOutBlock (l := l) (a := sr c L 0 d0 b) (c := c) (by omega) ⟨hb0, by have := p4_le (a := (d0 : Int)) (b := 4 - ((l : Int) + 1)) (by omega); omega⟩ (by rw [show (l : Int) + 1 = (L : Int) - d0 by omega, hb2 d0 b (by omega) hb0 h44, if_pos (Or.inl (by omega))]) (by omega) (fun q hq => by have hk := p4_kid (l := l) (L := L) (x := b) (by omega) hL.2 (by rw [show (L : Int) - (l + 1) = d0 by omega]; exact ⟨hb0, h44⟩) hq; have := Td_code (d := d0) (x := 4 * b + q) hL.2 (by omega) ⟨hk.1, by rw [show (d0 : Int) + 1 = (L : Int) - l by omega]; exact hk.2⟩ hT; rw [show (L : Int) - d0 - 1 = l by omega, show (4 * b + (q : Int)) / 4 = b by omega, show ((4 * b + (q : Int)) % 4).toNat = q by omega] at this; exact this) (fun q hq => by have hk := p4_kid (l := l) (L := L) (x := b) (by omega) hL.2 (by rw [show (L : Int) - (l + 1) = d0 by omega]; exact ⟨hb0, h44⟩) hq; have := Td_size (d := d0 + 1) (x := 4 * b + q) (by omega) ⟨hk.1, by rw [show ((d0 + 1 : Nat) : Int) = (L : Int) - l by omega]; exact hk.2⟩ hT; rw [show (L : Int) - ((d0 + 1 : Nat) : Int) = l by omega, show L - (d0 + 1) = l by omega] at this; exact this)) rfl rfl rfl (by first | decide | omega) (Nat.le_of_ble_eq_true rfl) (Nat.le_of_ble_eq_true rfl) (qk_v ?_)
        refine q_iinc dX6_layOut_62 rfl (Nat.le_of_ble_eq_true rfl) rfl ?_
        refine q_goto (tgt := 35) dX6_layOut_65 rfl ?_
        exact ih2 (b + 1, _, _) _ _ ⟨by dsimp only; omega, by dsimp only; omega, Ls_up hL.2 hl ⟨hb0, h44⟩ hb2 ht, Lc_up hL.2 hl ⟨hb0, h44⟩ hb3 ht⟩ (by dsimp only; omega) (by rw [show (l : Int) + 1 = (L : Int) - d0 by omega]; rfl) rfl
    refine q_iinc dX6_layOut_68 rfl (Nat.le_of_ble_eq_true rfl) rfl ?_
    refine q_goto (tgt := 29) dX6_layOut_71 rfl ?_
    refine q_wk _ ?_ (ih (d0 + 1, T2, N2) _ _ ⟨by dsimp only; omega, Ls_next hL.2 (by omega) hb2 h44, Lc_next hb3 h44⟩ (by dsimp only; omega) rfl rfl)
    have e1 : (L : Int) - d0 + -1 = (L : Int) - ((d0 + 1 : Nat) : Int) := by omega
    rw [e1]
    simp only [wkB]
    (repeat (first | exact rfl | exact trivial | refine ⟨rfl, ?_⟩))
  refine q_iconst dX6_layOut_74 ?_
  refine q_istore_n dX6_layOut_75 (Nat.le_of_ble_eq_true rfl) rfl ?_
  have hd : d0 = L := by omega
  subst hd
  refine q_wk [some (.ref 5), some (.int (zI 0)), none] (by (simp only [wkB]; repeat (first | exact rfl | exact trivial | refine ⟨rfl, ?_⟩))) ?_
  refine q_lp (α := Int × (Int → Int)) (fun x => (p4 d0 - x.1).toNat) (fun x => 0 ≤ x.1 ∧ x.1 ≤ p4 d0 ∧ Lz c d0 x.1 x.2) (fun x => [some (.ref 5), some (.int (zI x.1)), none]) (fun x => tw M K Y S C T1 x.2) (0, N1) rfl rfl ⟨by dsimp only; omega, by dsimp only; have := (p4_in d0).1; omega, hx3, fun x h0 h1 => by dsimp only at h1; omega⟩ (fun x hx ih2 => ?_)
  obtain ⟨b, N2⟩ := x
  obtain ⟨hb0, hb1, hb2⟩ := hx
  dsimp only at hb0 hb1 hb2 ih2 ⊢
  have hpd := p4_in d0
  have hT1 : ∀ (d : Nat) (x : Int), d ≤ d0 → 0 ≤ x → x < p4 d → T1 (nd ((d0 : Int) - d) x) = sr c d0 0 d x := fun d x hd h0 h1 => by rw [hx2 d x hd h0 h1, if_pos (Or.inl hd)]
  refine q_iload_n dX6_layOut_76 rfl ?_
  refine q_aload_n dX6_layOut_77 rfl ?_
  refine q_geti (j := 8) dX6_layOut_78 fl_6_43 rfl rfl rfl ?_
  rw [tw_5, h8]
  refine q_N1 dX6_layOut_81 (by decide +kernel) md_X7_cellsIn (c_cellsIn (by omega)) rfl (by first | decide | omega) (Nat.le_of_ble_eq_true rfl) (Nat.le_of_ble_eq_true rfl) (qk_e ?_)
  refine q_icmp_ge (tgt := 129) dX6_layOut_84 rfl (by (first | (unfold zR; omega) | (unfold zLR; omega) | omega | (simp only [zR, qup] at *; omega) | (simp [zR, qup]; omega) | (simp [zR, qup]; done))) (by (first | (unfold zR; omega) | (unfold zLR; omega) | omega | (simp only [zR, qup] at *; omega) | (simp [zR, qup]; omega) | (simp [zR, qup]; done))) (fun h84 => ?_) (fun h84 => ?_)
  rotate_left
  ·
    refine q_aload_n dX6_layOut_87 rfl ?_
    refine q_iconst dX6_layOut_88 ?_
    refine q_iload_n dX6_layOut_89 rfl ?_
    have hTn := sr_in (c := c) hL.2 (Nat.le_refl d0) (x := b) ⟨hb0, h84⟩
    have hTe := hT1 d0 b (by omega) hb0 h84
    rw [show (d0 : Int) - d0 = 0 by omega] at hTe
    have hni := nin d0 b (by omega) hb0 h84
    rw [show (d0 : Int) - d0 = 0 by omega] at hni
    have hb' : nd 0 b = b := by show (0 : Int) + b = b; omega
    refine q_V2 dX6_layOut_90 ml_6_88 md_X6_isTold (c_isTold (by omega) hni (by rw [tw_16, hTe]; (first | (unfold zR; omega) | (unfold zLR; omega) | omega | (simp only [zR, qup] at *; omega) | (simp [zR, qup]; omega) | (simp [zR, qup]; done)))) rfl rfl rfl (by first | decide | omega) (Nat.le_of_ble_eq_true rfl) (Nat.le_of_ble_eq_true rfl) (qk_e ?_)
    rw [tw_16, hTe]
    refine q_if_eq (tgt := 123) dX6_layOut_93 rfl (by have := zb_01 (sr c d0 0 d0 b ≠ -1); unfold zR; omega) (fun h93 => ?_) (fun h93 => ?_)
    ·
      skip
      refine q_iinc dX6_layOut_123 rfl (Nat.le_of_ble_eq_true rfl) rfl ?_
      refine q_goto (tgt := 76) dX6_layOut_126 rfl ?_
      have ht : sr c d0 0 d0 b = -1 := Classical.byContradiction fun q => by rw [zb_t q] at h93; omega
      exact ih2 (b + 1, N2) _ _ ⟨by dsimp only; omega, by dsimp only; omega, Lz_no hb2 ht⟩ (by dsimp only; omega) rfl rfl
    ·
      refine q_aload_n dX6_layOut_96 rfl ?_
      refine q_getr dX6_layOut_97 fl_6_32 rfl rfl ?_
      refine q_aload_n dX6_layOut_100 rfl ?_
      refine q_getr dX6_layOut_101 fl_6_29 rfl rfl ?_
      refine q_iload_n dX6_layOut_104 rfl ?_
      have ht : sr c d0 0 d0 b ≠ -1 := zb_1.mp (by have := zb_01 (sr c d0 0 d0 b ≠ -1); omega)
      refine q_V1 dX6_layOut_105 ml_6_75 md_X5_get (c_rget (o := 10) (r := 16) (n := 341) rfl rfl (by omega) (by rw [hb'] at hni; exact hni)) rfl rfl rfl (by first | decide | omega) (Nat.le_of_ble_eq_true rfl) (Nat.le_of_ble_eq_true rfl) (qk_e ?_)
      rw [tw_16, show T1 b = sr c d0 0 d0 b by rw [← hTe, hb']]
      refine q_aload_n dX6_layOut_108 rfl ?_
      refine q_getr dX6_layOut_109 fl_6_35 rfl rfl ?_
      refine q_aload_n dX6_layOut_112 rfl ?_
      refine q_geti (j := 7) dX6_layOut_113 fl_6_39 rfl rfl rfl ?_
      refine q_iload_n dX6_layOut_116 rfl ?_
      rw [tw_5, h7]
      refine q_V2 dX6_layOut_117 ml_6_50 md_X0_cell (c_cell (by omega) (by omega)) rfl rfl rfl (by first | decide | omega) (Nat.le_of_ble_eq_true rfl) (Nat.le_of_ble_eq_true rfl) (qk_e ?_)
      rw [tw_4, hc b hb0 h84]
      refine q_V2 dX6_layOut_120 ml_6_59 md_X5_set (c_rset (o := 11) (r := 17) (n := 341) rfl rfl (by omega) (by omega)) rfl rfl rfl (by first | decide | omega) (Nat.le_of_ble_eq_true rfl) (Nat.le_of_ble_eq_true rfl) (qk_v ?_)
      rw [tw_u17]
      refine q_iinc dX6_layOut_123 rfl (Nat.le_of_ble_eq_true rfl) rfl ?_
      refine q_goto (tgt := 76) dX6_layOut_126 rfl ?_
      exact ih2 (b + 1, _) _ _ ⟨by dsimp only; omega, by dsimp only; omega, Lz_up hL.2 ⟨hb0, h84⟩ hb2 ht⟩ (by dsimp only; omega) rfl rfl
  refine q_return dX6_layOut_129 ?_
  exact ⟨rfl, T1, N2, rfl, hT1, Lz_lay hL.2 (by rw [show p4 d0 = b by omega]; exact hb2)⟩


theorem fup_ge {B : Int → Int} {L m : Nat} {k v : Int} (hk : k ≤ (L : Int) - m) : ∀ l : Int, (L : Int) - m < l → fup B k v l = B l := fun l hl => fup_n _ (by omega)
section MC
variable {n : Int} {src : Int → Int} {L o q : Nat} {B H Q w : Int → Int} {p : Int}
theorem mic_whole (h4 : Q L = 4) : mic n src L L B H Q p w = rfin n L p w := by
  unfold mic
  rw [if_pos h4, show L - L = 0 by omega]
  rfl
theorem mic_up (h4 : Q o = 4) (ho : o < L) (hq : Q ((o : Int) + 1) = (q : Int)) (hq4 : q < 4) : mic n src L o B H Q p w = qif (bad w o (4 * B ((o : Int) + 1) + q) (lastB (B ((o : Int) + 1)) (H ((o : Int) + 1)) q)) (rwr (p - 1)) (mic n src L (o + 1) B H (fup Q ((o : Int) + 1) (q + 1)) p w) := by
  have e1 : L - o = (L - o - 1) + 1 := by omega
  have e2 : (L : Int) - ((L - o - 1 : Nat) : Int) = (o : Int) + 1 := by omega
  have e3 : L - (L - o - 1) - 1 = o := by omega
  unfold mic
  rw [if_pos h4, e1, ktk, e2, e3, hq]
  have e4 : ((o + 1 : Nat) : Int) = (o : Int) + 1 := by omega
  have ek : ktk n src B H (fup Q ((o : Int) + 1) (q + 1)) L (L - o - 1) = ktk n src B H Q L (L - o - 1) := ktk_c _ (fun l hl => ⟨rfl, rfl, fup_ge (by omega) l hl⟩)
  rw [e4, fup_s, show L - (o + 1) = L - o - 1 by omega, ek, show o + 1 - 1 = o by omega]
  have e5 : ((q : Int)).toNat = q := by omega
  rw [e5]
  congr 1
  by_cases h : (q : Int) + 1 = 4
  · rw [if_pos h, show q + 1 = 4 by omega]; rfl
  · rw [if_neg h, show ((q : Int) + 1).toNat = q + 1 by omega]
theorem mic_low (ho : 1 ≤ o ∧ o ≤ L) (hq : Q o = (q : Int)) (hq4 : q < 4) (hc : hcode (H o) q < 2) : mic n src L o B H Q p w = mic n src L o B H (fup Q o (q + 1)) p (fset w (p4 ((o : Int) - 1) * (4 * B o + q)) (p4 ((o : Int) - 1)) (255 * hcode (H o) q)) := by
  have ek : ktk n src B H (fup Q o (q + 1)) L (L - o) = ktk n src B H Q L (L - o) := ktk_c _ (fun l hl => ⟨rfl, rfl, fup_ge (by omega) l hl⟩)
  unfold mic
  rw [fup_s, ek, if_neg (by omega), hq, show ((q : Int)).toNat = q by omega, rl_i _ _ _ _ hq4, if_pos hc, show ((o - 1 : Nat) : Int) = (o : Int) - 1 by omega]
  by_cases h : (q : Int) + 1 = 4
  · rw [if_pos h, show q + 1 = 4 by omega, rl_4]
  · rw [if_neg h, show ((q : Int) + 1).toNat = q + 1 by omega]
theorem mic_same (ho : 1 ≤ o ∧ o ≤ L) (hq : Q o = (q : Int)) (hq4 : q < 4) (hc : hcode (H o) q = 3) : mic n src L o B H Q p w = mic n src L o B H (fup Q o (q + 1)) p (fcpy w (p4 ((o : Int) - 1) * (4 * B o + lastT (H o) q)) (p4 ((o : Int) - 1) * (4 * B o + q)) (p4 ((o : Int) - 1))) := by
  have ek : ktk n src B H (fup Q o (q + 1)) L (L - o) = ktk n src B H Q L (L - o) := ktk_c _ (fun l hl => ⟨rfl, rfl, fup_ge (by omega) l hl⟩)
  unfold mic
  rw [fup_s, ek, if_neg (by omega), hq, show ((q : Int)).toNat = q by omega, rl_i _ _ _ _ hq4, if_neg (by omega), if_pos hc, show ((o - 1 : Nat) : Int) = (o : Int) - 1 by omega]
  by_cases h : (q : Int) + 1 = 4
  · rw [if_pos h, show q + 1 = 4 by omega, rl_4]
  · rw [if_neg h, show ((q : Int) + 1).toNat = q + 1 by omega]
theorem mic_down (ho : 1 ≤ o ∧ o ≤ L) (hq : Q o = (q : Int)) (hq4 : q < 4) (hc : hcode (H o) q = 2) : mic n src L o B H Q p w = due n src L (o - 1) (fup B ((o : Int) - 1) (4 * B o + q)) H Q p w := by
  have ek : ktk n src (fup B ((o : Int) - 1) (4 * B o + q)) H Q L (L - o) = ktk n src B H Q L (L - o) := ktk_c _ (fun l hl => ⟨fup_ge (by omega) l hl, rfl, rfl⟩)
  unfold mic due
  rw [if_neg (by omega), hq, show ((q : Int)).toNat = q by omega, rl_i _ _ _ _ hq4, if_neg (by omega), if_neg (by omega), show L - (o - 1) = (L - o) + 1 by omega, ktk, ek, show ((o - 1 : Nat) : Int) = (o : Int) - 1 by omega, fup_s, show (L : Int) - ((L - o : Nat) : Int) = o by omega, fup_n _ (show (o : Int) ≠ (o : Int) - 1 by omega), show L - (L - o) - 1 = o - 1 by omega, hq, show ((q : Int)).toNat = q by omega, show ((o - 1 : Nat) : Int) = (o : Int) - 1 by omega]
end MC
/-- what take answers: a wrong byte; blocks that are open still; a tree that is whole -/
def tkP (M0 : qM) (r : Int) (L : Nat) (w0 : Int → Int) (D : Int → (Int → Int) → Int → qR) (v : Int) : Int → qM → Prop := fun z M' => ∃ (w' B' H' Q' : Int → Int) (o' : Nat) (wh' : Int), M' = rdw M0 r w' B' H' Q' o' wh' ∧ ((∀ k, 0 ≤ k → k < 256 → 0 ≤ w' k ∧ w' k < 256) ∧ ∀ k, p4 L ≤ k → w' k = w0 k) ∧
  ((z = 0 ∧ wh' = 0 ∧ ∀ n src p, p < n → src p = v → D n src p = rwr p) ∨
   (z = 1 ∧ wh' = 0 ∧ St L o' B' H' Q' ∧ ∀ n src p, p < n → src p = v → D n src p = due n src L o' B' H' Q' (p + 1) w') ∨
   (z = 1 ∧ wh' = 1 ∧ ∀ n src p, p < n → src p = v → D n src p = rfin n L (p + 1) w'))
def tkI (L : Nat) (w0 : Int → Int) (D : Int → (Int → Int) → Int → qR) (v : Int) (o : Nat) (B H Q w : Int → Int) : Prop := St L o B H Q ∧ 0 ≤ Q o ∧ Q o ≤ 4 ∧ (o = 0 → Q o = 4) ∧ 0 ≤ H o ∧ H o < 256 ∧ (o ≠ 0 → hdOk (H o)) ∧ ((∀ k, 0 ≤ k → k < 256 → 0 ≤ w k ∧ w k < 256) ∧ ∀ k, p4 L ≤ k → w k = w0 k) ∧ ∀ n src p, p < n → src p = v → D n src p = mic n src L o B H Q (p + 1) w
theorem St_Q {L o : Nat} {B H Q : Int → Int} (h : St L o B H Q) (h0 : 0 ≤ Q o ∧ Q o ≤ 4) : ∀ l : Nat, L ≤ l + (L - o) → l ≤ L → 0 ≤ Q l ∧ Q l ≤ 4 := by
  intro l h1 h2
  have h3 := h.1
  by_cases e : l = o
  · rw [e]; exact h0
  · have := h.2.2 (l - 1) (by omega) (by omega)
    rw [show ((l - 1 : Nat) : Int) + 1 = l by omega] at this
    omega
theorem fset_b {w : Int → Int} {f n v : Int} (hw : ∀ k, 0 ≤ k → k < 256 → 0 ≤ w k ∧ w k < 256) (hv : 0 ≤ v ∧ v < 256) : ∀ k, 0 ≤ k → k < 256 → 0 ≤ fset w f n v k ∧ fset w f n v k < 256 := by
  intro k h0 h1
  unfold fset
  by_cases h : f ≤ k ∧ k < f + n
  · rw [if_pos h]; exact hv
  · rw [if_neg h]; exact hw k h0 h1
theorem fcpy_b {w : Int → Int} {s t n : Int} (hw : ∀ k, 0 ≤ k → k < 256 → 0 ≤ w k ∧ w k < 256) (hs : 0 ≤ s ∧ s + n ≤ 256) : ∀ k, 0 ≤ k → k < 256 → 0 ≤ fcpy w s t n k ∧ fcpy w s t n k < 256 := by
  intro k h0 h1
  unfold fcpy
  by_cases h : t ≤ k ∧ k < t + n
  · rw [if_pos h]; exact hw _ (by omega) (by omega)
  · rw [if_neg h]; exact hw k h0 h1
theorem fup_b {w : Int → Int} {i v : Int} (hw : ∀ k, 0 ≤ k → k < 256 → 0 ≤ w k ∧ w k < 256) (hv : 0 ≤ v ∧ v < 256) : ∀ k, 0 ≤ k → k < 256 → 0 ≤ fup w i v k ∧ fup w i v k < 256 := by
  intro k h0 h1
  unfold fup
  by_cases h : k = i
  · rw [if_pos h]; exact hv
  · rw [if_neg h]; exact hw k h0 h1
theorem St_put {L o : Nat} {B H Q : Int → Int} {x : Int} (h : St L o B H Q) : St L o B H (fup Q o x) := ⟨h.1, h.2.1, fun l h1 h2 => by rw [fup_n _ (show (l : Int) + 1 ≠ o by omega)]; exact h.2.2 l h1 h2⟩
theorem St_H {L o : Nat} {B H Q : Int → Int} {x : Int} (h : St L o B H Q) : St L o B (fup H o x) Q := ⟨h.1, h.2.1, fun l h1 h2 => by rw [fup_n _ (show (l : Int) + 1 ≠ o by omega)]; exact h.2.2 l h1 h2⟩
theorem St_up {L o : Nat} {B H Q : Int → Int} (h : St L o B H Q) (ho : o < L) : St L (o + 1) B H Q := ⟨ho, h.2.1, fun l h1 h2 => h.2.2 l (by omega) h2⟩
theorem St_down {L o q : Nat} {B H Q : Int → Int} (h : St L o B H Q) (ho : 1 ≤ o) (hq : Q o = (q : Int)) (hq4 : q < 4) (hc : hcode (H o) q = 2) (hH : 0 ≤ H o ∧ H o < 256) (hd : hdOk (H o)) : St L (o - 1) (fup B ((o : Int) - 1) (4 * B o + q)) H Q := by
  have h0 := h.1
  refine ⟨by omega, by rw [fup_n _ (by omega)]; exact h.2.1, fun l h1 h2 => ?_⟩
  by_cases e : l = o - 1
  · subst e
    rw [show ((o - 1 : Nat) : Int) = (o : Int) - 1 by omega, fup_s, show (o : Int) - 1 + 1 = o by omega, fup_n _ (show (o : Int) ≠ (o : Int) - 1 by omega), hq]
    exact ⟨rfl, by omega, by omega, hc, hH.1, hH.2, hd⟩
  · rw [fup_n _ (by omega), fup_n _ (by omega)]
    exact h.2.2 l (by omega) h2
set_option maxHeartbeats 4000000 in
theorem take_loop {X : qX} {M0 : qM} {r v : Int} {L o : Nat} {w0 : Int → Int} {D : Int → (Int → Int) → Int → qR} {B H Q w : Int → Int} (hL : L ≤ 4) (hr : 0 ≤ r ∧ r < 33) (h4 : M0 18 4 = r) (h5 : M0 18 5 = (L : Int)) (h : tkI L w0 D v o B H Q w) : QW X (4, cX4_take, 3, some .boolean, 0, 4) (qpg (tkP M0 r L w0 D v)) 0 87 [some (.ref 18), some (.int (zI v)), some (.int (zI 0))] [] (rdw M0 r w B H Q o 0) := by
  have hmu0 : mu Q L (L - o) ≤ 25 := by
    have := (mu_in (L - o) (by omega) (St_Q h.1 ⟨h.2.1, h.2.2.1⟩)).2
    have := h.1.1
    omega
  refine q_lp (α := Nat × Nat × (Int → Int) × (Int → Int) × (Int → Int) × (Int → Int)) (fun x => 26 - x.1) (fun x => tkI L w0 D v x.2.1 x.2.2.1 x.2.2.2.1 x.2.2.2.2.1 x.2.2.2.2.2 ∧ (x.1 : Int) + mu x.2.2.2.2.1 L (L - x.2.1) ≤ 25) (fun x => [some (.ref 18), some (.int (zI v)), some (.int (zI (x.1 : Int)))]) (fun x => rdw M0 r x.2.2.2.2.2 x.2.2.1 x.2.2.2.1 x.2.2.2.2.1 x.2.1 0) (0, o, B, H, Q, w) rfl rfl ⟨h, by dsimp only; omega⟩ (fun x hx ih => ?_)
  obtain ⟨step, o1, B1, H1, Q1, w1⟩ := x
  obtain ⟨⟨hS, hq0, hq1, hq2, hH0, hH1, hH2, hww, hD⟩, hmu⟩ := hx
  dsimp only at hS hq0 hq1 hq2 hH0 hH1 hH2 hww hD hmu ih ⊢
  have hw := hww.1
  have hw2 := hww.2
  have hoL := hS.1
  have hmu1 := (mu_in (L - o1) (by omega) (St_Q hS ⟨hq0, hq1⟩)).1
  have hBo := St_o hL hS
  have eo : (L : Int) - ((L - o1 : Nat) : Int) = o1 := by omega
  refine q_iload_n dX4_take_87 rfl ?_
  refine q_bipush dX4_take_88 rfl ?_
  refine q_icmp_ge (tgt := 187) dX4_take_90 rfl (by (first | (unfold zR; omega) | (unfold zLR; omega) | omega | (simp only [zR, qup] at *; omega) | (simp [zR, qup]; omega) | (simp [zR, qup]; done))) (by (first | (unfold zR; omega) | (unfold zLR; omega) | omega | (simp only [zR, qup] at *; omega) | (simp [zR, qup]; omega) | (simp [zR, qup]; done))) (fun h90 => absurd h90 (by omega)) (fun h90 => ?_)
  refine q_aload_n dX4_take_93 rfl ?_
  refine q_getr dX4_take_94 fl_4_23 rfl rfl ?_
  refine q_aload_n dX4_take_97 rfl ?_
  refine q_geti (j := 6) dX4_take_98 fl_4_37 rfl rfl rfl ?_
  rw [rdw_op]
  refine q_V1 dX4_take_101 ml_4_52 md_X5_get (c_rget (o := 21) (r := 24) (n := 5) rfl rfl (by omega) (by omega)) rfl rfl rfl (by first | decide | omega) (Nat.le_of_ble_eq_true rfl) (Nat.le_of_ble_eq_true rfl) (qk_e ?_)
  rw [rdw_24]
  refine q_iconst dX4_take_104 ?_
  refine q_icmp_ge (tgt := 117) dX4_take_105 rfl (by (first | (unfold zR; omega) | (unfold zLR; omega) | omega | (simp only [zR, qup] at *; omega) | (simp [zR, qup]; omega) | (simp [zR, qup]; done))) (by (first | (unfold zR; omega) | (unfold zLR; omega) | omega | (simp only [zR, qup] at *; omega) | (simp [zR, qup]; omega) | (simp [zR, qup]; done))) (fun h105 => ?_) (fun h105 => ?_)
  ·
    refine q_aload_n dX4_take_117 rfl ?_
    refine q_geti (j := 6) dX4_take_118 fl_4_37 rfl rfl rfl ?_
    rw [rdw_op]
    refine q_aload_n dX4_take_121 rfl ?_
    refine q_geti (j := 5) dX4_take_122 fl_4_34 rfl rfl rfl ?_
    rw [rdw_l, h5]
    refine q_icmp_lt (tgt := 135) dX4_take_125 rfl (by (first | (unfold zR; omega) | (unfold zLR; omega) | omega | (simp only [zR, qup] at *; omega) | (simp [zR, qup]; omega) | (simp [zR, qup]; done))) (by (first | (unfold zR; omega) | (unfold zLR; omega) | omega | (simp only [zR, qup] at *; omega) | (simp [zR, qup]; omega) | (simp [zR, qup]; done))) (fun h125 => ?_) (fun h125 => ?_)
    ·
      refine q_aload_n dX4_take_135 rfl ?_
      have hq4 : Q1 o1 = 4 := by omega
      have hup := hS.2.2 o1 (Nat.le_refl o1) (by omega)
      obtain ⟨q, hq⟩ := z_nat hup.2.1
      have hBu := St_B hL hS (L - (o1 + 1)) (by omega)
      rw [show (L : Int) - ((L - (o1 + 1) : Nat) : Int) = (o1 : Int) + 1 by omega, show ((L - (o1 + 1) : Nat) : Int) = (L : Int) - (o1 + 1) by omega] at hBu
      have hq3 : q < 4 := by omega
      refine q_V0 dX4_take_136 ml_4_66 md_X4_mayStand (c_mayStand (L := L) (n := o1) (q := q) hL (by omega) hr h4 (by rw [hup.1, hq]) rfl rfl hq hBu ⟨hup.2.2.2.2.1, hup.2.2.2.2.2.1⟩ hq3 hw) rfl rfl rfl (by first | decide | omega) (Nat.le_of_ble_eq_true rfl) (Nat.le_of_ble_eq_true rfl) (qk_e ?_)
      refine q_if_eq (tgt := 179) dX4_take_139 rfl (by have := zb_01 (¬ bad w1 o1 (4 * B1 ((o1 : Int) + 1) + q) (lastB (B1 ((o1 : Int) + 1)) (H1 ((o1 : Int) + 1)) q)); unfold zR; omega) (fun h139 => ?_) (fun h139 => ?_)
      ·
        refine q_iconst dX4_take_179 ?_
        refine q_zreturn (by first | exact Or.inl rfl | exact Or.inr rfl) dX4_take_180 ?_
        have hb : bad w1 o1 (4 * B1 ((o1 : Int) + 1) + q) (lastB (B1 ((o1 : Int) + 1)) (H1 ((o1 : Int) + 1)) q) := Classical.byContradiction fun ww => by rw [zb_t ww] at h139; omega
        exact ⟨0, rfl, w1, B1, H1, Q1, o1, 0, rfl, hww, Or.inl ⟨rfl, rfl, fun n src p hp hs => by rw [hD n src p hp hs, mic_up hq4 (by omega) hq hq3, qif_t hb, show p + 1 - 1 = p by omega]⟩⟩
      ·
        refine q_aload_n dX4_take_142 rfl ?_
        refine q_dup dX4_take_143 rfl ?_
        refine q_geti (j := 6) dX4_take_144 fl_4_37 rfl rfl rfl ?_
        rw [rdw_op]
        refine q_iconst dX4_take_147 ?_
        refine q_iadd dX4_take_148 ?_
        refine q_puti (j := 6) dX4_take_149 fl_4_37 rfl rfl rfl rfl rfl ?_
        rw [rdw_uo]
        have hnb : ¬ bad w1 o1 (4 * B1 ((o1 : Int) + 1) + q) (lastB (B1 ((o1 : Int) + 1)) (H1 ((o1 : Int) + 1)) q) := zb_1.mp (by have := zb_01 (¬ bad w1 o1 (4 * B1 ((o1 : Int) + 1) + q) (lastB (B1 ((o1 : Int) + 1)) (H1 ((o1 : Int) + 1)) q)); omega)
        refine q_aload_n dX4_take_152 rfl ?_
        refine q_getr dX4_take_153 fl_4_23 rfl rfl ?_
        refine q_aload_n dX4_take_156 rfl ?_
        refine q_geti (j := 6) dX4_take_157 fl_4_37 rfl rfl rfl ?_
        rw [rdw_op]
        refine q_aload_n dX4_take_160 rfl ?_
        refine q_getr dX4_take_161 fl_4_23 rfl rfl ?_
        refine q_aload_n dX4_take_164 rfl ?_
        refine q_geti (j := 6) dX4_take_165 fl_4_37 rfl rfl rfl ?_
        rw [rdw_op]
        refine q_V1 dX4_take_168 ml_4_52 md_X5_get (c_rget (o := 21) (r := 24) (n := 5) rfl rfl (by omega) (by omega)) rfl rfl rfl (by first | decide | omega) (Nat.le_of_ble_eq_true rfl) (Nat.le_of_ble_eq_true rfl) (qk_e ?_)
        rw [rdw_24, hq]
        refine q_iconst dX4_take_171 ?_
        refine q_iadd dX4_take_172 ?_
        refine q_V2 dX4_take_173 ml_4_40 md_X5_set (c_rset (o := 21) (r := 24) (n := 5) rfl rfl (by omega) (by omega)) rfl rfl rfl (by first | decide | omega) (Nat.le_of_ble_eq_true rfl) (Nat.le_of_ble_eq_true rfl) (qk_v ?_)
        rw [rdw_u24]
        refine q_goto (tgt := 181) dX4_take_176 rfl ?_
        refine q_iinc dX4_take_181 rfl (Nat.le_of_ble_eq_true rfl) rfl ?_
        refine q_goto (tgt := 87) dX4_take_184 rfl ?_
        have hS2 := St_put (x := (q : Int) + 1) (St_up hS (by omega))
        have em : mu (fup Q1 ((o1 : Int) + 1) ((q : Int) + 1)) L (L - (o1 + 1)) = mu Q1 L (L - (o1 + 1)) - 1 := by
          have := mu_put (Q := Q1) (L := L) (v := (q : Int) + 1) (L - (o1 + 1))
          rw [show (L : Int) - ((L - (o1 + 1) : Nat) : Int) = (o1 : Int) + 1 by omega, hq] at this
          omega
        have em2 : mu Q1 L (L - o1) = 1 + mu Q1 L (L - (o1 + 1)) := by
          rw [show L - o1 = (L - (o1 + 1)) + 1 by omega, mu, show (L : Int) - ((L - (o1 + 1) + 1 : Nat) : Int) = o1 by omega, hq4]
          omega
        have eo1 : ((o1 + 1 : Nat) : Int) = (o1 : Int) + 1 := by omega
        refine ih (step + 1, o1 + 1, B1, H1, fup Q1 ((o1 : Int) + 1) ((q : Int) + 1), w1) _ _ ⟨⟨by rw [← eo1]; exact hS2, by dsimp only; rw [eo1, fup_s]; omega, by dsimp only; rw [eo1, fup_s]; omega, fun e => by dsimp only at e; omega, by dsimp only; rw [eo1]; exact hup.2.2.2.2.1, by dsimp only; rw [eo1]; exact hup.2.2.2.2.2.1, fun _ => by dsimp only; rw [eo1]; exact hup.2.2.2.2.2.2, hww, fun n src p hp hs => by dsimp only; rw [hD n src p hp hs, mic_up hq4 (by omega) hq hq3, qif_f hnb]⟩, by dsimp only; rw [em]; omega⟩ (by dsimp only; omega) rfl ?_
        dsimp only
        rw [eo1]
    ·
      refine q_aload_n dX4_take_128 rfl ?_
      refine q_iconst dX4_take_129 ?_
      skip
      refine q_putz (j := 7) dX4_take_130 fl_4_44 rfl rfl rfl rfl (by (first | (unfold zR; omega) | (unfold zLR; omega) | omega | (simp only [zR, qup] at *; omega) | (simp [zR, qup]; omega) | (simp [zR, qup]; done))) rfl ?_
      rw [rdw_uw]
      refine q_iconst dX4_take_133 ?_
      refine q_zreturn (by first | exact Or.inl rfl | exact Or.inr rfl) dX4_take_134 ?_
      have hoe : o1 = L := by omega
      subst hoe
      exact ⟨1, rfl, w1, B1, H1, Q1, o1, 1, rfl, hww, Or.inr (Or.inr ⟨rfl, rfl, fun n src p hp hs => by rw [hD n src p hp hs, mic_whole (by omega)]⟩)⟩
  ·
    refine q_aload_n dX4_take_108 rfl ?_
    obtain ⟨q, hq⟩ := z_nat hq0
    have ho1 : 1 ≤ o1 := by
      by_cases e : o1 = 0
      · have := hq2 e; omega
      · omega
    have hq3 : q < 4 := by omega
    have hhd := hH2 (by omega)
    refine q_V0 dX4_take_109 ml_4_62 md_X4_opensQuarter (c_opensQuarter (L := L) (n := o1) (q := q) hL ⟨ho1, hoL⟩ hr h4 rfl rfl hq hBo ⟨hH0, hH1⟩ hq3 hhd) rfl rfl rfl (by first | decide | omega) (Nat.le_of_ble_eq_true rfl) (Nat.le_of_ble_eq_true rfl) (qk_g (fun z109 N109 hq109 => ?_))
    have hz : z109 = 0 ∨ z109 = 1 := by rcases hq109 with h | h | h <;> omega
    refine q_if_eq (tgt := 181) dX4_take_112 rfl (by (first | (unfold zR; omega) | (unfold zLR; omega) | omega | (simp only [zR, qup] at *; omega) | (simp [zR, qup]; omega) | (simp [zR, qup]; done))) (fun h112 => ?_) (fun h112 => ?_)
    ·
      refine q_iinc dX4_take_181 rfl (Nat.le_of_ble_eq_true rfl) rfl ?_
      refine q_goto (tgt := 87) dX4_take_184 rfl ?_
      have hpl := p4_in ((o1 : Int) - 1)
      have hkd := fun (q : Nat) (hq : q < 4) => p4_kid (l := o1 - 1) (L := L) (x := B1 o1) (by omega) hL (by rw [show ((o1 - 1 : Nat) : Int) + 1 = o1 by omega]; exact hBo) hq
      have em := mu_put (Q := Q1) (L := L) (v := (q : Int) + 1) (L - o1)
      rw [eo, hq] at em
      have hcc := hcode_in (H1 o1) q
      have hrq := blk_room hL (show o1 - 1 ≤ L by omega) (hkd q hq3)
      rw [show ((o1 - 1 : Nat) : Int) = (o1 : Int) - 1 by omega] at hrq
      have hpL := p4_le (a := (L : Int)) (b := 4) (by omega)
      rw [show p4 4 = 256 by decide] at hpL
      rcases hq109 with ⟨hc, e1, e2⟩ | ⟨hc, e1, e2⟩ | ⟨hc, e1, e2⟩
      · omega
      · exact ih (step + 1, o1, B1, H1, fup Q1 o1 ((q : Int) + 1), fset w1 (p4 ((o1 : Int) - 1) * (4 * B1 o1 + q)) (p4 ((o1 : Int) - 1)) (255 * hcode (H1 o1) q)) _ _ ⟨⟨St_put hS, by dsimp only; rw [fup_s]; omega, by dsimp only; rw [fup_s]; omega, fun e => by dsimp only at e; omega, hH0, hH1, hH2, ⟨fset_b hw (by omega), fun k hk => by rw [← hw2 k hk]; exact if_neg (by omega)⟩, fun n src p hp hs => by dsimp only; rw [hD n src p hp hs, mic_low ⟨ho1, hoL⟩ hq hq3 hc]⟩, by dsimp only; omega⟩ (by dsimp only; omega) rfl e2
      · have hlt := lastT_in (H1 o1) q
        have hl3 := hhd q hq3 hc
        have hk2 := hkd (lastT (H1 o1) q).toNat (by omega)
        rw [show (((lastT (H1 o1) q).toNat : Nat) : Int) = lastT (H1 o1) q by omega] at hk2
        have hrm := blk_room hL (show o1 - 1 ≤ L by omega) hk2
        rw [show ((o1 - 1 : Nat) : Int) = (o1 : Int) - 1 by omega] at hrm
        exact ih (step + 1, o1, B1, H1, fup Q1 o1 ((q : Int) + 1), fcpy w1 (p4 ((o1 : Int) - 1) * (4 * B1 o1 + lastT (H1 o1) q)) (p4 ((o1 : Int) - 1) * (4 * B1 o1 + q)) (p4 ((o1 : Int) - 1))) _ _ ⟨⟨St_put hS, by dsimp only; rw [fup_s]; omega, by dsimp only; rw [fup_s]; omega, fun e => by dsimp only at e; omega, hH0, hH1, hH2, ⟨fcpy_b hw (by omega), fun k hk => by rw [← hw2 k hk]; exact if_neg (by omega)⟩, fun n src p hp hs => by dsimp only; rw [hD n src p hp hs, mic_same ⟨ho1, hoL⟩ hq hq3 hc]⟩, by dsimp only; omega⟩ (by dsimp only; omega) rfl e2
    ·
      refine q_iconst dX4_take_115 ?_
      refine q_zreturn (by first | exact Or.inl rfl | exact Or.inr rfl) dX4_take_116 ?_
      rcases hq109 with ⟨hc, e1, e2⟩ | ⟨hc, e1, e2⟩ | ⟨hc, e1, e2⟩
      · refine ⟨1, rfl, w1, fup B1 ((o1 : Int) - 1) (4 * B1 o1 + q), H1, Q1, o1 - 1, 0, ?_, hww, Or.inr (Or.inl ⟨rfl, rfl, St_down hS ho1 hq hq3 hc ⟨hH0, hH1⟩ hhd, fun n src p hp hs => by rw [hD n src p hp hs, mic_down ⟨ho1, hoL⟩ hq hq3 hc]⟩)⟩
        rw [e2, show ((o1 - 1 : Nat) : Int) = (o1 : Int) - 1 by omega]
      · exact absurd e1 h112
      · exact absurd e1 h112
theorem due_0 {n : Int} {src : Int → Int} {L : Nat} {B H Q w : Int → Int} {p v : Int} (hp : p < n) (hs : src p = v) : due n src L 0 B H Q p w = mic n src L 0 B (fup H ((0 : Nat) : Int) v) (fup Q ((0 : Nat) : Int) 4) (p + 1) (fup w (B ((0 : Nat) : Int)) v) := by
  unfold due mic
  rw [fup_s, if_pos rfl]
  show (if p = n then rwr n else _) = _
  rw [if_neg (by omega), hs]
  rw [ktk_c (L - 0) (fun l hl => ⟨rfl, fup_n _ (by omega), fup_n _ (by omega)⟩)]
theorem due_s {n : Int} {src : Int → Int} {L o : Nat} {B H Q w : Int → Int} {p v : Int} (hoL : o + 1 ≤ L) (hp : p < n) (hs : src p = v) : due n src L (o + 1) B H Q p w = qif (hdOk v) (mic n src L (o + 1) B (fup H ((o + 1 : Nat) : Int) v) (fup Q ((o + 1 : Nat) : Int) 0) (p + 1) w) (rwr p) := by
  unfold due mic
  rw [fup_s, fup_s, if_neg (by omega)]
  show (if p = n then rwr n else _) = _
  rw [if_neg (by omega), hs]
  rw [ktk_c (B' := B) (H' := fup H ((o + 1 : Nat) : Int) v) (Q' := fup Q ((o + 1 : Nat) : Int) 0) (B := B) (H := H) (Q := Q) (L - (o + 1)) (fun l hl => ⟨rfl, fup_n _ (by omega), fup_n _ (by omega)⟩)]
  rfl
set_option maxHeartbeats 4000000 in
theorem c_take {M0 : qM} {r v : Int} {L o : Nat} {B H Q w : Int → Int} (hL : L ≤ 4) (hr : 0 ≤ r ∧ r < 33) (hm4 : M0 18 4 = r) (hm5 : M0 18 5 = (L : Int)) (hv : 0 ≤ v ∧ v < 256) (hS : St L o B H Q) (hw : ∀ k, 0 ≤ k → k < 256 → 0 ≤ w k ∧ w k < 256) :
    qCt mX4_take 0 4 [.ref 18, .int (zI v)] (rdw M0 r w B H Q o 0) (qpg (tkP M0 r L w (fun n src p => due n src L o B H Q p w) v)) := by
  have hoL := hS.1
  have hBo := St_o hL hS
  refine q_intro (own := 4) (L := [some (.ref 18), some (.int (zI v)), none]) md_X4_take rfl rfl rfl (Nat.le_of_ble_eq_true rfl) (fun X => ?_)
  refine q_aload_n dX4_take_0 rfl ?_
  refine q_geti (j := 7) dX4_take_1 fl_4_44 rfl rfl rfl ?_
  rw [rdw_wh]
  refine q_if_ne (tgt := 21) dX4_take_4 rfl (by (first | (unfold zR; omega) | (unfold zLR; omega) | omega | (simp only [zR, qup] at *; omega) | (simp [zR, qup]; omega) | (simp [zR, qup]; done))) (fun h4 => absurd h4 (by omega)) (fun h4 => ?_)
  refine q_aload_n dX4_take_7 rfl ?_
  refine q_geti (j := 6) dX4_take_8 fl_4_37 rfl rfl rfl ?_
  rw [rdw_op]
  refine q_if_le (tgt := 23) dX4_take_11 rfl (by (first | (unfold zR; omega) | (unfold zLR; omega) | omega | (simp only [zR, qup] at *; omega) | (simp [zR, qup]; omega) | (simp [zR, qup]; done))) (fun h11 => ?_) (fun h11 => ?_)
  ·
    have ho0 : o = 0 := by omega
    subst ho0
    have hb0 : 0 ≤ B ((0 : Nat) : Int) ∧ B ((0 : Nat) : Int) < 256 := by
      have := p4_le (a := (L : Int) - ((0 : Nat) : Int)) (b := 4) (by omega)
      rw [show p4 4 = 256 by decide] at this
      omega
    refine q_aload_n dX4_take_23 rfl ?_
    refine q_geti (j := 6) dX4_take_24 fl_4_37 rfl rfl rfl ?_
    rw [rdw_op]
    refine q_if_ne (tgt := 50) dX4_take_27 rfl (by (first | (unfold zR; omega) | (unfold zLR; omega) | omega | (simp only [zR, qup] at *; omega) | (simp [zR, qup]; omega) | (simp [zR, qup]; done))) (fun h27 => absurd h27 (by omega)) (fun h27 => ?_)
    refine q_aload_n dX4_take_30 rfl ?_
    refine q_getr dX4_take_31 fl_4_26 rfl rfl ?_
    refine q_aload_n dX4_take_34 rfl ?_
    refine q_geti (j := 4) dX4_take_35 fl_4_30 rfl rfl rfl ?_
    rw [rdw_r, hm4]
    refine q_aload_n dX4_take_38 rfl ?_
    refine q_getr dX4_take_39 fl_4_14 rfl rfl ?_
    refine q_iconst dX4_take_42 ?_
    refine q_V1 dX4_take_43 ml_4_52 md_X5_get (c_rget (o := 19) (r := 22) (n := 5) rfl rfl (by omega) (by omega)) rfl rfl rfl (by first | decide | omega) (Nat.le_of_ble_eq_true rfl) (Nat.le_of_ble_eq_true rfl) (qk_e ?_)
    rw [rdw_22]
    refine q_iload_n dX4_take_46 rfl ?_
    refine q_V3 dX4_take_47 ml_4_56 md_X0_put (c_put hr hb0) rfl rfl rfl (by first | decide | omega) (Nat.le_of_ble_eq_true rfl) (Nat.le_of_ble_eq_true rfl) (qk_v ?_)
    rw [show B 0 = B ((0 : Nat) : Int) from rfl, rdw_put hb0]
    refine q_aload_n dX4_take_50 rfl ?_
    refine q_getr dX4_take_51 fl_4_20 rfl rfl ?_
    refine q_aload_n dX4_take_54 rfl ?_
    refine q_geti (j := 6) dX4_take_55 fl_4_37 rfl rfl rfl ?_
    rw [rdw_op]
    refine q_iload_n dX4_take_58 rfl ?_
    refine q_V2 dX4_take_59 ml_4_40 md_X5_set (c_rset (o := 20) (r := 23) (n := 5) rfl rfl (by omega) (by omega)) rfl rfl rfl (by first | decide | omega) (Nat.le_of_ble_eq_true rfl) (Nat.le_of_ble_eq_true rfl) (qk_v ?_)
    rw [rdw_u23]
    refine q_aload_n dX4_take_62 rfl ?_
    refine q_getr dX4_take_63 fl_4_23 rfl rfl ?_
    refine q_aload_n dX4_take_66 rfl ?_
    refine q_geti (j := 6) dX4_take_67 fl_4_37 rfl rfl rfl ?_
    rw [rdw_op]
    refine q_aload_n dX4_take_70 rfl ?_
    refine q_geti (j := 6) dX4_take_71 fl_4_37 rfl rfl rfl ?_
    rw [rdw_op]
    refine q_if_ne (tgt := 81) dX4_take_74 rfl (by (first | (unfold zR; omega) | (unfold zLR; omega) | omega | (simp only [zR, qup] at *; omega) | (simp [zR, qup]; omega) | (simp [zR, qup]; done))) (fun h74 => absurd h74 (by omega)) (fun h74 => ?_)
    refine q_iconst dX4_take_77 ?_
    refine q_goto (tgt := 82) dX4_take_78 rfl ?_
    refine q_V2 dX4_take_82 ml_4_40 md_X5_set (c_rset (o := 21) (r := 24) (n := 5) rfl rfl (by omega) (by omega)) rfl rfl rfl (by first | decide | omega) (Nat.le_of_ble_eq_true rfl) (Nat.le_of_ble_eq_true rfl) (qk_v ?_)
    rw [rdw_u24]
    refine q_iconst dX4_take_85 ?_
    refine q_istore_n dX4_take_86 (Nat.le_of_ble_eq_true rfl) rfl ?_
    exact take_loop hL hr hm4 hm5 ⟨St_put (St_H hS), by rw [fup_s]; omega, by rw [fup_s]; omega, fun _ => fup_s _ _ _, by rw [fup_s]; omega, by rw [fup_s]; omega, fun e => absurd rfl e, ⟨fup_b hw hv, fun k hk => fup_n _ (by rw [show (L : Int) - ((0 : Nat) : Int) = L by omega] at hBo; omega)⟩, fun n src p hp hs => due_0 hp hs⟩
  refine q_iload_n dX4_take_14 rfl ?_
  refine q_S1 dX4_take_15 ml_4_48 md_X4_isHead (c_isHead hv) rfl (by first | decide | omega) (Nat.le_of_ble_eq_true rfl) (Nat.le_of_ble_eq_true rfl) (qk_e ?_)
  refine q_if_ne (tgt := 23) dX4_take_18 rfl (by have := zb_01 (hdOk v); unfold zR; omega) (fun h18 => ?_) (fun h18 => ?_)
  rotate_left
  ·
    refine q_iconst dX4_take_21 ?_
    refine q_zreturn (by first | exact Or.inl rfl | exact Or.inr rfl) dX4_take_22 ?_
    have hh : ¬ hdOk v := zb_0.mp h18
    obtain ⟨k, rfl⟩ : ∃ k : Nat, o = k + 1 := ⟨o - 1, by omega⟩
    exact ⟨0, rfl, w, B, H, Q, k + 1, 0, rfl, ⟨hw, fun _ _ => rfl⟩, Or.inl ⟨rfl, rfl, fun n src p hp hs => by show due n src L (k + 1) B H Q p w = _; rw [due_s hoL hp hs, qif_f hh]⟩⟩
  have hh : hdOk v := zb_1.mp (by have := zb_01 (hdOk v); omega)
  obtain ⟨k, rfl⟩ : ∃ k : Nat, o = k + 1 := ⟨o - 1, by omega⟩
  refine q_aload_n dX4_take_23 rfl ?_
  refine q_geti (j := 6) dX4_take_24 fl_4_37 rfl rfl rfl ?_
  rw [rdw_op]
  refine q_if_ne (tgt := 50) dX4_take_27 rfl (by (first | (unfold zR; omega) | (unfold zLR; omega) | omega | (simp only [zR, qup] at *; omega) | (simp [zR, qup]; omega) | (simp [zR, qup]; done))) (fun h27 => ?_) (fun h27 => absurd h27 (by omega))
  refine q_aload_n dX4_take_50 rfl ?_
  refine q_getr dX4_take_51 fl_4_20 rfl rfl ?_
  refine q_aload_n dX4_take_54 rfl ?_
  refine q_geti (j := 6) dX4_take_55 fl_4_37 rfl rfl rfl ?_
  rw [rdw_op]
  refine q_iload_n dX4_take_58 rfl ?_
  refine q_V2 dX4_take_59 ml_4_40 md_X5_set (c_rset (o := 20) (r := 23) (n := 5) rfl rfl (by omega) (by omega)) rfl rfl rfl (by first | decide | omega) (Nat.le_of_ble_eq_true rfl) (Nat.le_of_ble_eq_true rfl) (qk_v ?_)
  rw [rdw_u23]
  refine q_aload_n dX4_take_62 rfl ?_
  refine q_getr dX4_take_63 fl_4_23 rfl rfl ?_
  refine q_aload_n dX4_take_66 rfl ?_
  refine q_geti (j := 6) dX4_take_67 fl_4_37 rfl rfl rfl ?_
  rw [rdw_op]
  refine q_aload_n dX4_take_70 rfl ?_
  refine q_geti (j := 6) dX4_take_71 fl_4_37 rfl rfl rfl ?_
  rw [rdw_op]
  refine q_if_ne (tgt := 81) dX4_take_74 rfl (by (first | (unfold zR; omega) | (unfold zLR; omega) | omega | (simp only [zR, qup] at *; omega) | (simp [zR, qup]; omega) | (simp [zR, qup]; done))) (fun h74 => ?_) (fun h74 => absurd h74 (by omega))
  refine q_iconst dX4_take_81 ?_
  refine q_V2 dX4_take_82 ml_4_40 md_X5_set (c_rset (o := 21) (r := 24) (n := 5) rfl rfl (by omega) (by omega)) rfl rfl rfl (by first | decide | omega) (Nat.le_of_ble_eq_true rfl) (Nat.le_of_ble_eq_true rfl) (qk_v ?_)
  rw [rdw_u24]
  refine q_iconst dX4_take_85 ?_
  refine q_istore_n dX4_take_86 (Nat.le_of_ble_eq_true rfl) rfl ?_
  exact take_loop hL hr hm4 hm5 ⟨St_put (St_H hS), by rw [fup_s]; omega, by rw [fup_s]; omega, fun e => by omega, by rw [fup_s]; omega, by rw [fup_s]; omega, fun _ => by rw [fup_s]; exact hh, ⟨hw, fun _ _ => rfl⟩, fun n src p hp hs => by show due n src L (k + 1) B H Q p w = _; rw [due_s hoL hp hs, qif_t hh]⟩
set_option maxHeartbeats 1000000 in
theorem c_take_w {M : qM} {v : Int} (h : M 18 7 = 1) : qCt mX4_take 0 4 [.ref 18, .int (zI v)] M (qpe 0 M) := by
  refine q_intro (own := 4) (L := [some (.ref 18), some (.int (zI v)), none]) md_X4_take rfl rfl rfl (Nat.le_of_ble_eq_true rfl) (fun X => ?_)
  refine q_aload_n dX4_take_0 rfl ?_
  refine q_geti (j := 7) dX4_take_1 fl_4_44 rfl rfl rfl ?_
  rw [h]
  refine q_if_ne (tgt := 21) dX4_take_4 rfl (by (first | (unfold zR; omega) | (unfold zLR; omega) | omega | (simp only [zR, qup] at *; omega) | (simp [zR, qup]; omega) | (simp [zR, qup]; done))) (fun h4 => ?_) (fun h4 => absurd h4 (by omega))
  refine q_iconst dX4_take_21 ?_
  refine q_zreturn (by first | exact Or.inl rfl | exact Or.inr rfl) dX4_take_22 ?_
  exact ⟨rfl, rfl⟩
theorem rdw_id (M : qM) (r : Int) : M = rdw M r (fun i => M 4 (r * 256 + i)) (M 22) (M 23) (M 24) (M 18 6) (M 18 7) := by
  funext ob k
  simp only [rdw]
  by_cases h : ob = 22
  · rw [if_pos h, h]
  · rw [if_neg h]
    by_cases h : ob = 23
    · rw [if_pos h, h]
    · rw [if_neg h]
      by_cases h : ob = 24
      · rw [if_pos h, h]
      · rw [if_neg h]
        by_cases h : ob = 18 ∧ k = 6
        · rw [if_pos h, h.1, h.2]
        · rw [if_neg h]
          by_cases h : ob = 18 ∧ k = 7
          · rw [if_pos h, h.1, h.2]
          · rw [if_neg h]
            exact congrFun (congrFun (qrow_id M (fun _ _ _ => rfl)) ob) k
set_option maxHeartbeats 1000000 in
theorem c_begin {M : qM} {r : Int} {L : Nat} (hL : L ≤ 4) : qCt mX4_begin 0 1 [.ref 18, .int (zI r), .int (zI (L : Int))] M (qpv (rdw (qup (qup M 18 4 r) 18 5 (L : Int)) r (fun i => M 4 (r * 256 + i)) (fup (M 22) (L : Int) 0) (M 23) (M 24) (L : Int) 0)) := by
  have e : qup (qup M 18 4 r) 18 5 (L : Int) = rdw (qup (qup M 18 4 r) 18 5 (L : Int)) r (fun i => M 4 (r * 256 + i)) (M 22) (M 23) (M 24) (M 18 6) (M 18 7) := by
    have := rdw_id (qup (qup M 18 4 r) 18 5 (L : Int)) r
    rw [show (fun i => qup (qup M 18 4 r) 18 5 (L : Int) 4 (r * 256 + i)) = fun i => M 4 (r * 256 + i) from by funext i; simp [qup], show qup (qup M 18 4 r) 18 5 (L : Int) 22 = M 22 from by funext i; simp [qup], show qup (qup M 18 4 r) 18 5 (L : Int) 23 = M 23 from by funext i; simp [qup], show qup (qup M 18 4 r) 18 5 (L : Int) 24 = M 24 from by funext i; simp [qup], show qup (qup M 18 4 r) 18 5 (L : Int) 18 6 = M 18 6 from by simp [qup], show qup (qup M 18 4 r) 18 5 (L : Int) 18 7 = M 18 7 from by simp [qup]] at this
    exact this
  refine q_intro (own := 4) (L := [some (.ref 18), some (.int (zI r)), some (.int (zI (L : Int)))]) md_X4_begin rfl rfl rfl (Nat.le_of_ble_eq_true rfl) (fun X => ?_)
  refine q_aload_n dX4_begin_0 rfl ?_
  refine q_iload_n dX4_begin_1 rfl ?_
  refine q_puti (j := 4) dX4_begin_2 fl_4_30 rfl rfl rfl rfl rfl ?_
  refine q_aload_n dX4_begin_5 rfl ?_
  refine q_iload_n dX4_begin_6 rfl ?_
  refine q_puti (j := 5) dX4_begin_7 fl_4_34 rfl rfl rfl rfl rfl ?_
  refine q_mem e ?_
  refine q_aload_n dX4_begin_10 rfl ?_
  refine q_iload_n dX4_begin_11 rfl ?_
  refine q_puti (j := 6) dX4_begin_12 fl_4_37 rfl rfl rfl rfl rfl ?_
  rw [rdw_uo]
  refine q_aload_n dX4_begin_15 rfl ?_
  refine q_getr dX4_begin_16 fl_4_14 rfl rfl ?_
  refine q_aload_n dX4_begin_19 rfl ?_
  refine q_geti (j := 6) dX4_begin_20 fl_4_37 rfl rfl rfl ?_
  rw [rdw_op]
  refine q_iconst dX4_begin_23 ?_
  refine q_V2 dX4_begin_24 ml_4_40 md_X5_set (c_rset (o := 19) (r := 22) (n := 5) rfl rfl (by omega) (by omega)) rfl rfl rfl (by first | decide | omega) (Nat.le_of_ble_eq_true rfl) (Nat.le_of_ble_eq_true rfl) (qk_v ?_)
  rw [rdw_u22]
  refine q_aload_n dX4_begin_27 rfl ?_
  refine q_iconst dX4_begin_28 ?_
  refine q_putz (j := 7) dX4_begin_29 fl_4_44 rfl rfl rfl rfl (by (first | (unfold zR; omega) | (unfold zLR; omega) | omega | (simp only [zR, qup] at *; omega) | (simp [zR, qup]; omega) | (simp [zR, qup]; done))) rfl ?_
  rw [rdw_uw]
  refine q_return dX4_begin_32 ?_
  exact ⟨rfl, rfl⟩
set_option maxHeartbeats 1000000 in
theorem c_isWhole {M : qM} (h : M 18 7 = 0 ∨ M 18 7 = 1) : qCt mX4_isWhole 0 0 [.ref 18] M (qpe (M 18 7) M) := by
  refine q_intro (own := 4) (L := [some (.ref 18)]) md_X4_isWhole rfl rfl rfl (Nat.le_of_ble_eq_true rfl) (fun X => ?_)
  refine q_aload_n dX4_isWhole_0 rfl ?_
  refine q_geti (j := 7) dX4_isWhole_1 fl_4_44 rfl rfl rfl ?_
  refine q_zreturn (by exact h) dX4_isWhole_4 ?_
  exact ⟨rfl, rfl⟩


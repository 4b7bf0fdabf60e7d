/-! The model: reading a tree: overlays; its small methods; restore. -/
/-- w with g over n cells from lo on -/
def fov (lo n : Int) (g w : Int → Int) : Int → Int := fun i => if lo ≤ i ∧ i < lo + n then g i else w i
theorem fov_0 {lo : Int} {g w : Int → Int} : fov lo 0 g w = w := by
  funext i
  unfold fov
  rw [if_neg (by omega)]
theorem fov_at {lo n i : Int} {g w : Int → Int} (h : lo ≤ i ∧ i < lo + n) : fov lo n g w i = g i := if_pos h
theorem fov_ext {lo m s : Int} {g h w : Int → Int} (hm : 0 ≤ m) (hs : 0 ≤ s) : fov (lo + m) s h (fov lo m g w) = fov lo (m + s) (fov (lo + m) s h g) w := by
  funext i
  unfold fov
  by_cases a : lo + m ≤ i ∧ i < lo + m + s
  · rw [if_pos a, if_pos (by omega), if_pos a]
  · rw [if_neg a]
    by_cases b : lo ≤ i ∧ i < lo + m
    · rw [if_pos b, if_pos (by omega), if_neg a]
    · rw [if_neg b, if_neg (by omega)]
theorem fov_c {lo n : Int} {g h w : Int → Int} (e : ∀ i, lo ≤ i → i < lo + n → g i = h i) : fov lo n g w = fov lo n h w := by
  funext i
  unfold fov
  by_cases a : lo ≤ i ∧ i < lo + n
  · rw [if_pos a, if_pos a, e i a.1 a.2]
  · rw [if_neg a, if_neg a]
theorem fset_fov (w : Int → Int) (f n v : Int) : fset w f n v = fov f n (fun _ => v) w := rfl
theorem fcpy_fov (w : Int → Int) (s t n : Int) : fcpy w s t n = fov t n (fun k => w (s + (k - t))) w := rfl
/-- the world while a tree is read: the row, the place, the wrong byte -/
def rdM (M : qM) (G : Int → Int) (p e : Int) : qM := qup (qup (rowF M G) 37 18 p) 37 19 e
section MH
variable {M N : qM} {L l : Nat} {c T K F S G : Int → Int} {k o x y a b v p q f t n g i e s : Int}
theorem rdM_42 : rdM M G p e 42 = G := by
  funext j
  unfold rdM
  rw [qup_o _ _ _ _ (by decide), qup_o _ _ _ _ (by decide)]
  rfl
theorem rdM_18 : rdM M G p e 37 18 = p := by
  unfold rdM
  rw [qup_k _ _ _ (by decide), qup_s]
theorem rdM_19 : rdM M G p e 37 19 = e := qup_s _ _ _ _
theorem rdM_37 (h : k ≠ 18) (h' : k ≠ 19) : rdM M G p e 37 k = M 37 k := by
  unfold rdM
  rw [qup_k _ _ _ h', qup_k _ _ _ h, rowF_o _ _ (by decide)]
theorem rdM_o {u : Nat} (h : u ≠ 37) (h' : u ≠ 42) : rdM M G p e u = M u := by
  funext j
  unfold rdM
  rw [qup_o _ _ _ _ h, qup_o _ _ _ _ h, rowF_o _ _ h']
theorem rdM_ext {W : qM} {G' : Int → Int} {p' e' : Int} (h42 : W 42 = G') (h18 : W 37 18 = p') (h19 : W 37 19 = e') (h37 : ∀ k, k ≠ 18 → k ≠ 19 → W 37 k = M 37 k) (ho : ∀ u, u ≠ 37 → u ≠ 42 → W u = M u) : W = rdM M G' p' e' := by
  funext u j
  by_cases g : u = 37
  · subst g
    by_cases g1 : j = 19
    · subst g1; rw [rdM_19]; exact h19
    · by_cases g2 : j = 18
      · subst g2; rw [rdM_18]; exact h18
      · rw [rdM_37 g2 g1]; exact h37 j g2 g1
  · by_cases g2 : u = 42
    · subst g2; rw [rdM_42, h42]
    · rw [rdM_o g g2, ho u g g2]
theorem rdM_u18 : qup (rdM M G p e) 37 18 v = rdM M G v e := rdM_ext (by funext j; rw [qup_o _ _ _ _ (by decide), rdM_42]) (qup_s _ _ _ _) (by rw [qup_k _ _ _ (by decide), rdM_19]) (fun k a _ => by rw [qup_k _ _ _ a, rdM_37 a (by assumption)]) (fun u a b => by funext j; rw [qup_o _ _ _ _ a, rdM_o a b])
theorem rdM_u19 : qup (rdM M G p e) 37 19 v = rdM M G p v := rdM_ext (by funext j; rw [qup_o _ _ _ _ (by decide), rdM_42]) (by rw [qup_k _ _ _ (by decide), rdM_18]) (qup_s _ _ _ _) (fun k _ a => by rw [qup_k _ _ _ a, rdM_37 (by assumption) a]) (fun u a b => by funext j; rw [qup_o _ _ _ _ a, rdM_o a b])
theorem rdM_row {G' : Int → Int} : rowF (rdM M G p e) G' = rdM M G' p e := rdM_ext rfl (by rw [rowF_o _ _ (by decide), rdM_18]) (by rw [rowF_o _ _ (by decide), rdM_19]) (fun k a b => by rw [rowF_o _ _ (by decide), rdM_37 a b]) (fun u a b => by rw [rowF_o _ _ b, rdM_o a b])
theorem rdM_u42 : qup (rdM M G p e) 42 i v = rdM M (fup G i v) p e := rdM_ext (by
    funext j
    by_cases g : j = i
    · subst g; rw [qup_s, fup_s]
    · rw [qup_k _ _ _ g, fup_n _ g, rdM_42]) (by rw [qup_o _ _ _ _ (by decide), rdM_18]) (by rw [qup_o _ _ _ _ (by decide), rdM_19]) (fun k a b => by rw [qup_o _ _ _ _ (by decide), rdM_37 a b]) (fun u a b => by funext j; rw [qup_o _ _ _ _ b, rdM_o a b])
theorem rdM_id (M : qM) : M = rdM M (M 42) (M 37 18) (M 37 19) := rdM_ext rfl rfl rfl (fun _ _ _ => rfl) (fun _ _ _ => rfl)
theorem rdM_MS : MS M (rdM M G p e) := ⟨fun u a b _ _ _ _ _ _ _ => rdM_o a b, fun k hk => rdM_37 (by omega) (by omega)⟩
set_option maxHeartbeats 1000000 in
theorem m_isWrongAt (he : zR e) : qCt mX8_isWrongAt 0 0 [.ref 37, .int (zI v)] (rdM M G p e) (qpv (rdM M G p (if e = -1 then v else e))) := by
  refine q_intro (own := 8) (L := [some (.ref 37), some (.int (zI v))]) md_X8_isWrongAt rfl rfl rfl (Nat.le_of_ble_eq_true rfl) (fun X => ?_)
  refine q_aload_n dX8_isWrongAt_0 rfl ?_
  refine q_geti (j := 19) dX8_isWrongAt_1 fl_8_124 rfl rfl rfl ?_
  rw [rdM_19]
  refine q_iconst dX8_isWrongAt_4 ?_
  refine q_icmp_ne (tgt := 13) dX8_isWrongAt_5 rfl (by (first | (unfold zR; omega) | (unfold zLR; omega) | omega | (simp only [zR, qup] at *; omega) | (simp [zR, qup]; omega) | (simp [zR, qup]; done))) (by (first | (unfold zR; omega) | (unfold zLR; omega) | omega | (simp only [zR, qup] at *; omega) | (simp [zR, qup]; omega) | (simp [zR, qup]; done))) (fun h5 => ?_) (fun h5 => ?_)
  ·
    refine q_return dX8_isWrongAt_13 ?_
    exact ⟨rfl, by rw [if_neg h5]⟩
  ·
    refine q_aload_n dX8_isWrongAt_8 rfl ?_
    refine q_iload_n dX8_isWrongAt_9 rfl ?_
    refine q_puti (j := 19) dX8_isWrongAt_10 fl_8_124 rfl rfl rfl rfl rfl ?_
    refine q_return dX8_isWrongAt_13 ?_
    exact ⟨rfl, by rw [rdM_u19, if_pos h5]⟩
set_option maxHeartbeats 1500000 in
theorem m_makesAll (hL : L ≤ 4) (hx : 0 ≤ x ∧ x ≤ L) (ha : 0 ≤ a ∧ a < p4 ((L : Int) - x)) : qCt mX8_makesAll 0 1 [.ref 37, .int (zI x), .int (zI a), .int (zI v)] M (qpv (rowF M (fset (M 42) (p4 x * a) (p4 x) v))) := by
  have hpL := p4_in (L : Int)
  have hpx := p4_in x
  have hia := blk_in hL hx ha
  refine q_intro (own := 8) (L := [some (.ref 37), some (.int (zI x)), some (.int (zI a)), some (.int (zI v)), none]) md_X8_makesAll rfl rfl rfl (Nat.le_of_ble_eq_true rfl) (fun X => ?_)
  refine q_iconst dX8_makesAll_0 ?_
  refine q_istore dX8_makesAll_1 (Nat.le_of_ble_eq_true rfl) rfl ?_
  refine q_lp (fun j : Int => (p4 x - j).toNat) (fun j => 0 ≤ j ∧ j ≤ p4 x) (fun j => [some (.ref 37), some (.int (zI x)), some (.int (zI a)), some (.int (zI v)), some (.int (zI j))]) (fun j => rowF M (fset (M 42) (p4 x * a) j v)) 0 rfl (by rw [fset_fov, fov_0, rowF_id]) ⟨by omega, by omega⟩ (fun j hj ih => ?_)
  refine q_iload dX8_makesAll_3 rfl ?_
  refine q_iload_n dX8_makesAll_5 rfl ?_
  refine q_S1 dX8_makesAll_6 ml_8_94 md_X8_span (m_span (by omega)) rfl (by first | decide | omega) (Nat.le_of_ble_eq_true rfl) (Nat.le_of_ble_eq_true rfl) (qk_e ?_)
  refine q_icmp_ge (tgt := 33) dX8_makesAll_9 rfl (by (first | (unfold zR; omega) | (unfold zLR; omega) | omega | (simp only [zR, qup] at *; omega) | (simp [zR, qup]; omega) | (simp [zR, qup]; done))) (by (first | (unfold zR; omega) | (unfold zLR; omega) | omega | (simp only [zR, qup] at *; omega) | (simp [zR, qup]; omega) | (simp [zR, qup]; done))) (fun h9 => ?_) (fun h9 => ?_)
  rotate_left
  ·
    refine q_aload_n dX8_makesAll_12 rfl ?_
    refine q_getr dX8_makesAll_13 fl_8_23 rfl rfl ?_
    refine q_iload_n dX8_makesAll_16 rfl ?_
    refine q_S1 dX8_makesAll_17 ml_8_94 md_X8_span (m_span (by omega)) rfl (by first | decide | omega) (Nat.le_of_ble_eq_true rfl) (Nat.le_of_ble_eq_true rfl) (qk_e ?_)
    refine q_iload_n dX8_makesAll_20 rfl ?_
    refine q_imul dX8_makesAll_21 ?_
    refine q_iload dX8_makesAll_22 rfl ?_
    refine q_iadd dX8_makesAll_24 ?_
    refine q_iload_n dX8_makesAll_25 rfl ?_
    refine q_iast dX8_makesAll_26 rfl (by (first | (unfold zR; omega) | (unfold zLR; omega) | omega | (simp only [zR, qup] at *; omega) | (simp [zR, qup]; omega) | (simp [zR, qup]; done))) (Nat.le_of_ble_eq_true rfl) ?_
    refine q_iinc dX8_makesAll_27 rfl (Nat.le_of_ble_eq_true rfl) rfl ?_
    refine q_goto (tgt := 3) dX8_makesAll_30 rfl ?_
    exact ih (j + 1) _ _ ⟨by omega, by omega⟩ (by omega) rfl (by
      funext u i
      by_cases g : u = 42
      · subst g
        by_cases g2 : i = p4 x * a + j
        · subst g2
          rw [qup_s]
          show _ = fset (M 42) (p4 x * a) (j + 1) v (p4 x * a + j)
          unfold fset
          rw [if_pos ⟨by omega, by omega⟩]
        · rw [qup_k _ _ _ g2]
          show fset (M 42) (p4 x * a) j v i = fset (M 42) (p4 x * a) (j + 1) v i
          unfold fset
          by_cases g3 : p4 x * a ≤ i ∧ i < p4 x * a + j
          · rw [if_pos g3, if_pos ⟨g3.1, by omega⟩]
          · rw [if_neg g3, if_neg (by omega)]
      · rw [qup_o _ _ _ _ g, rowF_o _ _ g, rowF_o _ _ g])
  refine q_return dX8_makesAll_33 ?_
  exact ⟨rfl, by rw [show j = p4 x by omega]⟩
set_option maxHeartbeats 1500000 in
theorem m_isHead (hv : 0 ≤ v ∧ v < 256) : qCt mX8_isHead 0 0 [.int (zI v)] M (qpe (zb (hdOk v)) M) := by
  refine q_intro (own := 8) (L := [some (.int (zI v)), none, none, none]) md_X8_isHead rfl rfl rfl (Nat.le_of_ble_eq_true rfl) (fun X => ?_)
  refine q_iconst dX8_isHead_0 ?_
  refine q_istore_n dX8_isHead_1 (Nat.le_of_ble_eq_true rfl) rfl ?_
  refine q_iconst dX8_isHead_2 ?_
  refine q_istore_n dX8_isHead_3 (Nat.le_of_ble_eq_true rfl) rfl ?_
  refine q_lp (fun i : Nat => 5 - i) (fun i => i ≤ 4 ∧ ∀ q : Nat, q < i → hcode v q = 3 → lastT v q ≠ -1) (fun i => [some (.int (zI v)), some (.int (zI (zb (lastT v i ≠ -1)))), some (.int (zI (i : Int))), none]) (fun _ => M) 0 (by rw [zb_f (p := lastT v 0 ≠ -1) (fun w => w rfl)]; rfl) rfl ⟨by omega, fun q hq => by omega⟩ (fun i hi ih => ?_)
  obtain ⟨hi1, hi2⟩ := hi
  have hc := hcode_in v i
  have hl := lastT_in v i
  have z01 := zb_01 (lastT v i ≠ -1)
  have hs : lastT v (i + 1) = if hcode v i = 2 then (i : Int) else lastT v i := rfl
  have hne : lastT v i ≠ -1 → lastT v (i + 1) ≠ -1 := fun h => by
    rw [hs]
    by_cases e : hcode v i = 2
    · rw [if_pos e]; omega
    · rw [if_neg e]; exact h
  refine q_iload_n dX8_isHead_4 rfl ?_
  refine q_iconst dX8_isHead_5 ?_
  refine q_icmp_ge (tgt := 49) dX8_isHead_6 rfl (by (first | (unfold zR; omega) | (unfold zLR; omega) | omega | (simp only [zR, qup] at *; omega) | (simp [zR, qup]; omega) | (simp [zR, qup]; done))) (by (first | (unfold zR; omega) | (unfold zLR; omega) | omega | (simp only [zR, qup] at *; omega) | (simp [zR, qup]; omega) | (simp [zR, qup]; done))) (fun h6 => ?_) (fun h6 => ?_)
  rotate_left
  ·
    refine q_iload_n dX8_isHead_9 rfl ?_
    refine q_iconst dX8_isHead_10 ?_
    refine q_iload_n dX8_isHead_11 rfl ?_
    refine q_imul dX8_isHead_12 ?_
    refine q_ishr dX8_isHead_13 ?_
    refine q_iconst dX8_isHead_14 ?_
    refine q_iand dX8_isHead_15 ?_
    rw [hcode_shr (by omega) (by omega)]
    refine q_istore_n dX8_isHead_16 (Nat.le_of_ble_eq_true rfl) rfl ?_
    refine q_iload_n dX8_isHead_17 rfl ?_
    refine q_iconst dX8_isHead_18 ?_
    refine q_icmp_ne (tgt := 28) dX8_isHead_19 rfl (by (first | (unfold zR; omega) | (unfold zLR; omega) | omega | (simp only [zR, qup] at *; omega) | (simp [zR, qup]; omega) | (simp [zR, qup]; done))) (by (first | (unfold zR; omega) | (unfold zLR; omega) | omega | (simp only [zR, qup] at *; omega) | (simp [zR, qup]; omega) | (simp [zR, qup]; done))) (fun h19 => ?_) (fun h19 => ?_)
    ·
      refine q_iload_n dX8_isHead_28 rfl ?_
      refine q_if_ne (tgt := 37) dX8_isHead_29 rfl (by (first | (unfold zR; omega) | (unfold zLR; omega) | omega | (simp only [zR, qup] at *; omega) | (simp [zR, qup]; omega) | (simp [zR, qup]; done))) (fun h29 => ?_) (fun h29 => ?_)
      ·
        refine q_iconst dX8_isHead_37 ?_
        refine q_goto (tgt := 42) dX8_isHead_38 rfl ?_
        refine q_istore_n dX8_isHead_42 (Nat.le_of_ble_eq_true rfl) rfl ?_
        refine q_iinc dX8_isHead_43 rfl (Nat.le_of_ble_eq_true rfl) rfl ?_
        refine q_goto (tgt := 4) dX8_isHead_46 rfl ?_
        have hnx : ∀ q : Nat, q < i + 1 → hcode v q = 3 → lastT v q ≠ -1 := fun q hq h3 => by
          by_cases e : q = i
          · subst e; exact absurd h3 h19
          · exact hi2 q (by omega) h3
        refine q_wk _ ?_ (ih (i + 1) _ _ ⟨by omega, hnx⟩ (by omega) rfl rfl)
        rw [show zb (lastT v (i + 1) ≠ -1) = 1 from zb_t (hne (zb_1.1 (show zb (lastT v i ≠ -1) = 1 by omega)))]
        simp only [wkB]
        (repeat (first | exact rfl | exact trivial | refine ⟨rfl, ?_⟩))
      ·
        refine q_iload_n dX8_isHead_32 rfl ?_
        refine q_iconst dX8_isHead_33 ?_
        refine q_icmp_ne (tgt := 41) dX8_isHead_34 rfl (by (first | (unfold zR; omega) | (unfold zLR; omega) | omega | (simp only [zR, qup] at *; omega) | (simp [zR, qup]; omega) | (simp [zR, qup]; done))) (by (first | (unfold zR; omega) | (unfold zLR; omega) | omega | (simp only [zR, qup] at *; omega) | (simp [zR, qup]; omega) | (simp [zR, qup]; done))) (fun h34 => ?_) (fun h34 => ?_)
        ·
          refine q_iconst dX8_isHead_41 ?_
          refine q_istore_n dX8_isHead_42 (Nat.le_of_ble_eq_true rfl) rfl ?_
          refine q_iinc dX8_isHead_43 rfl (Nat.le_of_ble_eq_true rfl) rfl ?_
          refine q_goto (tgt := 4) dX8_isHead_46 rfl ?_
          have hnx : ∀ q : Nat, q < i + 1 → hcode v q = 3 → lastT v q ≠ -1 := fun q hq h3 => by
            by_cases e : q = i
            · subst e; exact absurd h3 h19
            · exact hi2 q (by omega) h3
          refine q_wk _ ?_ (ih (i + 1) _ _ ⟨by omega, hnx⟩ (by omega) rfl rfl)
          rw [show zb (lastT v (i + 1) ≠ -1) = 0 from zb_f (by have h := zb_0.1 (show zb (lastT v i ≠ -1) = 0 by omega); rw [hs, if_neg h34]; exact h)]
          simp only [wkB]
          (repeat (first | exact rfl | exact trivial | refine ⟨rfl, ?_⟩))
        ·
          refine q_iconst dX8_isHead_37 ?_
          refine q_goto (tgt := 42) dX8_isHead_38 rfl ?_
          refine q_istore_n dX8_isHead_42 (Nat.le_of_ble_eq_true rfl) rfl ?_
          refine q_iinc dX8_isHead_43 rfl (Nat.le_of_ble_eq_true rfl) rfl ?_
          refine q_goto (tgt := 4) dX8_isHead_46 rfl ?_
          have hnx : ∀ q : Nat, q < i + 1 → hcode v q = 3 → lastT v q ≠ -1 := fun q hq h3 => by
            by_cases e : q = i
            · subst e; exact absurd h3 h19
            · exact hi2 q (by omega) h3
          refine q_wk _ ?_ (ih (i + 1) _ _ ⟨by omega, hnx⟩ (by omega) rfl rfl)
          rw [show zb (lastT v (i + 1) ≠ -1) = 1 from zb_t (by rw [hs, if_pos (by omega)]; omega)]
          simp only [wkB]
          (repeat (first | exact rfl | exact trivial | refine ⟨rfl, ?_⟩))
    ·
      refine q_iload_n dX8_isHead_22 rfl ?_
      refine q_if_ne (tgt := 28) dX8_isHead_23 rfl (by (first | (unfold zR; omega) | (unfold zLR; omega) | omega | (simp only [zR, qup] at *; omega) | (simp [zR, qup]; omega) | (simp [zR, qup]; done))) (fun h23 => ?_) (fun h23 => ?_)
      ·
        refine q_iload_n dX8_isHead_28 rfl ?_
        refine q_if_ne (tgt := 37) dX8_isHead_29 rfl (by (first | (unfold zR; omega) | (unfold zLR; omega) | omega | (simp only [zR, qup] at *; omega) | (simp [zR, qup]; omega) | (simp [zR, qup]; done))) (fun h29 => ?_) (fun h29 => ?_)
        ·
          refine q_iconst dX8_isHead_37 ?_
          refine q_goto (tgt := 42) dX8_isHead_38 rfl ?_
          refine q_istore_n dX8_isHead_42 (Nat.le_of_ble_eq_true rfl) rfl ?_
          refine q_iinc dX8_isHead_43 rfl (Nat.le_of_ble_eq_true rfl) rfl ?_
          refine q_goto (tgt := 4) dX8_isHead_46 rfl ?_
          have hnx : ∀ q : Nat, q < i + 1 → hcode v q = 3 → lastT v q ≠ -1 := fun q hq h3 => by
            by_cases e : q = i
            · subst e; exact zb_1.1 (by omega)
            · exact hi2 q (by omega) h3
          refine q_wk _ ?_ (ih (i + 1) _ _ ⟨by omega, hnx⟩ (by omega) rfl rfl)
          rw [show zb (lastT v (i + 1) ≠ -1) = 1 from zb_t (hne (zb_1.1 (show zb (lastT v i ≠ -1) = 1 by omega)))]
          simp only [wkB]
          (repeat (first | exact rfl | exact trivial | refine ⟨rfl, ?_⟩))
        ·
          refine q_iload_n dX8_isHead_32 rfl ?_
          refine q_iconst dX8_isHead_33 ?_
          refine q_icmp_ne (tgt := 41) dX8_isHead_34 rfl (by (first | (unfold zR; omega) | (unfold zLR; omega) | omega | (simp only [zR, qup] at *; omega) | (simp [zR, qup]; omega) | (simp [zR, qup]; done))) (by (first | (unfold zR; omega) | (unfold zLR; omega) | omega | (simp only [zR, qup] at *; omega) | (simp [zR, qup]; omega) | (simp [zR, qup]; done))) (fun h34 => ?_) (fun h34 => ?_)
          ·
            refine q_iconst dX8_isHead_41 ?_
            refine q_istore_n dX8_isHead_42 (Nat.le_of_ble_eq_true rfl) rfl ?_
            refine q_iinc dX8_isHead_43 rfl (Nat.le_of_ble_eq_true rfl) rfl ?_
            refine q_goto (tgt := 4) dX8_isHead_46 rfl ?_
            exfalso
            omega
          ·
            refine q_iconst dX8_isHead_37 ?_
            refine q_goto (tgt := 42) dX8_isHead_38 rfl ?_
            refine q_istore_n dX8_isHead_42 (Nat.le_of_ble_eq_true rfl) rfl ?_
            refine q_iinc dX8_isHead_43 rfl (Nat.le_of_ble_eq_true rfl) rfl ?_
            refine q_goto (tgt := 4) dX8_isHead_46 rfl ?_
            exfalso
            omega
      ·
        refine q_iconst dX8_isHead_26 ?_
        refine q_zreturn (by first | exact Or.inl rfl | exact Or.inr rfl) dX8_isHead_27 ?_
        exact ⟨by rw [zb_f (fun w => w i (by omega) h19 (Classical.byContradiction (fun q => zb_0.1 h23 q)))], rfl⟩
  refine q_iconst dX8_isHead_49 ?_
  refine q_zreturn (by first | exact Or.inl rfl | exact Or.inr rfl) dX8_isHead_50 ?_
  exact ⟨by rw [zb_t (show hdOk v from fun q hq => hi2 q (by omega))], rfl⟩
set_option maxHeartbeats 1500000 in
theorem m_isAllB (hL : L ≤ 4) (hl : 0 ≤ y ∧ y ≤ L) (hx : 0 ≤ x ∧ x < p4 ((L : Int) - y)) (hv : zR v) (hc : ∀ k, p4 y * x ≤ k → k < p4 y * x + p4 y → zR (M 42 k)) : qCt mX8_isAll 0 1 [.ref 37, .int (zI y), .int (zI x), .int (zI v)] M (qpe (zb (allv (M 42) y x v)) M) := by
  have hbi := blk_in hL hl hx
  have hpin := p4_in (L : Int)
  have hpy := p4_in y
  refine q_intro (own := 8) (L := [some (.ref 37), some (.int (zI y)), some (.int (zI x)), some (.int (zI v)), none]) md_X8_isAll rfl rfl rfl (Nat.le_of_ble_eq_true rfl) (fun X => ?_)
  refine q_iconst dX8_isAll_0 ?_
  refine q_istore dX8_isAll_1 (Nat.le_of_ble_eq_true rfl) rfl ?_
  refine q_lp (fun i : Int => (p4 y - i).toNat) (fun i => 0 ≤ i ∧ i ≤ p4 y ∧ ∀ j, 0 ≤ j → j < i → M 42 (p4 y * x + j) = v) (fun i => [some (.ref 37), some (.int (zI y)), some (.int (zI x)), some (.int (zI v)), some (.int (zI i))]) (fun _ => M) 0 rfl rfl ⟨by omega, by omega, fun j q1 q2 => by omega⟩ (fun i hi ih => ?_)
  refine q_iload dX8_isAll_3 rfl ?_
  refine q_iload_n dX8_isAll_5 rfl ?_
  refine q_S1 dX8_isAll_6 ml_8_94 md_X8_span (m_span (by omega)) rfl (by first | decide | omega) (Nat.le_of_ble_eq_true rfl) (Nat.le_of_ble_eq_true rfl) (qk_e ?_)
  refine q_icmp_ge (tgt := 38) dX8_isAll_9 rfl (by (first | (unfold zR; omega) | (unfold zLR; omega) | omega | (simp only [zR, qup] at *; omega) | (simp [zR, qup]; omega) | (simp [zR, qup]; done))) (by (first | (unfold zR; omega) | (unfold zLR; omega) | omega | (simp only [zR, qup] at *; omega) | (simp [zR, qup]; omega) | (simp [zR, qup]; done))) (fun h9 => ?_) (fun h9 => ?_)
  rotate_left
  ·
    refine q_aload_n dX8_isAll_12 rfl ?_
    refine q_getr dX8_isAll_13 fl_8_23 rfl rfl ?_
    refine q_iload_n dX8_isAll_16 rfl ?_
    refine q_S1 dX8_isAll_17 ml_8_94 md_X8_span (m_span (by omega)) rfl (by first | decide | omega) (Nat.le_of_ble_eq_true rfl) (Nat.le_of_ble_eq_true rfl) (qk_e ?_)
    refine q_iload_n dX8_isAll_20 rfl ?_
    refine q_imul dX8_isAll_21 ?_
    refine q_iload dX8_isAll_22 rfl ?_
    refine q_iadd dX8_isAll_24 ?_
    refine q_iald dX8_isAll_25 rfl (by (first | (unfold zR; omega) | (unfold zLR; omega) | omega | (simp only [zR, qup] at *; omega) | (simp [zR, qup]; omega) | (simp [zR, qup]; done))) (Nat.le_of_ble_eq_true rfl) ?_
    have hz := hc (p4 y * x + i) (by omega) (by omega)
    refine q_iload_n dX8_isAll_26 rfl ?_
    refine q_icmp_eq (tgt := 32) dX8_isAll_27 rfl (by (first | (unfold zR; omega) | (unfold zLR; omega) | omega | (simp only [zR, qup] at *; omega) | (simp [zR, qup]; omega) | (simp [zR, qup]; done))) (by (first | (unfold zR; omega) | (unfold zLR; omega) | omega | (simp only [zR, qup] at *; omega) | (simp [zR, qup]; omega) | (simp [zR, qup]; done))) (fun h27 => ?_) (fun h27 => ?_)
    ·
      refine q_iinc dX8_isAll_32 rfl (Nat.le_of_ble_eq_true rfl) rfl ?_
      refine q_goto (tgt := 3) dX8_isAll_35 rfl ?_
      exact ih (i + 1) _ _ ⟨by omega, by omega, fun j q1 q2 => by
        by_cases q3 : j = i
        · subst q3; exact h27
        · exact hi.2.2 j q1 (by omega)⟩ (by omega) rfl rfl
    ·
      refine q_iconst dX8_isAll_30 ?_
      refine q_zreturn (by first | exact Or.inl rfl | exact Or.inr rfl) dX8_isAll_31 ?_
      exact ⟨by rw [zb_f (fun w => h27 (w i hi.1 h9))], rfl⟩
  refine q_iconst dX8_isAll_38 ?_
  refine q_zreturn (by first | exact Or.inl rfl | exact Or.inr rfl) dX8_isAll_39 ?_
  exact ⟨by rw [zb_t (p := allv (M 42) y x v) (fun j q1 q2 => hi.2.2 j q1 (by omega))], rfl⟩
set_option maxHeartbeats 1500000 in
theorem m_isSameB (hL : L ≤ 4) (hl : 0 ≤ y ∧ y ≤ L) (ha : 0 ≤ a ∧ a < p4 ((L : Int) - y)) (hb : 0 ≤ b ∧ b < p4 ((L : Int) - y)) (hc : ∀ k, p4 y * a ≤ k → k < p4 y * a + p4 y → zR (M 42 k)) (hd : ∀ k, p4 y * b ≤ k → k < p4 y * b + p4 y → zR (M 42 k)) : qCt mX8_isSame 0 1 [.ref 37, .int (zI y), .int (zI a), .int (zI b)] M (qpe (zb (same (M 42) y a b)) M) := by
  have hbi := blk_in hL hl ha
  have hbj := blk_in hL hl hb
  have hpin := p4_in (L : Int)
  have hpy := p4_in y
  refine q_intro (own := 8) (L := [some (.ref 37), some (.int (zI y)), some (.int (zI a)), some (.int (zI b)), none]) md_X8_isSame rfl rfl rfl (Nat.le_of_ble_eq_true rfl) (fun X => ?_)
  refine q_iconst dX8_isSame_0 ?_
  refine q_istore dX8_isSame_1 (Nat.le_of_ble_eq_true rfl) rfl ?_
  refine q_lp (fun i : Int => (p4 y - i).toNat) (fun i => 0 ≤ i ∧ i ≤ p4 y ∧ ∀ j, 0 ≤ j → j < i → M 42 (p4 y * a + j) = M 42 (p4 y * b + j)) (fun i => [some (.ref 37), some (.int (zI y)), some (.int (zI a)), some (.int (zI b)), some (.int (zI i))]) (fun _ => M) 0 rfl rfl ⟨by omega, by omega, fun j q1 q2 => by omega⟩ (fun i hi ih => ?_)
  refine q_iload dX8_isSame_3 rfl ?_
  refine q_iload_n dX8_isSame_5 rfl ?_
  refine q_S1 dX8_isSame_6 ml_8_94 md_X8_span (m_span (by omega)) rfl (by first | decide | omega) (Nat.le_of_ble_eq_true rfl) (Nat.le_of_ble_eq_true rfl) (qk_e ?_)
  refine q_icmp_ge (tgt := 51) dX8_isSame_9 rfl (by (first | (unfold zR; omega) | (unfold zLR; omega) | omega | (simp only [zR, qup] at *; omega) | (simp [zR, qup]; omega) | (simp [zR, qup]; done))) (by (first | (unfold zR; omega) | (unfold zLR; omega) | omega | (simp only [zR, qup] at *; omega) | (simp [zR, qup]; omega) | (simp [zR, qup]; done))) (fun h9 => ?_) (fun h9 => ?_)
  rotate_left
  ·
    refine q_aload_n dX8_isSame_12 rfl ?_
    refine q_getr dX8_isSame_13 fl_8_23 rfl rfl ?_
    refine q_iload_n dX8_isSame_16 rfl ?_
    refine q_S1 dX8_isSame_17 ml_8_94 md_X8_span (m_span (by omega)) rfl (by first | decide | omega) (Nat.le_of_ble_eq_true rfl) (Nat.le_of_ble_eq_true rfl) (qk_e ?_)
    refine q_iload_n dX8_isSame_20 rfl ?_
    refine q_imul dX8_isSame_21 ?_
    refine q_iload dX8_isSame_22 rfl ?_
    refine q_iadd dX8_isSame_24 ?_
    refine q_iald dX8_isSame_25 rfl (by (first | (unfold zR; omega) | (unfold zLR; omega) | omega | (simp only [zR, qup] at *; omega) | (simp [zR, qup]; omega) | (simp [zR, qup]; done))) (Nat.le_of_ble_eq_true rfl) ?_
    refine q_aload_n dX8_isSame_26 rfl ?_
    refine q_getr dX8_isSame_27 fl_8_23 rfl rfl ?_
    refine q_iload_n dX8_isSame_30 rfl ?_
    refine q_S1 dX8_isSame_31 ml_8_94 md_X8_span (m_span (by omega)) rfl (by first | decide | omega) (Nat.le_of_ble_eq_true rfl) (Nat.le_of_ble_eq_true rfl) (qk_e ?_)
    refine q_iload_n dX8_isSame_34 rfl ?_
    refine q_imul dX8_isSame_35 ?_
    refine q_iload dX8_isSame_36 rfl ?_
    refine q_iadd dX8_isSame_38 ?_
    refine q_iald dX8_isSame_39 rfl (by (first | (unfold zR; omega) | (unfold zLR; omega) | omega | (simp only [zR, qup] at *; omega) | (simp [zR, qup]; omega) | (simp [zR, qup]; done))) (Nat.le_of_ble_eq_true rfl) ?_
    have hz1 := hc (p4 y * a + i) (by omega) (by omega)
    have hz2 := hd (p4 y * b + i) (by omega) (by omega)
    refine q_icmp_eq (tgt := 45) dX8_isSame_40 rfl (by (first | (unfold zR; omega) | (unfold zLR; omega) | omega | (simp only [zR, qup] at *; omega) | (simp [zR, qup]; omega) | (simp [zR, qup]; done))) (by (first | (unfold zR; omega) | (unfold zLR; omega) | omega | (simp only [zR, qup] at *; omega) | (simp [zR, qup]; omega) | (simp [zR, qup]; done))) (fun h40 => ?_) (fun h40 => ?_)
    ·
      refine q_iinc dX8_isSame_45 rfl (Nat.le_of_ble_eq_true rfl) rfl ?_
      refine q_goto (tgt := 3) dX8_isSame_48 rfl ?_
      exact ih (i + 1) _ _ ⟨by omega, by omega, fun j q1 q2 => by
        by_cases q3 : j = i
        · subst q3; exact h40
        · exact hi.2.2 j q1 (by omega)⟩ (by omega) rfl rfl
    ·
      refine q_iconst dX8_isSame_43 ?_
      refine q_zreturn (by first | exact Or.inl rfl | exact Or.inr rfl) dX8_isSame_44 ?_
      exact ⟨by rw [zb_f (fun w => h40 (w i hi.1 h9))], rfl⟩
  refine q_iconst dX8_isSame_51 ?_
  refine q_zreturn (by first | exact Or.inl rfl | exact Or.inr rfl) dX8_isSame_52 ?_
  exact ⟨by rw [zb_t (p := same (M 42) y a b) (fun j q1 q2 => hi.2.2 j q1 (by omega))], rfl⟩
set_option maxHeartbeats 1500000 in
theorem MI_re (hM : MI M) (hs : 0 ≤ s ∧ s < 2) (hk : M 41 s ≠ 0) : MI (qup (stW M (8 + s) 1536) 37 7 0) := by
  have e : ∀ u, u ≠ 39 → stW M (8 + s) 1536 u = M u := fun u h => by funext j; unfold stW; rw [if_neg (fun w => h w.1)]
  have e1 : ∀ u, u ≠ 37 → qup (stW M (8 + s) 1536) 37 7 0 u = stW M (8 + s) 1536 u := fun u h => by funext j; exact qup_o _ _ _ _ h
  have e2 : ∀ j, j ≠ 7 → qup (stW M (8 + s) 1536) 37 7 0 37 j = M 37 j := fun j h => by rw [qup_k _ _ _ h, e 37 (by decide)]
  have e3 : ∀ j, stW M (8 + s) 1536 39 j = if 0 ≤ j ∧ j < 1536 then M 40 (1536 * (8 + s) + j) else M 39 j := fun j => by
    unfold stW
    by_cases w : 0 ≤ j ∧ j < 1536
    · rw [if_pos ⟨rfl, w⟩, if_pos w]
    · rw [if_neg (fun q => w q.2), if_neg w]
  obtain ⟨a1, a2, a3, a4, a5, a6, a7, a8, a9, a10, a11, a12, a13, a14⟩ := hM
  have hp4 := p4_in (M 37 2)
  unfold MI
  rw [e2 1 (by decide), e2 2 (by decide), e2 3 (by decide), e2 21 (by decide), e2 35 (by decide), qup_s, e1 38 (by decide), e1 39 (by decide), e1 40 (by decide), e1 41 (by decide), e1 48 (by decide), e 38 (by decide), e 40 (by decide), e 41 (by decide), e 48 (by decide)]
  refine ⟨a1, a2, a3, a4, fun j h0 h1 => ?_, a6, by omega, a8, a9, a10, a11, fun k i k0 k1 i0 i1 => ?_, a13, fun st k i h0 h1 hq k0 k1 i0 i1 => ?_⟩
  · rw [e3, if_pos ⟨h0, h1⟩]; exact a6 _ (by omega) (by omega)
  · rw [e3, if_pos (by omega), show 1536 * (8 + s) + (256 * k + i) = 1536 * (8 + s) + 256 * k + i by omega]
    exact a14 (8 + s) k i (by omega) (by omega) (Or.inr ⟨by omega, by rw [show 8 + s - 8 = s by omega]; exact hk⟩) k0 k1 i0 i1
  · exact a14 st k i h0 h1 (hq.elim (fun g => by omega) Or.inr) k0 k1 i0 i1
set_option maxHeartbeats 1500000 in
theorem o_restore (hM : MI M) (hL : M 37 2 = (L : Int)) (hs : zR s) : qCt mX8_restore 0 10 [.ref 37, .int (zI s)] M (mpx (gor (if 0 ≤ s ∧ s < 2 then 0 else 1) (if M 41 s ≠ 0 then 0 else 2)) (fun z M' => z = zsum (fun k => tsz (fun i => M 40 (1536 * (8 + s) + (256 * k + i))) L 0) 0 (M 37 3).toNat ∧ MS (qup (stW (qup M 37 0 0) (8 + s) 1536) 37 7 0) M') M) := by
  have z01 := zb_01 (0 ≤ s ∧ s ≤ 1)
  have hL4 : L ≤ 4 := by have := hM.2.1; omega
  have hpL := p4_in (L : Int)
  have m3 := hM.2.2.2.1
  refine q_intro (own := 8) (L := [some (.ref 37), some (.int (zI s))]) md_X8_restore rfl rfl rfl (Nat.le_of_ble_eq_true rfl) (fun X => ?_)
  refine q_aload_n dX8_restore_0 rfl ?_
  refine q_iconst dX8_restore_1 ?_
  refine q_puti (j := 0) dX8_restore_2 fl_8_57 rfl rfl rfl rfl rfl ?_
  refine q_aload_n dX8_restore_5 rfl ?_
  refine q_iload_n dX8_restore_6 rfl ?_
  refine q_iconst dX8_restore_7 ?_
  refine q_iconst dX8_restore_8 ?_
  refine q_S3 dX8_restore_9 ml_8_71 md_X8_in (m_in hs (by (first | (unfold zR; omega) | (unfold zLR; omega) | omega | (simp only [zR, qup] at *; omega) | (simp [zR, qup]; omega) | (simp [zR, qup]; done))) (by (first | (unfold zR; omega) | (unfold zLR; omega) | omega | (simp only [zR, qup] at *; omega) | (simp [zR, qup]; omega) | (simp [zR, qup]; done)))) rfl (by first | decide | omega) (Nat.le_of_ble_eq_true rfl) (Nat.le_of_ble_eq_true rfl) (qk_e ?_)
  refine q_if_ne (tgt := 19) dX8_restore_12 rfl (by exact zb_R _) (fun h12 => ?_) (fun h12 => ?_)
  ·
    refine q_iconst dX8_restore_19 ?_
    refine q_iconst dX8_restore_20 ?_
    have hgb : (if (0 : Int) = 1 then (1 : Int) else 0) = (if 0 ≤ s ∧ s < 2 then 0 else 1) := (if_pos (by have := zb_1.1 (show zb (0 ≤ s ∧ s ≤ 1) = 1 by omega); omega)).symm
    refine q_V2 dX8_restore_21 ml_8_64 md_X8_refuse (m_refH (by omega) (by (first | (unfold zR; omega) | (unfold zLR; omega) | omega | (simp only [zR, qup] at *; omega) | (simp [zR, qup]; omega) | (simp [zR, qup]; done))) (by (first | (unfold zR; omega) | (unfold zLR; omega) | omega | (simp only [zR, qup] at *; omega) | (simp [zR, qup]; omega) | (simp [zR, qup]; done))) hgb) rfl rfl rfl (by first | decide | omega) (Nat.le_of_ble_eq_true rfl) (Nat.le_of_ble_eq_true rfl) (qk_e ?_)
    refine q_if_ne (tgt := 49) dX8_restore_24 rfl (by exact zb_R _) (fun h24 => ?_) (fun h24 => ?_)
    ·
      refine q_iconst dX8_restore_49 ?_
      refine q_ireturn dX8_restore_50 ?_
      first | exact mpx_g2 (zbn h24) | exact mpx_g (zbn h46)
    ·
      have hg1 : (if 0 ≤ s ∧ s < 2 then (0 : Int) else 1) = 0 := by have h := zbz h24; rw [gor_0 rfl] at h; exact h
      have hsl : 0 ≤ s ∧ s < 2 := Classical.byContradiction fun q => by rw [if_neg q] at hg1; omega
      have e41 : ∀ g, qup M 37 0 g 41 s = M 41 s := fun g => qup_o _ _ _ _ (by decide)
      have h41 := hM.2.2.2.2.2.2.2.1 s hsl.1 hsl.2
      refine q_aload_n dX8_restore_27 rfl ?_
      refine q_aload_n dX8_restore_28 rfl ?_
      refine q_getr dX8_restore_29 fl_8_19 rfl rfl ?_
      refine q_iload_n dX8_restore_32 rfl ?_
      refine q_zald dX8_restore_33 rfl (by (first | (unfold zR; omega) | (unfold zLR; omega) | omega | (simp only [zR, qup] at *; omega) | (simp [zR, qup]; omega) | (simp [zR, qup]; done))) (Nat.le_of_ble_eq_true rfl) ?_
      rw [e41]
      refine q_if_ne (tgt := 41) dX8_restore_34 rfl (by (first | (unfold zR; omega) | (unfold zLR; omega) | omega | (simp only [zR, qup] at *; omega) | (simp [zR, qup]; omega) | (simp [zR, qup]; done))) (fun h34 => ?_) (fun h34 => ?_)
      ·
        refine q_iconst dX8_restore_41 ?_
        refine q_iconst dX8_restore_42 ?_
        have hgc : (if (0 : Int) = 1 then (2 : Int) else 0) = (if M 41 s ≠ 0 then 0 else 2) := (if_pos h34).symm
        refine q_V2 dX8_restore_43 ml_8_64 md_X8_refuse (m_refH (by omega) (by rw [gor_0 rfl]; exact ite_R (by unfold zR; omega) (by unfold zR; omega)) (by (first | (unfold zR; omega) | (unfold zLR; omega) | omega | (simp only [zR, qup] at *; omega) | (simp [zR, qup]; omega) | (simp [zR, qup]; done))) hgc) rfl rfl rfl (by first | decide | omega) (Nat.le_of_ble_eq_true rfl) (Nat.le_of_ble_eq_true rfl) (qk_e ?_)
        refine q_if_eq (tgt := 51) dX8_restore_46 rfl (by exact zb_R _) (fun h46 => ?_) (fun h46 => ?_)
        ·
          have hg := zbz h46
          rw [gor_0 rfl] at hg
          have hk : M 41 s ≠ 0 := Classical.byContradiction fun q => by have h := (gor_00.1 hg).2; rw [if_neg q] at h; omega
          rw [gor_0 rfl, hg]
          have hM2 : MI (qup (stW (qup M 37 0 0) (8 + s) 1536) 37 7 0) := MI_re (MI_g hM 0) hsl (by rw [e41]; exact hk)
          have e37 : ∀ j : Int, j ≠ 0 → j ≠ 7 → qup (stW (qup M 37 0 0) (8 + s) 1536) 37 7 0 37 j = M 37 j := fun j h h' => by
            rw [qup_k _ _ _ h']
            unfold stW
            rw [if_neg (fun w => by have := w.1; omega), qup_k _ _ _ h]
          refine q_aload_n dX8_restore_51 rfl ?_
          refine q_bipush dX8_restore_52 rfl ?_
          refine q_iload_n dX8_restore_54 rfl ?_
          refine q_iadd dX8_restore_55 ?_
          refine q_V1 dX8_restore_56 ml_8_396 md_X8_fetchesState (m_fetchesState (by omega)) rfl rfl rfl (by first | decide | omega) (Nat.le_of_ble_eq_true rfl) (Nat.le_of_ble_eq_true rfl) (qk_v ?_)
          refine q_aload_n dX8_restore_59 rfl ?_
          refine q_iconst dX8_restore_60 ?_
          refine q_puti (j := 7) dX8_restore_61 fl_8_280 rfl rfl rfl rfl rfl ?_
          refine q_aload_n dX8_restore_64 rfl ?_
          refine q_V0 dX8_restore_65 ml_8_289 md_X8_allBytes (m_allBytes hM2 (by rw [e37 2 (by decide) (by decide)]; exact hL)) rfl rfl rfl (by first | decide | omega) (Nat.le_of_ble_eq_true rfl) (Nat.le_of_ble_eq_true rfl) (qk_g (fun z65 N65 hq65 => ?_))
          refine q_ireturn dX8_restore_68 ?_
          obtain ⟨hz, hS⟩ := hq65
          rw [e37 3 (by decide) (by decide)] at hz
          refine mpx_k rfl ⟨?_, hS⟩
          rw [hz]
          refine zsum_congr (fun k k0 k1 => tsz_eL hL4 (fun i i0 i1 => ?_))
          show qup (stW (qup M 37 0 0) (8 + s) 1536) 37 7 0 39 (256 * k + i) = _
          rw [qup_o _ _ _ _ (by decide)]
          unfold stW
          rw [if_pos ⟨rfl, by omega, by omega⟩, qup_o _ _ _ _ (by decide)]
        ·
          refine q_iconst dX8_restore_49 ?_
          refine q_ireturn dX8_restore_50 ?_
          first | exact mpx_g2 (zbn h24) | exact mpx_g (zbn h46)
      ·
        refine q_iconst dX8_restore_37 ?_
        refine q_goto (tgt := 42) dX8_restore_38 rfl ?_
        refine q_iconst dX8_restore_42 ?_
        have hgc : (if (1 : Int) = 1 then (2 : Int) else 0) = (if M 41 s ≠ 0 then 0 else 2) := (if_neg (fun w => w h34)).symm
        refine q_V2 dX8_restore_43 ml_8_64 md_X8_refuse (m_refH (by omega) (by rw [gor_0 rfl]; exact ite_R (by unfold zR; omega) (by unfold zR; omega)) (by (first | (unfold zR; omega) | (unfold zLR; omega) | omega | (simp only [zR, qup] at *; omega) | (simp [zR, qup]; omega) | (simp [zR, qup]; done))) hgc) rfl rfl rfl (by first | decide | omega) (Nat.le_of_ble_eq_true rfl) (Nat.le_of_ble_eq_true rfl) (qk_e ?_)
        refine q_if_eq (tgt := 51) dX8_restore_46 rfl (by exact zb_R _) (fun h46 => ?_) (fun h46 => ?_)
        ·
          have hg := zbz h46
          rw [gor_0 rfl] at hg
          have hk : M 41 s ≠ 0 := Classical.byContradiction fun q => by have h := (gor_00.1 hg).2; rw [if_neg q] at h; omega
          rw [gor_0 rfl, hg]
          have hM2 : MI (qup (stW (qup M 37 0 0) (8 + s) 1536) 37 7 0) := MI_re (MI_g hM 0) hsl (by rw [e41]; exact hk)
          have e37 : ∀ j : Int, j ≠ 0 → j ≠ 7 → qup (stW (qup M 37 0 0) (8 + s) 1536) 37 7 0 37 j = M 37 j := fun j h h' => by
            rw [qup_k _ _ _ h']
            unfold stW
            rw [if_neg (fun w => by have := w.1; omega), qup_k _ _ _ h]
          refine q_aload_n dX8_restore_51 rfl ?_
          refine q_bipush dX8_restore_52 rfl ?_
          refine q_iload_n dX8_restore_54 rfl ?_
          refine q_iadd dX8_restore_55 ?_
          refine q_V1 dX8_restore_56 ml_8_396 md_X8_fetchesState (m_fetchesState (by omega)) rfl rfl rfl (by first | decide | omega) (Nat.le_of_ble_eq_true rfl) (Nat.le_of_ble_eq_true rfl) (qk_v ?_)
          refine q_aload_n dX8_restore_59 rfl ?_
          refine q_iconst dX8_restore_60 ?_
          refine q_puti (j := 7) dX8_restore_61 fl_8_280 rfl rfl rfl rfl rfl ?_
          refine q_aload_n dX8_restore_64 rfl ?_
          refine q_V0 dX8_restore_65 ml_8_289 md_X8_allBytes (m_allBytes hM2 (by rw [e37 2 (by decide) (by decide)]; exact hL)) rfl rfl rfl (by first | decide | omega) (Nat.le_of_ble_eq_true rfl) (Nat.le_of_ble_eq_true rfl) (qk_g (fun z65 N65 hq65 => ?_))
          refine q_ireturn dX8_restore_68 ?_
          obtain ⟨hz, hS⟩ := hq65
          rw [e37 3 (by decide) (by decide)] at hz
          refine mpx_k rfl ⟨?_, hS⟩
          rw [hz]
          refine zsum_congr (fun k k0 k1 => tsz_eL hL4 (fun i i0 i1 => ?_))
          show qup (stW (qup M 37 0 0) (8 + s) 1536) 37 7 0 39 (256 * k + i) = _
          rw [qup_o _ _ _ _ (by decide)]
          unfold stW
          rw [if_pos ⟨rfl, by omega, by omega⟩, qup_o _ _ _ _ (by decide)]
        ·
          refine q_iconst dX8_restore_49 ?_
          refine q_ireturn dX8_restore_50 ?_
          first | exact mpx_g2 (zbn h24) | exact mpx_g (zbn h46)
  ·
    refine q_iconst dX8_restore_15 ?_
    refine q_goto (tgt := 20) dX8_restore_16 rfl ?_
    refine q_iconst dX8_restore_20 ?_
    have hgb : (if (1 : Int) = 1 then (1 : Int) else 0) = (if 0 ≤ s ∧ s < 2 then 0 else 1) := (if_neg (by have := zb_0.1 (show zb (0 ≤ s ∧ s ≤ 1) = 0 by omega); omega)).symm
    refine q_V2 dX8_restore_21 ml_8_64 md_X8_refuse (m_refH (by omega) (by (first | (unfold zR; omega) | (unfold zLR; omega) | omega | (simp only [zR, qup] at *; omega) | (simp [zR, qup]; omega) | (simp [zR, qup]; done))) (by (first | (unfold zR; omega) | (unfold zLR; omega) | omega | (simp only [zR, qup] at *; omega) | (simp [zR, qup]; omega) | (simp [zR, qup]; done))) hgb) rfl rfl rfl (by first | decide | omega) (Nat.le_of_ble_eq_true rfl) (Nat.le_of_ble_eq_true rfl) (qk_e ?_)
    refine q_if_ne (tgt := 49) dX8_restore_24 rfl (by exact zb_R _) (fun h24 => ?_) (fun h24 => ?_)
    ·
      refine q_iconst dX8_restore_49 ?_
      refine q_ireturn dX8_restore_50 ?_
      first | exact mpx_g2 (zbn h24) | exact mpx_g (zbn h46)
    ·
      have hg1 : (if 0 ≤ s ∧ s < 2 then (0 : Int) else 1) = 0 := by have h := zbz h24; rw [gor_0 rfl] at h; exact h
      have hsl : 0 ≤ s ∧ s < 2 := Classical.byContradiction fun q => by rw [if_neg q] at hg1; omega
      have e41 : ∀ g, qup M 37 0 g 41 s = M 41 s := fun g => qup_o _ _ _ _ (by decide)
      have h41 := hM.2.2.2.2.2.2.2.1 s hsl.1 hsl.2
      refine q_aload_n dX8_restore_27 rfl ?_
      refine q_aload_n dX8_restore_28 rfl ?_
      refine q_getr dX8_restore_29 fl_8_19 rfl rfl ?_
      refine q_iload_n dX8_restore_32 rfl ?_
      refine q_zald dX8_restore_33 rfl (by (first | (unfold zR; omega) | (unfold zLR; omega) | omega | (simp only [zR, qup] at *; omega) | (simp [zR, qup]; omega) | (simp [zR, qup]; done))) (Nat.le_of_ble_eq_true rfl) ?_
      rw [e41]
      refine q_if_ne (tgt := 41) dX8_restore_34 rfl (by (first | (unfold zR; omega) | (unfold zLR; omega) | omega | (simp only [zR, qup] at *; omega) | (simp [zR, qup]; omega) | (simp [zR, qup]; done))) (fun h34 => ?_) (fun h34 => ?_)
      ·
        refine q_iconst dX8_restore_41 ?_
        refine q_iconst dX8_restore_42 ?_
        have hgc : (if (0 : Int) = 1 then (2 : Int) else 0) = (if M 41 s ≠ 0 then 0 else 2) := (if_pos h34).symm
        refine q_V2 dX8_restore_43 ml_8_64 md_X8_refuse (m_refH (by omega) (by rw [gor_0 rfl]; exact ite_R (by unfold zR; omega) (by unfold zR; omega)) (by (first | (unfold zR; omega) | (unfold zLR; omega) | omega | (simp only [zR, qup] at *; omega) | (simp [zR, qup]; omega) | (simp [zR, qup]; done))) hgc) rfl rfl rfl (by first | decide | omega) (Nat.le_of_ble_eq_true rfl) (Nat.le_of_ble_eq_true rfl) (qk_e ?_)
        refine q_if_eq (tgt := 51) dX8_restore_46 rfl (by exact zb_R _) (fun h46 => ?_) (fun h46 => ?_)
        ·
          have hg := zbz h46
          rw [gor_0 rfl] at hg
          have hk : M 41 s ≠ 0 := Classical.byContradiction fun q => by have h := (gor_00.1 hg).2; rw [if_neg q] at h; omega
          rw [gor_0 rfl, hg]
          have hM2 : MI (qup (stW (qup M 37 0 0) (8 + s) 1536) 37 7 0) := MI_re (MI_g hM 0) hsl (by rw [e41]; exact hk)
          have e37 : ∀ j : Int, j ≠ 0 → j ≠ 7 → qup (stW (qup M 37 0 0) (8 + s) 1536) 37 7 0 37 j = M 37 j := fun j h h' => by
            rw [qup_k _ _ _ h']
            unfold stW
            rw [if_neg (fun w => by have := w.1; omega), qup_k _ _ _ h]
          refine q_aload_n dX8_restore_51 rfl ?_
          refine q_bipush dX8_restore_52 rfl ?_
          refine q_iload_n dX8_restore_54 rfl ?_
          refine q_iadd dX8_restore_55 ?_
          refine q_V1 dX8_restore_56 ml_8_396 md_X8_fetchesState (m_fetchesState (by omega)) rfl rfl rfl (by first | decide | omega) (Nat.le_of_ble_eq_true rfl) (Nat.le_of_ble_eq_true rfl) (qk_v ?_)
          refine q_aload_n dX8_restore_59 rfl ?_
          refine q_iconst dX8_restore_60 ?_
          refine q_puti (j := 7) dX8_restore_61 fl_8_280 rfl rfl rfl rfl rfl ?_
          refine q_aload_n dX8_restore_64 rfl ?_
          refine q_V0 dX8_restore_65 ml_8_289 md_X8_allBytes (m_allBytes hM2 (by rw [e37 2 (by decide) (by decide)]; exact hL)) rfl rfl rfl (by first | decide | omega) (Nat.le_of_ble_eq_true rfl) (Nat.le_of_ble_eq_true rfl) (qk_g (fun z65 N65 hq65 => ?_))
          refine q_ireturn dX8_restore_68 ?_
          obtain ⟨hz, hS⟩ := hq65
          rw [e37 3 (by decide) (by decide)] at hz
          refine mpx_k rfl ⟨?_, hS⟩
          rw [hz]
          refine zsum_congr (fun k k0 k1 => tsz_eL hL4 (fun i i0 i1 => ?_))
          show qup (stW (qup M 37 0 0) (8 + s) 1536) 37 7 0 39 (256 * k + i) = _
          rw [qup_o _ _ _ _ (by decide)]
          unfold stW
          rw [if_pos ⟨rfl, by omega, by omega⟩, qup_o _ _ _ _ (by decide)]
        ·
          refine q_iconst dX8_restore_49 ?_
          refine q_ireturn dX8_restore_50 ?_
          first | exact mpx_g2 (zbn h24) | exact mpx_g (zbn h46)
      ·
        refine q_iconst dX8_restore_37 ?_
        refine q_goto (tgt := 42) dX8_restore_38 rfl ?_
        refine q_iconst dX8_restore_42 ?_
        have hgc : (if (1 : Int) = 1 then (2 : Int) else 0) = (if M 41 s ≠ 0 then 0 else 2) := (if_neg (fun w => w h34)).symm
        refine q_V2 dX8_restore_43 ml_8_64 md_X8_refuse (m_refH (by omega) (by rw [gor_0 rfl]; exact ite_R (by unfold zR; omega) (by unfold zR; omega)) (by (first | (unfold zR; omega) | (unfold zLR; omega) | omega | (simp only [zR, qup] at *; omega) | (simp [zR, qup]; omega) | (simp [zR, qup]; done))) hgc) rfl rfl rfl (by first | decide | omega) (Nat.le_of_ble_eq_true rfl) (Nat.le_of_ble_eq_true rfl) (qk_e ?_)
        refine q_if_eq (tgt := 51) dX8_restore_46 rfl (by exact zb_R _) (fun h46 => ?_) (fun h46 => ?_)
        ·
          have hg := zbz h46
          rw [gor_0 rfl] at hg
          have hk : M 41 s ≠ 0 := Classical.byContradiction fun q => by have h := (gor_00.1 hg).2; rw [if_neg q] at h; omega
          rw [gor_0 rfl, hg]
          have hM2 : MI (qup (stW (qup M 37 0 0) (8 + s) 1536) 37 7 0) := MI_re (MI_g hM 0) hsl (by rw [e41]; exact hk)
          have e37 : ∀ j : Int, j ≠ 0 → j ≠ 7 → qup (stW (qup M 37 0 0) (8 + s) 1536) 37 7 0 37 j = M 37 j := fun j h h' => by
            rw [qup_k _ _ _ h']
            unfold stW
            rw [if_neg (fun w => by have := w.1; omega), qup_k _ _ _ h]
          refine q_aload_n dX8_restore_51 rfl ?_
          refine q_bipush dX8_restore_52 rfl ?_
          refine q_iload_n dX8_restore_54 rfl ?_
          refine q_iadd dX8_restore_55 ?_
          refine q_V1 dX8_restore_56 ml_8_396 md_X8_fetchesState (m_fetchesState (by omega)) rfl rfl rfl (by first | decide | omega) (Nat.le_of_ble_eq_true rfl) (Nat.le_of_ble_eq_true rfl) (qk_v ?_)
          refine q_aload_n dX8_restore_59 rfl ?_
          refine q_iconst dX8_restore_60 ?_
          refine q_puti (j := 7) dX8_restore_61 fl_8_280 rfl rfl rfl rfl rfl ?_
          refine q_aload_n dX8_restore_64 rfl ?_
          refine q_V0 dX8_restore_65 ml_8_289 md_X8_allBytes (m_allBytes hM2 (by rw [e37 2 (by decide) (by decide)]; exact hL)) rfl rfl rfl (by first | decide | omega) (Nat.le_of_ble_eq_true rfl) (Nat.le_of_ble_eq_true rfl) (qk_g (fun z65 N65 hq65 => ?_))
          refine q_ireturn dX8_restore_68 ?_
          obtain ⟨hz, hS⟩ := hq65
          rw [e37 3 (by decide) (by decide)] at hz
          refine mpx_k rfl ⟨?_, hS⟩
          rw [hz]
          refine zsum_congr (fun k k0 k1 => tsz_eL hL4 (fun i i0 i1 => ?_))
          show qup (stW (qup M 37 0 0) (8 + s) 1536) 37 7 0 39 (256 * k + i) = _
          rw [qup_o _ _ _ _ (by decide)]
          unfold stW
          rw [if_pos ⟨rfl, by omega, by omega⟩, qup_o _ _ _ _ (by decide)]
        ·
          refine q_iconst dX8_restore_49 ?_
          refine q_ireturn dX8_restore_50 ?_
          first | exact mpx_g2 (zbn h24) | exact mpx_g (zbn h46)
end MH


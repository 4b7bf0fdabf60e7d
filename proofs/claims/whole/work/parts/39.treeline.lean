theorem qCt_mono {y : qY} {u d : Nat} {av : List Value} {M : qM} {P P' : qP} (h : qCt y u d av M P) (h1 : ∀ v M', P.1 v M' → P'.1 v M') (h2 : ∀ E M', P.2 E M' → P'.2 E M') : qCt y u d av M P' := by
  intro l hl dC dI cyI cyZ ad sz
  refine MetFree.mono (h l hl dC dI cyI cyZ ad sz) (fun _ _ h => h) (fun _ _ _ _ _ h => h) ?_
  intro a s o s' _ hq
  rcases hq with ⟨⟨⟨v, M', e1, e2, e3⟩, e4⟩, e5⟩ | ⟨q, e1, e2⟩
  · exact Or.inl ⟨⟨⟨v, M', e1, h1 _ _ e2, e3⟩, e4⟩, e5⟩
  · obtain ⟨E, ce, L, ⟨M', x1, x2, x3⟩, rest⟩ := e2
    exact Or.inr ⟨q, e1, E, ce, L, ⟨M', h2 _ _ x1, x2, x3⟩, rest⟩
theorem PF_rdw {M0 M : qM} {r o wh : Int} {w B H Q : Int → Int} (h : PF M0 M) (hr : 6 ≤ r ∧ r < 12) (hw : ∀ i, 0 ≤ i → i < 256 → 0 ≤ w i ∧ w i < 256) (hwh : wh = 0 ∨ wh = 1) : PF M0 (rdw M r w B H Q o wh) := by
  have e4 : ∀ k, rdw M r w B H Q o wh 4 k = qrow M r w 4 k := fun k => by simp [rdw]
  have hq := PF_row h hr hw
  refine ⟨fun ob ho => ?_, fun i hi => ?_, fun i h0 h1 => ?_, ?_⟩
  · rw [← h.1 ob ho]
    funext k
    exact rdw_o ⟨ho.2.2.2.2.1, ho.2.2.2.2.2.1, ho.2.2.2.2.2.2, ho.2.2.1⟩ (fun q => absurd q ho.2.2.2.1)
  · rw [e4]; exact hq.2.1 i hi
  · rw [e4]; exact hq.2.2.1 i h0 h1
  · rw [rdw_wh]; exact hwh
/-- the reader, i bytes read: the row r was w0, and is w -/
def Rd (M : qM) (L : Nat) (r : Int) (w0 src : Int → Int) (i : Int) : Prop := ∃ w : Int → Int, M 18 4 = r ∧ M 18 5 = (L : Int) ∧ (∀ k, p4 L ≤ k → w k = w0 k) ∧ (∀ k, 0 ≤ k → k < 256 → M 4 (r * 256 + k) = w k ∧ 0 ≤ w k ∧ w k < 256) ∧
  ((M 18 7 = 0 ∧ ∃ o : Nat, M 18 6 = (o : Int) ∧ St L o (M 22) (M 23) (M 24) ∧ ∀ N : Int, i ≤ N → rc N src L 0 0 w0 (rfin N L) = due N src L o (M 22) (M 23) (M 24) i w) ∨
   (M 18 7 = 1 ∧ ∀ N : Int, i ≤ N → rc N src L 0 0 w0 (rfin N L) = rfin N L i w))
/-- what a world keeps when the reader reads into the row r -/
def Rf (M M' : qM) (r : Int) : Prop := (∀ o, o ≠ 4 → o ≠ 18 → o ≠ 22 → o ≠ 23 → o ≠ 24 → M' o = M o) ∧ (∀ k, (k < r * 256 ∨ r * 256 + 256 ≤ k) → M' 4 k = M 4 k) ∧ (∀ k, 0 ≤ k → k < 256 → 0 ≤ M' 4 (r * 256 + k) ∧ M' 4 (r * 256 + k) < 256) ∧ (M' 18 7 = 0 ∨ M' 18 7 = 1)
theorem Rf_rdw {M : qM} {r o wh : Int} {w B H Q : Int → Int} (hw : ∀ i, 0 ≤ i → i < 256 → 0 ≤ w i ∧ w i < 256) (hwh : wh = 0 ∨ wh = 1) : Rf M (rdw M r w B H Q o wh) r := by
  have e4 : ∀ k, rdw M r w B H Q o wh 4 k = qrow M r w 4 k := fun k => by simp [rdw]
  refine ⟨fun ob h1 h2 h3 h4 h5 => by funext k; exact rdw_o ⟨h3, h4, h5, h1⟩ (fun q => absurd q h2), fun k hk => ?_, fun k h0 h1 => ?_, by rw [rdw_wh]; exact hwh⟩
  · rw [e4]; simp only [qrow]; rw [if_neg (by omega)]
  · rw [rdw_4 ⟨h0, h1⟩]; exact hw k h0 h1
theorem Rf_PF {M0 M M' : qM} {r : Int} (hr : 6 ≤ r ∧ r < 12) (h : PF M0 M) (e : Rf M M' r) : PF M0 M' := by
  refine ⟨fun o ho => (e.1 o ho.2.2.1 ho.2.2.2.1 ho.2.2.2.2.1 ho.2.2.2.2.2.1 ho.2.2.2.2.2.2).trans (h.1 o ho), fun i hi => (e.2.1 i (by omega)).trans (h.2.1 i hi), fun i h0 h1 => ?_, e.2.2.2⟩
  by_cases g : i < r * 256 ∨ r * 256 + 256 ≤ i
  · rw [e.2.1 i g]; exact h.2.2.1 i h0 h1
  · have := e.2.2.1 (i - r * 256) (by omega) (by omega)
    rw [show r * 256 + (i - r * 256) = i by omega] at this
    exact this
section TK
variable {M : qM} {L : Nat} {r v i : Int} {w0 src : Int → Int}
set_option maxHeartbeats 1000000 in
theorem c_takeR (hL : L ≤ 4) (hr : 0 ≤ r ∧ r < 33) (h : Rd M L r w0 src i) (hv : 0 ≤ v ∧ v < 256) (hs : src i = v) (hi : 0 ≤ i) : qCt mX4_take 0 4 [.ref 18, .int (zI v)] M (qpg (fun z M' => Rf M M' r ∧ ((z = 0 ∧ (oj src L (i + 1)).1 = i) ∨ (z = 1 ∧ Rd M' L r w0 src (i + 1) ∧ ((oj src L (i + 1)).1 = -1 ∨ (oj src L (i + 1)).1 = i + 1))))) := by
  obtain ⟨w1, h4, h5, hw0, hwb, hc⟩ := h
  have hb1 : ∀ k, 0 ≤ k → k < 256 → 0 ≤ w1 k ∧ w1 k < 256 := fun k h0 h1 => (hwb k h0 h1).2
  rcases hc with ⟨h7, o, h6, hS, hD⟩ | ⟨h7, hD⟩
  · have e : M = rdw M r w1 (M 22) (M 23) (M 24) (o : Int) 0 := by
      have := rdw_id M r
      rw [h6, h7] at this
      refine this.trans ?_
      unfold rdw
      rw [qrow_congr M (f := fun i => M 4 (r * 256 + i)) (g := w1) (fun k h0 h1 => (hwb k h0 h1).1)]
    have hq := c_take (M0 := M) (w := w1) hL hr h4 h5 hv hS hb1
    rw [← e] at hq
    refine qCt_mono hq ?_ (fun _ _ h => h.elim)
    rintro w M' ⟨z, hz, w', B', H', Q', o', wh', hM, ⟨hb, hk⟩, hcase⟩
    have g18 : ∀ k, k ≠ 6 → k ≠ 7 → M' 18 k = M 18 k := fun k a b => by rw [hM]; exact rdw_o (by decide) (fun _ => ⟨a, b⟩)
    have row : ∀ k, 0 ≤ k → k < 256 → M' 4 (r * 256 + k) = w' k ∧ 0 ≤ w' k ∧ w' k < 256 := fun k h0 h1 => ⟨by rw [hM]; exact rdw_4 ⟨h0, h1⟩, hb k h0 h1⟩
    refine ⟨z, hz, ?_, ?_⟩
    · rw [hM]; exact Rf_rdw hb (by rcases hcase with ⟨-, q, -⟩ | ⟨-, q, -⟩ | ⟨-, q, -⟩ <;> omega)
    · rcases hcase with ⟨hz0, -, hf⟩ | ⟨hz1, hwh, hS', hf⟩ | ⟨hz1, hwh, hf⟩
      · refine Or.inl ⟨hz0, ?_⟩
        rw [← oj_w src hL (i + 1) w0, hD (i + 1) (by omega)]
        exact congrArg Prod.fst (hf (i + 1) src i (by omega) hs)
      · refine Or.inr ⟨hz1, ⟨w', by rw [g18 4 (by omega) (by omega)]; exact h4, by rw [g18 5 (by omega) (by omega)]; exact h5, fun k hk2 => (hk k hk2).trans (hw0 k hk2), row, Or.inl ⟨by rw [hM, rdw_wh]; exact hwh, o', by rw [hM, rdw_op], by rw [hM]; exact hS', fun N hN => ?_⟩⟩, Or.inr ?_⟩
        · rw [hD N (by omega), hM]
          exact hf N src i (by omega) hs
        · rw [← oj_w src hL (i + 1) w0, hD (i + 1) (by omega)]
          exact congrArg Prod.fst ((hf (i + 1) src i (by omega) hs).trans due_n)
      · refine Or.inr ⟨hz1, ⟨w', by rw [g18 4 (by omega) (by omega)]; exact h4, by rw [g18 5 (by omega) (by omega)]; exact h5, fun k hk2 => (hk k hk2).trans (hw0 k hk2), row, Or.inr ⟨by rw [hM, rdw_wh]; exact hwh, fun N hN => ?_⟩⟩, Or.inl ?_⟩
        · rw [hD N (by omega)]
          exact hf N src i (by omega) hs
        · rw [← oj_w src hL (i + 1) w0, hD (i + 1) (by omega)]
          refine (congrArg Prod.fst (hf (i + 1) src i (by omega) hs)).trans ?_
          unfold rfin
          rw [if_neg (by omega)]
  · refine qCt_mono (c_take_w h7) ?_ (fun _ _ h => h.elim)
    rintro w M' ⟨hz, rfl⟩
    refine ⟨0, hz, ⟨fun _ _ _ _ _ _ => rfl, fun _ _ => rfl, fun k h0 h1 => by rw [(hwb k h0 h1).1]; exact hb1 k h0 h1, Or.inr h7⟩, Or.inl ⟨rfl, ?_⟩⟩
    rw [← oj_w src hL (i + 1) w0, hD (i + 1) (by omega)]
    unfold rfin
    rw [if_pos (by omega)]; rfl
theorem Rd_oj (hL : L ≤ 4) (h : Rd M L r w0 src i) : (M 18 7 = 0 ∧ (oj src L i).1 = i) ∨ (M 18 7 = 1 ∧ (oj src L i).1 = -1 ∧ (∀ k, 0 ≤ k → k < p4 L → (oj src L i).2 k = M 4 (r * 256 + k)) ∧ ∀ k, p4 L ≤ k → (oj src L i).2 k = 0) := by
  have hpL := p4_le (a := (L : Int)) (b := 4) (by omega)
  rw [show p4 4 = 256 by decide] at hpL
  obtain ⟨w1, h4, h5, hw0, hwb, ⟨h7, o, h6, hS, hD⟩ | ⟨h7, hD⟩⟩ := h
  · refine Or.inl ⟨h7, ?_⟩
    rw [← oj_w src hL i w0, hD i (Int.le_refl i), due_n]; rfl
  · have e : oj src L i = rfin i L i w1 := by rw [← oj_w src hL i w0, hD i (Int.le_refl i)]
    unfold rfin at e
    rw [if_neg (by omega)] at e
    refine Or.inr ⟨h7, by rw [e], fun k k0 k1 => ?_, fun k hk => ?_⟩
    · rw [e]; show (if 0 ≤ k ∧ k < p4 L then w1 k else 0) = _; rw [if_pos ⟨k0, k1⟩, (hwb k k0 (by omega)).1]
    · rw [e]; show (if 0 ≤ k ∧ k < p4 L then w1 k else 0) = _; rw [if_neg (by omega)]
theorem Rd_hi (h : Rd M L r w0 src i) : ∀ k, p4 L ≤ k → k < 256 → M 4 (r * 256 + k) = w0 k := by
  obtain ⟨w1, h4, h5, hw0, hwb, -⟩ := h
  have := (p4_in (L : Int)).1
  exact fun k h1 h2 => (hwb k (by omega) h2).1.trans (hw0 k h1)
theorem Rd_0 (hL : L ≤ 4) (hb : ∀ k, 0 ≤ k → k < 256 → 0 ≤ M 4 (r * 256 + k) ∧ M 4 (r * 256 + k) < 256) (hw : ∀ k, 0 ≤ k → k < 256 → w0 k = M 4 (r * 256 + k)) : Rd (rdw (qup (qup M 18 4 r) 18 5 (L : Int)) r (fun i => M 4 (r * 256 + i)) (fup (M 22) (L : Int) 0) (M 23) (M 24) (L : Int) 0) L r w0 src 0 := by
  refine ⟨w0, by rw [rdw_r]; simp [qup], by rw [rdw_l]; simp [qup], fun _ _ => rfl, fun k h0 h1 => ⟨by rw [rdw_4 ⟨h0, h1⟩, hw k h0 h1], by rw [hw k h0 h1]; exact hb k h0 h1⟩, Or.inl ⟨rdw_wh, L, rdw_op, ⟨Nat.le_refl L, by show fup (M 22) (L : Int) 0 (L : Int) = 0; exact fup_s _ _ _, fun l h1 h2 => by omega⟩, fun N hN => ?_⟩⟩
  unfold due
  rw [show L - L = 0 by omega]
  show _ = rc N src L (fup (M 22) (L : Int) 0 (L : Int)) 0 w0 (rfin N L)
  rw [fup_s]
end TK
theorem np_in {I : Int → Int} {n p2 : Int} (h : 0 ≤ p2 ∧ p2 ≤ n) : ∀ i : Nat, 0 ≤ np I n p2 i ∧ np I n p2 i ≤ n := by
  intro i
  induction i with
  | zero => exact h
  | succ i ih =>
    have h1 := tE_in (I := I) ih.2
    have h2 := tS_in (I := I) ih.2
    show 0 ≤ tE I n (np I n p2 i) ∧ tE I n (np I n p2 i) ≤ n
    omega
section TL
variable {M0 M : qM} {I : Int → Int} {n : Int} {L : Nat} {σ : qσ}
set_option maxHeartbeats 4000000 in
theorem c_takeTreeLine (hB : inB M0 I n) (hF : PF M0 M) (hs : Sp M I n L σ) (hL : 1 ≤ L ∧ L ≤ 4) : qCt mX3_takeTreeLine 0 5 [.ref 25] M (qpg (lnP M0 I n L (lnTree I n L σ))) := by
  have hn0 := hB.1
  have hp8 : 0 ≤ σ.1 ∧ σ.1 ≤ n := ⟨hs.2.2.2.2.2.2.1, hs.2.2.2.2.2.2.2.1⟩
  have hE := tE_in (I := I) hp8.2
  have hS := tS_in (I := I) hp8.2
  have hE2 := tE_in (I := I) (n := n) (p := tE I n σ.1) (by omega)
  have hS2 := tS_in (I := I) (n := n) (p := tE I n σ.1) (by omega)
  have hs2 := Sp_adv (p' := tE I n σ.1) hs (by omega)
  have hF2 := PF_25 (M' := adv M I n (tE I n σ.1)) hF adv_o
  have hm6 := hs.2.2.2.2.2.1
  have hm5 := hs.2.2.2.2.1
  have hn7 : n ≤ 700 := by have := hB.2.1; have := hB.2.2.1; omega
  refine q_intro (own := 3) (L := [some (.ref 25), none, none]) md_X3_takeTreeLine rfl rfl rfl (Nat.le_of_ble_eq_true rfl) (fun X => ?_)
  refine q_aload_n dX3_takeTreeLine_0 rfl ?_
  refine q_V0 dX3_takeTreeLine_1 ml_3_77 md_X3_advance (c_advance (PF_inB hF hB) hs.2.1 hs.1.1 (by omega)) rfl rfl rfl (by first | decide | omega) (Nat.le_of_ble_eq_true rfl) (Nat.le_of_ble_eq_true rfl) (qk_v ?_)
  refine q_mem (M' := adv M I n (tE I n σ.1)) rfl ?_
  refine q_aload_n dX3_takeTreeLine_4 rfl ?_
  refine q_V0 dX3_takeTreeLine_5 ml_3_124 md_X3_takeMap (c_takeMap (N := σ.2.2.1) (m := σ.2.1) (PF_inB hF2 hB) hs2.2.1 hs2.1 (by dsimp only; omega) hs2.2.2.2.1 ⟨hs2.2.2.2.2.1, hs2.2.2.2.2.2.1⟩ (Sp_N (σ := (tE I n σ.1, σ.2)) hs2)) rfl rfl rfl (by first | decide | omega) (Nat.le_of_ble_eq_true rfl) (Nat.le_of_ble_eq_true rfl) (qk_g (fun z5 N5 hq5 => ?_))
  have hz5 : -1 ≤ z5 ∧ z5 < 6 := by rcases hq5 with ⟨h, -⟩ | ⟨h, h', -⟩ <;> omega
  refine q_istore_n dX3_takeTreeLine_8 (Nat.le_of_ble_eq_true rfl) rfl ?_
  refine q_iload_n dX3_takeTreeLine_9 rfl ?_
  refine q_iconst dX3_takeTreeLine_10 ?_
  refine q_icmp_ne (tgt := 16) dX3_takeTreeLine_11 rfl (by (first | (unfold zR; omega) | (unfold zLR; omega) | omega | (simp only [zR, qup] at *; omega) | (simp [zR, qup]; omega) | (simp [zR, qup]; done))) (by (first | (unfold zR; omega) | (unfold zLR; omega) | omega | (simp only [zR, qup] at *; omega) | (simp [zR, qup]; omega) | (simp [zR, qup]; done))) (fun h11 => ?_) (fun h11 => ?_)
  rotate_left
  ·
    refine q_iconst dX3_takeTreeLine_14 ?_
    refine q_zreturn (by first | exact Or.inl rfl | exact Or.inr rfl) dX3_takeTreeLine_15 ?_
    rcases hq5 with ⟨-, c, c0, hk, rfl⟩ | ⟨h, -⟩
    · exact ⟨_, rfl, lnP_fail hF2 c0 (hk _) rfl⟩
    · omega
  obtain ⟨hk0, hk1, hkT, rfl⟩ : 0 ≤ z5 ∧ z5 < σ.2.1 ∧ (∀ k, tMap I n σ.2.2.1 σ.2.1 (tE I n σ.1) k = k z5 (tE I n (tE I n σ.1))) ∧ N5 = adv (adv M I n (tE I n σ.1)) I n (tE I n (tE I n σ.1)) := by
    rcases hq5 with ⟨h, -⟩ | h
    · exact absurd h h11
    · exact h
  have hs3 := Sp_adv (p' := tE I n (tE I n σ.1)) hs2 (by omega)
  have hF3 := PF_25 (M' := adv (adv M I n (tE I n σ.1)) I n (tE I n (tE I n σ.1))) hF2 adv_o
  generalize adv (adv M I n (tE I n σ.1)) I n (tE I n (tE I n σ.1)) = M3 at hs3 hF3 ⊢
  have hp2 : 0 ≤ tE I n (tE I n σ.1) ∧ tE I n (tE I n σ.1) ≤ n := by omega
  generalize tE I n (tE I n σ.1) = p2 at hs3 hkT hp2 ⊢
  have hk2 := tK_in I n p2
  obtain ⟨sp1, sp2, sp3, sp4, sp5, sp6, sp7, sp8, sp9, sp10, sp11, sp12, sp13⟩ := id hs3
  refine q_aload_n dX3_takeTreeLine_16 rfl ?_
  refine q_geti (j := 6) dX3_takeTreeLine_17 fl_3_52 rfl rfl rfl ?_
  refine q_iconst dX3_takeTreeLine_20 ?_
  rw [sp1.2.1]
  refine q_icmp_eq (tgt := 30) dX3_takeTreeLine_21 rfl (by (first | (unfold zR; omega) | (unfold zLR; omega) | omega | (simp only [zR, qup] at *; omega) | (simp [zR, qup]; omega) | (simp [zR, qup]; done))) (by (first | (unfold zR; omega) | (unfold zLR; omega) | omega | (simp only [zR, qup] at *; omega) | (simp [zR, qup]; omega) | (simp [zR, qup]; done))) (fun h21 => ?_) (fun h21 => ?_)
  rotate_left
  ·
    refine q_aload_n dX3_takeTreeLine_24 rfl ?_
    refine q_iconst dX3_takeTreeLine_25 ?_
    refine q_V1 dX3_takeTreeLine_26 ml_3_73 md_X3_fail c_fail rfl rfl rfl (by first | decide | omega) (Nat.le_of_ble_eq_true rfl) (Nat.le_of_ble_eq_true rfl) (qk_e ?_)
    refine q_zreturn (by first | exact Or.inl rfl | exact Or.inr rfl) dX3_takeTreeLine_29 ?_
    exact ⟨_, rfl, lnP_fail hF3 (by omega) (by unfold lnTree; rw [hkT, if_pos h21]) sp1.2.2.1⟩
  refine q_aload_n dX3_takeTreeLine_30 rfl ?_
  refine q_getr dX3_takeTreeLine_31 fl_3_28 rfl rfl ?_
  refine q_bipush dX3_takeTreeLine_34 rfl ?_
  refine q_iload_n dX3_takeTreeLine_36 rfl ?_
  refine q_iadd dX3_takeTreeLine_37 ?_
  refine q_aload_n dX3_takeTreeLine_38 rfl ?_
  refine q_geti (j := 9) dX3_takeTreeLine_39 fl_3_32 rfl rfl rfl ?_
  rw [sp3]
  have hlT : lnTree I n L σ = trS I n L z5 p2 σ n.toNat 0 := by unfold lnTree; rw [hkT, if_neg (fun q => q h21)]
  have hok := PF_ok hF3 (r := 6 + z5) (by omega)
  refine q_V2 dX3_takeTreeLine_42 ml_3_141 md_X4_begin (c_begin hL.2) rfl rfl rfl (by first | decide | omega) (Nat.le_of_ble_eq_true rfl) (Nat.le_of_ble_eq_true rfl) (qk_v ?_)
  refine q_iconst dX3_takeTreeLine_45 ?_
  refine q_istore_n dX3_takeTreeLine_46 (Nat.le_of_ble_eq_true rfl) rfl ?_
  have hR0 := Rd_0 (M := M3) (r := 6 + z5) (w0 := fun k => if 0 ≤ k ∧ k < 256 then M3 4 ((6 + z5) * 256 + k) else 0) (src := srcS I n p2) hL.2 hok (fun k h0 h1 => if_pos ⟨h0, h1⟩)
  have hf0 : Rf M3 (rdw (qup (qup M3 18 4 (6 + z5)) 18 5 (L : Int)) (6 + z5) (fun i => M3 4 ((6 + z5) * 256 + i)) (fup (M3 22) (L : Int) 0) (M3 23) (M3 24) (L : Int) 0) (6 + z5) := by
    have h1 := Rf_rdw (M := qup (qup M3 18 4 (6 + z5)) 18 5 (L : Int)) (r := 6 + z5) (o := (L : Int)) (wh := 0) (w := fun i => M3 4 ((6 + z5) * 256 + i)) (B := fup (M3 22) (L : Int) 0) (H := M3 23) (Q := M3 24) hok (Or.inl rfl)
    refine ⟨fun o a1 a2 a3 a4 a5 => (h1.1 o a1 a2 a3 a4 a5).trans (by funext k; simp [qup, a2]), fun k hk => (h1.2.1 k hk).trans (by simp [qup]), h1.2.2.1, h1.2.2.2⟩
  generalize rdw (qup (qup M3 18 4 (6 + z5)) 18 5 (L : Int)) (6 + z5) (fun i => M3 4 ((6 + z5) * 256 + i)) (fup (M3 22) (L : Int) 0) (M3 23) (M3 24) (L : Int) 0 = M4 at hR0 hf0 ⊢
  have g25 : M4 25 = M3 25 := hf0.1 25 (by decide) (by decide) (by decide) (by decide) (by decide)
  have g27 : M4 27 = M3 27 := hf0.1 27 (by decide) (by decide) (by decide) (by decide) (by decide)
  refine q_lp (α := Nat × qM) (fun x => n.toNat + 1 - x.1) (fun x => x.1 ≤ n.toNat ∧ PF M0 x.2 ∧ cur x.2 I n (np I n p2 x.1) ∧ (∀ k, (k < 5 ∨ 8 < k) → x.2 25 k = M3 25 k) ∧ x.2 27 = M3 27 ∧ (∀ k, (k < (6 + z5) * 256 ∨ (6 + z5) * 256 + 256 ≤ k) → x.2 4 k = M3 4 k) ∧ Rd x.2 L (6 + z5) (fun k => if 0 ≤ k ∧ k < 256 then M3 4 ((6 + z5) * 256 + k) else 0) (srcS I n p2) (x.1 : Int) ∧ trS I n L z5 p2 σ n.toNat 0 = trS I n L z5 p2 σ (n.toNat - x.1) x.1) (fun x => [some (.ref 25), some (.int (zI z5)), some (.int (zI (x.1 : Int)))]) (fun x => x.2) (0, M4) rfl rfl ⟨by dsimp only; omega, Rf_PF (by omega) hF3 hf0, by dsimp only; unfold cur at sp1 ⊢; rw [g25]; exact sp1, fun k _ => by dsimp only; rw [g25], g27, hf0.2.1, hR0, rfl⟩ (fun x hx ih => ?_)
  obtain ⟨i, M5⟩ := x
  obtain ⟨x1, x2, x3, x4, x5, x6, x7, x8⟩ := hx
  dsimp only at x1 x2 x3 x4 x5 x6 x7 x8 ih ⊢
  have hnp := np_in (I := I) hp2 i
  have hkk := tK_in I n (np I n p2 i)
  have hEi := tE_in (I := I) hnp.2
  have hSi := tS_in (I := I) hnp.2
  have h4 : M5 25 4 = n := by rw [x4 4 (by omega)]; exact sp2
  have hout : trS I n L z5 p2 σ (n.toNat - i) i = trF I n L z5 p2 σ i → QW X (3, cX3_takeTreeLine, 3, some .boolean, 0, 5) (qpg (lnP M0 I n L (lnTree I n L σ))) 0 109 [some (.ref 25), some (.int (zI z5)), some (.int (zI (i : Int)))] [] M5 := by
    intro hT
    rw [hlT, x8, hT]
    have hRo := Rd_oj hL.2 x7
    have hno : M5 18 7 = 0 → (tK I n (np I n p2 i) = 3 ∨ tK I n (np I n p2 i) = 0) → trF I n L z5 p2 σ i = flS I n 5 (np I n p2 i) := by
      intro h0 ht
      unfold trF
      rw [if_neg (by omega), if_neg (by rcases hRo with ⟨-, h⟩ | ⟨h, -⟩ <;> omega)]
    have hyes : M5 18 7 = 1 → (tK I n (np I n p2 i) = 3 ∨ tK I n (np I n p2 i) = 0) → lnP M0 I n L (trF I n L z5 p2 σ i) 1 M5 := by
      intro h1 ht
      obtain ⟨-, ho1, ho2, ho3⟩ : M5 18 7 = 1 ∧ (oj (srcS I n p2) L i).1 = -1 ∧ (∀ k, 0 ≤ k → k < p4 L → (oj (srcS I n p2) L i).2 k = M5 4 ((6 + z5) * 256 + k)) ∧ ∀ k, p4 L ≤ k → (oj (srcS I n p2) L i).2 k = 0 := by
        rcases hRo with ⟨h, -⟩ | h
        · omega
        · exact h
      have hhi := Rd_hi x7
      refine Or.inr ⟨rfl, (np I n p2 i, σ.2.1, σ.2.2.1, fun j => if j = z5 then (oj (srcS I n p2) L i).2 else σ.2.2.2 j), by unfold trF; rw [if_neg (by omega), if_pos ho1], ⟨x3, h4, by rw [x4 9 (by omega)]; exact sp3, by rw [x4 10 (by omega)]; exact sp4, sp5, sp6, hnp.1, hnp.2, by rw [x4 11 (by omega)]; exact sp9, by rw [x4 12 (by omega)]; exact sp10, fun k k0 k1 => by rw [x5]; exact sp11 k k0 k1, fun k q k0 k1 q0 q1 => ?_, fun k q k0 k1 q0 q1 => ?_⟩, x2⟩
      · dsimp only at k1 ⊢
        by_cases g : k = z5
        · subst g
          rw [if_pos rfl]
          by_cases g2 : q < p4 L
          · exact (ho2 q q0 g2).symm
          · rw [ho3 q (by omega), hhi q (by omega) q1]
            show (if 0 ≤ q ∧ q < 256 then M3 4 ((6 + k) * 256 + q) else 0) = 0
            rw [if_pos ⟨q0, q1⟩, sp12 k q k0 k1 q0 q1]
            exact sp13 k q k0 k1 (by omega) q1
        · rw [if_neg g, x6 _ (by omega)]
          exact sp12 k q k0 k1 q0 q1
      · dsimp only at k1 ⊢
        by_cases g : k = z5
        · rw [if_pos g]; exact ho3 q q0
        · rw [if_neg g]; exact sp13 k q k0 k1 q0 q1
    refine q_aload_n dX3_takeTreeLine_109 rfl ?_
    refine q_geti (j := 6) dX3_takeTreeLine_110 fl_3_52 rfl rfl rfl ?_
    refine q_iconst dX3_takeTreeLine_113 ?_
    rw [x3.2.1]
    refine q_icmp_eq (tgt := 130) dX3_takeTreeLine_114 rfl (by (first | (unfold zR; omega) | (unfold zLR; omega) | omega | (simp only [zR, qup] at *; omega) | (simp [zR, qup]; omega) | (simp [zR, qup]; done))) (by (first | (unfold zR; omega) | (unfold zLR; omega) | omega | (simp only [zR, qup] at *; omega) | (simp [zR, qup]; omega) | (simp [zR, qup]; done))) (fun h114 => ?_) (fun h114 => ?_)
    rotate_left
    ·
      refine q_aload_n dX3_takeTreeLine_117 rfl ?_
      refine q_geti (j := 6) dX3_takeTreeLine_118 fl_3_52 rfl rfl rfl ?_
      rw [x3.2.1]
      refine q_if_eq (tgt := 130) dX3_takeTreeLine_121 rfl (by (first | (unfold zR; omega) | (unfold zLR; omega) | omega | (simp only [zR, qup] at *; omega) | (simp [zR, qup]; omega) | (simp [zR, qup]; done))) (fun h121 => ?_) (fun h121 => ?_)
      rotate_left
      ·
        refine q_aload_n dX3_takeTreeLine_124 rfl ?_
        refine q_iconst dX3_takeTreeLine_125 ?_
        refine q_V1 dX3_takeTreeLine_126 ml_3_73 md_X3_fail c_fail rfl rfl rfl (by first | decide | omega) (Nat.le_of_ble_eq_true rfl) (Nat.le_of_ble_eq_true rfl) (qk_e ?_)
        refine q_zreturn (by first | exact Or.inl rfl | exact Or.inr rfl) dX3_takeTreeLine_129 ?_
        exact ⟨_, rfl, lnP_fail x2 (by omega) (by unfold trF; rw [if_pos ⟨h114, h121⟩]) x3.2.2.1⟩
      refine q_aload_n dX3_takeTreeLine_130 rfl ?_
      refine q_getr dX3_takeTreeLine_131 fl_3_28 rfl rfl ?_
      refine q_V0 dX3_takeTreeLine_134 ml_3_151 md_X4_isWhole (c_isWhole (by rcases hRo with ⟨h, -⟩ | ⟨h, -⟩ <;> omega)) rfl rfl rfl (by first | decide | omega) (Nat.le_of_ble_eq_true rfl) (Nat.le_of_ble_eq_true rfl) (qk_e ?_)
      refine q_if_ne (tgt := 148) dX3_takeTreeLine_137 rfl (by rcases hRo with ⟨h, -⟩ | ⟨h, -⟩ <;> (unfold zR; omega)) (fun h137 => ?_) (fun h137 => ?_)
      ·
        refine q_iconst dX3_takeTreeLine_148 ?_
        refine q_goto (tgt := 153) dX3_takeTreeLine_149 rfl ?_
        refine q_zreturn (by first | exact Or.inl rfl | exact Or.inr rfl) dX3_takeTreeLine_153 ?_
        exact ⟨_, rfl, hyes (by omega) (Or.inr h121)⟩
      ·
        refine q_aload_n dX3_takeTreeLine_140 rfl ?_
        refine q_iconst dX3_takeTreeLine_141 ?_
        refine q_V1 dX3_takeTreeLine_142 ml_3_73 md_X3_fail c_fail rfl rfl rfl (by first | decide | omega) (Nat.le_of_ble_eq_true rfl) (Nat.le_of_ble_eq_true rfl) (qk_e ?_)
        refine q_if_eq (tgt := 152) dX3_takeTreeLine_145 rfl (by (first | (unfold zR; omega) | (unfold zLR; omega) | omega | (simp only [zR, qup] at *; omega) | (simp [zR, qup]; omega) | (simp [zR, qup]; done))) (fun h145 => ?_) (fun h145 => absurd h145 (by omega))
        refine q_iconst dX3_takeTreeLine_152 ?_
        refine q_zreturn (by first | exact Or.inl rfl | exact Or.inr rfl) dX3_takeTreeLine_153 ?_
        exact ⟨_, rfl, lnP_fail x2 (by omega) (hno h137 (Or.inr h121)) x3.2.2.1⟩
    refine q_aload_n dX3_takeTreeLine_130 rfl ?_
    refine q_getr dX3_takeTreeLine_131 fl_3_28 rfl rfl ?_
    refine q_V0 dX3_takeTreeLine_134 ml_3_151 md_X4_isWhole (c_isWhole (by rcases hRo with ⟨h, -⟩ | ⟨h, -⟩ <;> omega)) rfl rfl rfl (by first | decide | omega) (Nat.le_of_ble_eq_true rfl) (Nat.le_of_ble_eq_true rfl) (qk_e ?_)
    refine q_if_ne (tgt := 148) dX3_takeTreeLine_137 rfl (by rcases hRo with ⟨h, -⟩ | ⟨h, -⟩ <;> (unfold zR; omega)) (fun h137 => ?_) (fun h137 => ?_)
    ·
      refine q_iconst dX3_takeTreeLine_148 ?_
      refine q_goto (tgt := 153) dX3_takeTreeLine_149 rfl ?_
      refine q_zreturn (by first | exact Or.inl rfl | exact Or.inr rfl) dX3_takeTreeLine_153 ?_
      exact ⟨_, rfl, hyes (by omega) (Or.inl h114)⟩
    ·
      refine q_aload_n dX3_takeTreeLine_140 rfl ?_
      refine q_iconst dX3_takeTreeLine_141 ?_
      refine q_V1 dX3_takeTreeLine_142 ml_3_73 md_X3_fail c_fail rfl rfl rfl (by first | decide | omega) (Nat.le_of_ble_eq_true rfl) (Nat.le_of_ble_eq_true rfl) (qk_e ?_)
      refine q_if_eq (tgt := 152) dX3_takeTreeLine_145 rfl (by (first | (unfold zR; omega) | (unfold zLR; omega) | omega | (simp only [zR, qup] at *; omega) | (simp [zR, qup]; omega) | (simp [zR, qup]; done))) (fun h145 => ?_) (fun h145 => absurd h145 (by omega))
      refine q_iconst dX3_takeTreeLine_152 ?_
      refine q_zreturn (by first | exact Or.inl rfl | exact Or.inr rfl) dX3_takeTreeLine_153 ?_
      exact ⟨_, rfl, lnP_fail x2 (by omega) (hno h137 (Or.inl h114)) x3.2.2.1⟩
  refine q_iload_n dX3_takeTreeLine_47 rfl ?_
  refine q_aload_n dX3_takeTreeLine_48 rfl ?_
  refine q_geti (j := 4) dX3_takeTreeLine_49 fl_3_145 rfl rfl rfl ?_
  rw [h4]
  refine q_icmp_ge (tgt := 109) dX3_takeTreeLine_52 rfl (by (first | (unfold zR; omega) | (unfold zLR; omega) | omega | (simp only [zR, qup] at *; omega) | (simp [zR, qup]; omega) | (simp [zR, qup]; done))) (by (first | (unfold zR; omega) | (unfold zLR; omega) | omega | (simp only [zR, qup] at *; omega) | (simp [zR, qup]; omega) | (simp [zR, qup]; done))) (fun h52 => ?_) (fun h52 => ?_)
  ·
    exact hout (by rw [show n.toNat - i = 0 by omega]; rfl)
  refine q_aload_n dX3_takeTreeLine_55 rfl ?_
  refine q_geti (j := 6) dX3_takeTreeLine_56 fl_3_52 rfl rfl rfl ?_
  refine q_iconst dX3_takeTreeLine_59 ?_
  rw [x3.2.1]
  refine q_icmp_ne (tgt := 109) dX3_takeTreeLine_60 rfl (by (first | (unfold zR; omega) | (unfold zLR; omega) | omega | (simp only [zR, qup] at *; omega) | (simp [zR, qup]; omega) | (simp [zR, qup]; done))) (by (first | (unfold zR; omega) | (unfold zLR; omega) | omega | (simp only [zR, qup] at *; omega) | (simp [zR, qup]; omega) | (simp [zR, qup]; done))) (fun h60 => ?_) (fun h60 => ?_)
  ·
    exact hout (by rw [show n.toNat - i = (n.toNat - i - 1) + 1 by omega, trS, if_neg h60])
  refine q_aload_n dX3_takeTreeLine_63 rfl ?_
  refine q_geti (j := 8) dX3_takeTreeLine_64 fl_3_61 rfl rfl rfl ?_
  rw [x3.2.2.2]
  have hv := num_in hnp.2 h60
  have hst : trS I n L z5 p2 σ (n.toNat - i) i = if 255 < tV I n (np I n p2 i) then flS I n 2 (np I n p2 i) else if (oj (srcS I n p2) L ((i : Int) + 1)).1 ≠ -1 ∧ (oj (srcS I n p2) L ((i : Int) + 1)).1 < (i : Int) + 1 then flS I n 5 (np I n p2 i) else trS I n L z5 p2 σ (n.toNat - (i + 1)) (i + 1) := by
    rw [show n.toNat - i = (n.toNat - (i + 1)) + 1 by omega, trS, if_pos h60]
  refine q_sipush dX3_takeTreeLine_67 rfl ?_
  refine q_icmp_le (tgt := 79) dX3_takeTreeLine_70 rfl (by (first | (unfold zR; omega) | (unfold zLR; omega) | omega | (simp only [zR, qup] at *; omega) | (simp [zR, qup]; omega) | (simp [zR, qup]; done))) (by (first | (unfold zR; omega) | (unfold zLR; omega) | omega | (simp only [zR, qup] at *; omega) | (simp [zR, qup]; omega) | (simp [zR, qup]; done))) (fun h70 => ?_) (fun h70 => ?_)
  rotate_left
  ·
    refine q_aload_n dX3_takeTreeLine_73 rfl ?_
    refine q_iconst dX3_takeTreeLine_74 ?_
    refine q_V1 dX3_takeTreeLine_75 ml_3_73 md_X3_fail c_fail rfl rfl rfl (by first | decide | omega) (Nat.le_of_ble_eq_true rfl) (Nat.le_of_ble_eq_true rfl) (qk_e ?_)
    refine q_zreturn (by first | exact Or.inl rfl | exact Or.inr rfl) dX3_takeTreeLine_78 ?_
    exact ⟨_, rfl, lnP_fail x2 (by omega) (by rw [hlT, x8, hst, if_pos h70]) x3.2.2.1⟩
  refine q_aload_n dX3_takeTreeLine_79 rfl ?_
  refine q_getr dX3_takeTreeLine_80 fl_3_28 rfl rfl ?_
  refine q_aload_n dX3_takeTreeLine_83 rfl ?_
  refine q_geti (j := 8) dX3_takeTreeLine_84 fl_3_61 rfl rfl rfl ?_
  rw [x3.2.2.2]
  refine q_V1 dX3_takeTreeLine_87 ml_3_148 md_X4_take (c_takeR (L := L) (r := 6 + z5) (i := (i : Int)) hL.2 (by omega) x7 (by omega) (by unfold srcS; rw [show ((i : Int)).toNat = i by omega]) (by omega)) rfl rfl rfl (by first | decide | omega) (Nat.le_of_ble_eq_true rfl) (Nat.le_of_ble_eq_true rfl) (qk_g (fun z87 N87 hq87 => ?_))
  have hz87 : z87 = 0 ∨ z87 = 1 := by rcases hq87.2 with h | h <;> omega
  have hF6 := Rf_PF (by omega) x2 hq87.1
  have g6 : N87 25 = M5 25 := hq87.1.1 25 (by decide) (by decide) (by decide) (by decide) (by decide)
  have g67 : N87 27 = M5 27 := hq87.1.1 27 (by decide) (by decide) (by decide) (by decide) (by decide)
  refine q_if_ne (tgt := 99) dX3_takeTreeLine_90 rfl (by (first | (unfold zR; omega) | (unfold zLR; omega) | omega | (simp only [zR, qup] at *; omega) | (simp [zR, qup]; omega) | (simp [zR, qup]; done))) (fun h90 => ?_) (fun h90 => ?_)
  rotate_left
  ·
    refine q_aload_n dX3_takeTreeLine_93 rfl ?_
    refine q_iconst dX3_takeTreeLine_94 ?_
    refine q_V1 dX3_takeTreeLine_95 ml_3_73 md_X3_fail c_fail rfl rfl rfl (by first | decide | omega) (Nat.le_of_ble_eq_true rfl) (Nat.le_of_ble_eq_true rfl) (qk_e ?_)
    refine q_zreturn (by first | exact Or.inl rfl | exact Or.inr rfl) dX3_takeTreeLine_98 ?_
    rcases hq87.2 with ⟨-, ho⟩ | ⟨h, -⟩
    · exact ⟨_, rfl, lnP_fail hF6 (by omega) (by rw [hlT, x8, hst, if_neg (by omega), if_pos (by rw [ho]; omega)]) (by rw [g6]; exact x3.2.2.1)⟩
    · omega
  refine q_aload_n dX3_takeTreeLine_99 rfl ?_
  obtain ⟨-, hR7, ho7⟩ : z87 = 1 ∧ Rd N87 L (6 + z5) (fun k => if 0 ≤ k ∧ k < 256 then M3 4 ((6 + z5) * 256 + k) else 0) (srcS I n p2) ((i : Int) + 1) ∧ ((oj (srcS I n p2) L ((i : Int) + 1)).1 = -1 ∨ (oj (srcS I n p2) L ((i : Int) + 1)).1 = (i : Int) + 1) := by
    rcases hq87.2 with ⟨h, -⟩ | h
    · omega
    · exact h
  refine q_V0 dX3_takeTreeLine_100 ml_3_77 md_X3_advance (c_advance (p := tE I n (np I n p2 i)) (PF_inB hF6 hB) (by rw [g6]; exact h4) (by rw [g6]; exact x3.1) (by omega)) rfl rfl rfl (by first | decide | omega) (Nat.le_of_ble_eq_true rfl) (Nat.le_of_ble_eq_true rfl) (qk_v ?_)
  refine q_iinc dX3_takeTreeLine_103 rfl (Nat.le_of_ble_eq_true rfl) rfl ?_
  refine q_goto (tgt := 47) dX3_takeTreeLine_106 rfl ?_
  refine ih (i + 1, adv N87 I n (tE I n (np I n p2 i))) _ _ ⟨by dsimp only; omega, PF_25 hF6 adv_o, cur_qlx, fun k hk => by dsimp only; rw [adv_f hk, g6]; exact x4 k hk, by dsimp only; rw [adv_o 27 (by decide), g67]; exact x5, fun k hk => by dsimp only; rw [adv_o 4 (by decide), hq87.1.2.1 k hk]; exact x6 k hk, ?_, ?_⟩ (by dsimp only; omega) rfl rfl
  · dsimp only
    rw [show ((i + 1 : Nat) : Int) = (i : Int) + 1 by omega]
    unfold Rd at hR7 ⊢
    rw [adv_o 18 (by decide), adv_o 22 (by decide), adv_o 23 (by decide), adv_o 24 (by decide), adv_o 4 (by decide)]
    exact hR7
  · dsimp only
    rw [x8, hst, if_neg (by omega), if_neg (by omega)]
end TL


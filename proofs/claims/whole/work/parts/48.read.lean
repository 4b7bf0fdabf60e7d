/-! The class: what is read from the buffer; counts. -/
section TN
variable {M : qM} {L : Nat} {r v i : Int} {w0 src : Int → Int}
set_option maxHeartbeats 1000000 in
theorem c_takeN (hL : L ≤ 4) (hr : 0 ≤ r ∧ r < 33) (h : Rd M L r w0 src i) (hv : 0 ≤ v ∧ v < 256) (hs : src i = v) (hi : 0 ≤ i) : qCt mX4_take 0 4 [.ref 18, .int (zI v)] M (qpg (fun z M' => Rf M M' r ∧ ((z = 0 ∧ ∀ N, i + 1 ≤ N → (oj src L N).1 = i) ∨ (z = 1 ∧ Rd M' L r w0 src (i + 1))))) := by
  obtain ⟨w1, h4, h5, hw0, hwb, hc⟩ := h
  have hb1 : ∀ k, 0 ≤ k → k < 256 → 0 ≤ w1 k ∧ w1 k < 256 := fun k h0 h1 => (hwb k h0 h1).2
  rcases hc with ⟨h7, o, h6, hS, hD⟩ | ⟨h7, hD⟩
  · have e : M = rdw M r w1 (M 22) (M 23) (M 24) (o : Int) 0 := by
      have := rdw_id M r
      rw [h6, h7] at this
      refine this.trans ?_
      unfold rdw
      rw [qrow_congr M (f := fun i => M 4 (r * 256 + i)) (g := w1) (fun k h0 h1 => (hwb k h0 h1).1)]
    have hq := c_take (M0 := M) (w := w1) hL hr h4 h5 hv hS hb1
    rw [← e] at hq
    refine qCt_mono hq ?_ (fun _ _ h => h.elim)
    rintro w M' ⟨z, hz, w', B', H', Q', o', wh', hM, ⟨hb, hk⟩, hcase⟩
    have g18 : ∀ k, k ≠ 6 → k ≠ 7 → M' 18 k = M 18 k := fun k a b => by rw [hM]; exact rdw_o (by decide) (fun _ => ⟨a, b⟩)
    have row : ∀ k, 0 ≤ k → k < 256 → M' 4 (r * 256 + k) = w' k ∧ 0 ≤ w' k ∧ w' k < 256 := fun k h0 h1 => ⟨by rw [hM]; exact rdw_4 ⟨h0, h1⟩, hb k h0 h1⟩
    refine ⟨z, hz, ?_, ?_⟩
    · rw [hM]; exact Rf_rdw hb (by rcases hcase with ⟨-, q, -⟩ | ⟨-, q, -⟩ | ⟨-, q, -⟩ <;> omega)
    · rcases hcase with ⟨hz0, -, hf⟩ | ⟨hz1, hwh, hS', hf⟩ | ⟨hz1, hwh, hf⟩
      · refine Or.inl ⟨hz0, fun N hN => ?_⟩
        rw [← oj_w src hL N w0, hD N (by omega)]
        exact congrArg Prod.fst (hf N src i (by omega) hs)
      · refine Or.inr ⟨hz1, ⟨w', by rw [g18 4 (by omega) (by omega)]; exact h4, by rw [g18 5 (by omega) (by omega)]; exact h5, fun k hk2 => (hk k hk2).trans (hw0 k hk2), row, Or.inl ⟨by rw [hM, rdw_wh]; exact hwh, o', by rw [hM, rdw_op], by rw [hM]; exact hS', fun N hN => ?_⟩⟩⟩
        rw [hD N (by omega), hM]
        exact hf N src i (by omega) hs
      · refine Or.inr ⟨hz1, ⟨w', by rw [g18 4 (by omega) (by omega)]; exact h4, by rw [g18 5 (by omega) (by omega)]; exact h5, fun k hk2 => (hk k hk2).trans (hw0 k hk2), row, Or.inr ⟨by rw [hM, rdw_wh]; exact hwh, fun N hN => ?_⟩⟩⟩
        rw [hD N (by omega)]
        exact hf N src i (by omega) hs
  · refine qCt_mono (c_take_w h7) ?_ (fun _ _ h => h.elim)
    rintro w M' ⟨hz, rfl⟩
    refine ⟨0, hz, ⟨fun _ _ _ _ _ _ => rfl, fun _ _ => rfl, fun k h0 h1 => by rw [(hwb k h0 h1).1]; exact hb1 k h0 h1, Or.inr h7⟩, Or.inl ⟨rfl, fun N hN => ?_⟩⟩
    rw [← oj_w src hL N w0, hD N (by omega)]
    unfold rfin
    rw [if_pos (by omega)]; rfl
end TN
theorem Rf_Scr {M M' : qM} (h : CI M) (e : Rf M M' 32) : Scr M M' := by
  obtain ⟨e1, e2, e3, e4⟩ := e
  refine ⟨fun o ho => ?_, fun k hk => e2 k (by omega), fun i h0 h1 => ?_, by rw [e1 13 (by decide) (by decide) (by decide) (by decide) (by decide)]; exact h.2.1, e4⟩
  · obtain ⟨o4, -, -, -, -, -, -, -, o18, o22, o23, o24, -⟩ := ho
    exact e1 o o4 o18 o22 o23 o24
  · by_cases g : i < 32 * 256 ∨ 32 * 256 + 256 ≤ i
    · rw [e2 i g]; exact h.1 i h0 h1
    · have := e3 (i - 32 * 256) (by omega) (by omega)
      rw [show (32 : Int) * 256 + (i - 32 * 256) = i by omega] at this
      exact this
theorem PF_Scr {M M' : qM} (h : CI M) (e : PF M M') : Scr M M' := by
  obtain ⟨e1, e2, e3, e4⟩ := e
  refine ⟨fun o ho => ?_, fun k hk => e2 k (by omega), e3, by rw [e1 13 (by unfold pfr; decide)]; exact h.2.1, e4⟩
  obtain ⟨o4, -, -, -, -, -, -, -, o18, o22, o23, o24, o25, o27⟩ := ho
  exact e1 o ⟨o25, o27, o4, o18, o22, o23, o24⟩
theorem Scr_up {M M' : qM} {o : Nat} (h : Scr M M') (ho : sfr o) (k v : Int) : Scr (qup M o k v) (qup M' o k v) := by
  obtain ⟨e1, e2, e3, e4, e5⟩ := h
  have h4 := ho.1
  have h13 := ho.2.2.2.1
  have h18 := ho.2.2.2.2.2.2.2.2.1
  have g : ∀ (M : qM) (o' : Nat), o' ≠ o → qup M o k v o' = M o' := fun M o' h => by funext j; exact qup_o _ _ _ _ h
  refine ⟨fun o' ho' => ?_, fun j hj => by rw [g M' 4 (fun e => h4 e.symm), g M 4 (fun e => h4 e.symm)]; exact e2 j hj, by rw [g M' 4 (fun e => h4 e.symm)]; exact e3, by rw [g M' 13 (fun e => h13 e.symm)]; exact e4, by rw [g M' 18 (fun e => h18 e.symm)]; exact e5⟩
  by_cases q : o' = o
  · subst q
    funext j
    have := congrFun (e1 o' ho) j
    simp only [qup]
    rw [this]
  · rw [g M' o' q, g M o' q]; exact e1 o' ho'
theorem CI_clr {M : qM} (h : CI M) : CI (qup M 1 1 0) := by
  obtain ⟨a1, a2, a3, a4, a5, a6, a7, a8, a9, a10, a11, a12, a13, a14⟩ := h
  have e : ∀ o, o ≠ 1 → qup M 1 1 0 o = M o := fun o h1 => by funext j; exact qup_o _ _ _ _ h1
  unfold CI
  rw [e 4 (by decide), e 13 (by decide), e 18 (by decide), e 2 (by decide), e 0 (by decide), e 28 (by decide), e 30 (by decide), e 31 (by decide), e 34 (by decide), e 36 (by decide), qup_s]
  exact ⟨a1, a2, a3, ⟨by omega, by omega⟩, fun i h0 h1 => by omega, a6, a7, a8, a9, a10, a11, a12, a13, a14⟩
theorem nameV_in {I : Int → Int} {n : Int} : zR (nameV I n) := by
  unfold nameV
  by_cases h : tK I n 0 = 1 ∧ tS I n 0 = 0 ∧ tE I n 0 = n
  · rw [if_pos h]; exact word_R h.1
  · rw [if_neg h]; unfold zR; omega
section GJ
variable {M : qM} {L : Nat} {n q : Int}
set_option maxHeartbeats 4000000 in
theorem c_readToScratch (hC : CI M) (hL : M 0 10 = (L : Int)) (hLv : 1 ≤ L ∧ L ≤ 4) (hn : 0 ≤ n ∧ n ≤ M 1 1) : qCt mX7_readToScratch 0 5 [.ref 0, .int (zI n)] M (qpg (fun z M' => z = (oj (M 2) L n).1 ∧ Scr M M' ∧ (z = -1 → ∀ k, 0 ≤ k → k < p4 L → M' 4 (32 * 256 + k) = (oj (M 2) L n).2 k))) := by
  have hlen := CI_len hC
  have hok := CI_ok hC (r := 32) (by omega)
  have hby := hC.2.2.2.2.1
  refine q_intro (own := 7) (L := [some (.ref 0), some (.int (zI n)), none]) md_X7_readToScratch rfl rfl rfl (Nat.le_of_ble_eq_true rfl) (fun X => ?_)
  refine q_aload_n dX7_readToScratch_0 rfl ?_
  refine q_getr dX7_readToScratch_1 fl_7_30 rfl rfl ?_
  refine q_bipush dX7_readToScratch_4 rfl ?_
  refine q_aload_n dX7_readToScratch_6 rfl ?_
  refine q_geti (j := 10) dX7_readToScratch_7 fl_7_121 rfl rfl rfl ?_
  rw [hL]
  refine q_V2 dX7_readToScratch_10 ml_7_153 md_X4_begin (c_begin hLv.2) rfl rfl rfl (by first | decide | omega) (Nat.le_of_ble_eq_true rfl) (Nat.le_of_ble_eq_true rfl) (qk_v ?_)
  refine q_iconst dX7_readToScratch_13 ?_
  refine q_istore_n dX7_readToScratch_14 (Nat.le_of_ble_eq_true rfl) rfl ?_
  have hR0 := Rd_0 (M := M) (r := 32) (w0 := fun k => if 0 ≤ k ∧ k < 256 then M 4 (32 * 256 + k) else 0) (src := M 2) hLv.2 hok (fun k h0 h1 => if_pos ⟨h0, h1⟩)
  have hf0 : Rf M (rdw (qup (qup M 18 4 32) 18 5 (L : Int)) 32 (fun i => M 4 (32 * 256 + i)) (fup (M 22) (L : Int) 0) (M 23) (M 24) (L : Int) 0) 32 := by
    have h1 := Rf_rdw (M := qup (qup M 18 4 32) 18 5 (L : Int)) (r := 32) (o := (L : Int)) (wh := 0) (w := fun i => M 4 (32 * 256 + i)) (B := fup (M 22) (L : Int) 0) (H := M 23) (Q := M 24) hok (Or.inl rfl)
    refine ⟨fun o a1 a2 a3 a4 a5 => (h1.1 o a1 a2 a3 a4 a5).trans (by funext k; simp [qup, a2]), fun k hk => (h1.2.1 k hk).trans (by simp [qup]), h1.2.2.1, h1.2.2.2⟩
  have hs0 := Rf_Scr hC hf0
  generalize rdw (qup (qup M 18 4 32) 18 5 (L : Int)) 32 (fun i => M 4 (32 * 256 + i)) (fup (M 22) (L : Int) 0) (M 23) (M 24) (L : Int) 0 = M4 at hR0 hs0 ⊢
  refine q_lp (α := Int × qM) (fun x => (n - x.1).toNat) (fun x => 0 ≤ x.1 ∧ x.1 ≤ n ∧ Scr M x.2 ∧ Rd x.2 L 32 (fun k => if 0 ≤ k ∧ k < 256 then M 4 (32 * 256 + k) else 0) (M 2) x.1) (fun x => [some (.ref 0), some (.int (zI n)), some (.int (zI x.1))]) (fun x => x.2) (0, M4) rfl rfl ⟨by dsimp only; omega, by dsimp only; omega, hs0, hR0⟩ (fun x hx ih => ?_)
  obtain ⟨i, M5⟩ := x
  obtain ⟨x1, x2, x3, x4⟩ := hx
  dsimp only at x1 x2 x3 x4 ih ⊢
  have g1 : M5 1 = M 1 := x3.1 1 (by unfold sfr; decide)
  have g2 : M5 2 = M 2 := x3.1 2 (by unfold sfr; decide)
  have hbg : i < n → bgetV M5 1 2 i = M 2 i := fun hin => by unfold bgetV; rw [g1, g2, if_pos ⟨x1, by omega⟩]
  refine q_iload_n dX7_readToScratch_15 rfl ?_
  refine q_iload_n dX7_readToScratch_16 rfl ?_
  refine q_icmp_ge (tgt := 46) dX7_readToScratch_17 rfl (by (first | (unfold zR; omega) | (unfold zLR; omega) | omega | (simp only [zR, qup] at *; omega) | (simp [zR, qup]; omega) | (simp [zR, qup]; done))) (by (first | (unfold zR; omega) | (unfold zLR; omega) | omega | (simp only [zR, qup] at *; omega) | (simp [zR, qup]; omega) | (simp [zR, qup]; done))) (fun h17 => ?_) (fun h17 => ?_)
  rotate_left
  ·
    refine q_aload_n dX7_readToScratch_20 rfl ?_
    refine q_getr dX7_readToScratch_21 fl_7_30 rfl rfl ?_
    refine q_aload_n dX7_readToScratch_24 rfl ?_
    refine q_getr dX7_readToScratch_25 fl_7_22 rfl rfl ?_
    refine q_iload_n dX7_readToScratch_28 rfl ?_
    refine q_V1 dX7_readToScratch_29 ml_7_156 md_X1_get (c_bget (o := 1) (r := 2) (n := 700) rfl rfl (by decide) (by rw [g1]; omega) (by (first | (unfold zR; omega) | (unfold zLR; omega) | omega | (simp only [zR, qup] at *; omega) | (simp [zR, qup]; omega) | (simp [zR, qup]; done)))) rfl rfl rfl (by first | decide | omega) (Nat.le_of_ble_eq_true rfl) (Nat.le_of_ble_eq_true rfl) (qk_e ?_)
    rw [hbg h17]
    have hv := hby i x1 (by omega)
    refine q_V1 dX7_readToScratch_32 ml_7_157 md_X4_take (c_takeN hLv.2 (by omega) x4 hv rfl x1) rfl rfl rfl (by first | decide | omega) (Nat.le_of_ble_eq_true rfl) (Nat.le_of_ble_eq_true rfl) (qk_g (fun z32 N32 hq32 => ?_))
    obtain ⟨hrf, hcs⟩ := hq32
    have hS5 := Scr_tr x3 (Rf_Scr (Scr_CI hC x3) hrf)
    refine q_if_ne (tgt := 40) dX7_readToScratch_35 rfl (by rcases hcs with ⟨h, -⟩ | ⟨h, -⟩ <;> (unfold zR; omega)) (fun h35 => ?_) (fun h35 => ?_)
    ·
      refine q_iinc dX7_readToScratch_40 rfl (Nat.le_of_ble_eq_true rfl) rfl ?_
      refine q_goto (tgt := 15) dX7_readToScratch_43 rfl ?_
      rcases hcs with ⟨h, -⟩ | ⟨-, hR⟩
      · omega
      · exact ih (i + 1, N32) _ _ ⟨by dsimp only; omega, by dsimp only; omega, hS5, hR⟩ (by dsimp only; omega) rfl rfl
    ·
      refine q_iload_n dX7_readToScratch_38 rfl ?_
      refine q_ireturn dX7_readToScratch_39 ?_
      rcases hcs with ⟨-, ho⟩ | ⟨h, -⟩
      · have ho2 := ho n (by omega)
        exact ⟨i, rfl, ho2.symm, hS5, fun e => by omega⟩
      · omega
  have hie : i = n := by omega
  subst hie
  have hRo := Rd_oj hLv.2 x4
  refine q_aload_n dX7_readToScratch_46 rfl ?_
  refine q_getr dX7_readToScratch_47 fl_7_30 rfl rfl ?_
  refine q_V0 dX7_readToScratch_50 ml_7_160 md_X4_isWhole (c_isWhole (by rcases hRo with ⟨h, -⟩ | ⟨h, -⟩ <;> omega)) rfl rfl rfl (by first | decide | omega) (Nat.le_of_ble_eq_true rfl) (Nat.le_of_ble_eq_true rfl) (qk_e ?_)
  refine q_if_eq (tgt := 60) dX7_readToScratch_53 rfl (by rcases hRo with ⟨h, -⟩ | ⟨h, -⟩ <;> (unfold zR; omega)) (fun h53 => ?_) (fun h53 => ?_)
  ·
    refine q_iload_n dX7_readToScratch_60 rfl ?_
    refine q_ireturn dX7_readToScratch_61 ?_
    rcases hRo with ⟨-, h⟩ | ⟨h, -⟩
    · exact ⟨i, rfl, h.symm, x3, fun e => by omega⟩
    · omega
  ·
    refine q_iconst dX7_readToScratch_56 ?_
    refine q_goto (tgt := 61) dX7_readToScratch_57 rfl ?_
    refine q_ireturn dX7_readToScratch_61 ?_
    rcases hRo with ⟨h, -⟩ | ⟨-, h, hc, -⟩
    · omega
    · exact ⟨-1, rfl, h.symm, x3, fun _ k k0 k1 => (hc k k0 k1).symm⟩
set_option maxHeartbeats 1000000 in
theorem k_checks (hC : CI M) (hL : M 0 10 = (L : Int)) (hn : zR n) : qCt mX7_checks 2 9 [.ref 0, .int (zI n)] M (qpx (gor (gText M) (gor (gBuf M n) 0)) (fun z M' => z = (oj (M 2) L n).1 ∧ Scr (qup M 1 1 0) M') (Scr M)) := by
  refine q_intro (own := 7) (L := [some (.ref 0), some (.int (zI n)), none]) md_X7_checks rfl rfl rfl (Nat.le_of_ble_eq_true rfl) (fun X => ?_)
  refine q_aload_n dX7_checks_0 rfl ?_
  refine q_V0 dX7_checks_1 ml_7_141 md_X7_requireText (c_requireText hC) rfl rfl rfl (by first | decide | omega) (Nat.le_of_ble_eq_true rfl) (Nat.le_of_ble_eq_true rfl) (qk_G (fun hq1 => ?_) (Scr_rf hC))
  have hLv := CI_lv hC hL hq1
  refine q_aload_n dX7_checks_4 rfl ?_
  refine q_iload_n dX7_checks_5 rfl ?_
  refine q_V1 dX7_checks_6 ml_7_85 md_X7_requireBuffered (c_requireBuffered hC hn) rfl rfl rfl (by first | decide | omega) (Nat.le_of_ble_eq_true rfl) (Nat.le_of_ble_eq_true rfl) (qk_G (fun hq6 => ?_) (Scr_rf hC))
  have hnb := gBuf_0.1 hq6
  refine q_aload_n dX7_checks_9 rfl ?_
  refine q_iload_n dX7_checks_10 rfl ?_
  refine q_V1 dX7_checks_11 ml_7_150 md_X7_readToScratch (c_readToScratch hC hL hLv hnb) rfl rfl rfl (by first | decide | omega) (Nat.le_of_ble_eq_true rfl) (Nat.le_of_ble_eq_true rfl) (qk_g (fun z11 N11 hq11 => ?_))
  obtain ⟨hz, hS, -⟩ := hq11
  refine q_istore_n dX7_checks_14 (Nat.le_of_ble_eq_true rfl) rfl ?_
  refine q_aload_n dX7_checks_15 rfl ?_
  refine q_getr dX7_checks_16 fl_7_22 rfl rfl ?_
  refine q_V0 dX7_checks_19 ml_7_91 md_X1_clear (c_bclear (o := 1) (r := 2) rfl) rfl rfl rfl (by first | decide | omega) (Nat.le_of_ble_eq_true rfl) (Nat.le_of_ble_eq_true rfl) (qk_v ?_)
  refine q_iload_n dX7_checks_22 rfl ?_
  refine q_ireturn dX7_checks_23 ?_
  exact gxk rfl ⟨hz, Scr_up hS (by unfold sfr; decide) 1 0⟩
noncomputable def cntF (M : qM) (L : Nat) (q : Int) : Int := if q = 0 then M 0 11 else if q = 1 then (L : Int) else if q = 2 then 8 * p4 L else zsum (fun k => tsz (rowc M k) L 0) 0 (M 0 11).toNat
set_option maxHeartbeats 1000000 in
theorem k_count (hC : CI M) (hL : M 0 10 = (L : Int)) (hq : zR q) : qCt mX7_count 2 9 [.ref 0, .int (zI q)] M (qpx (gor (gText M) (gor (if 0 ≤ q ∧ q ≤ 3 then 0 else 3) 0)) (fun z M' => z = cntF M L q ∧ Scr M M') (Scr M)) := by
  refine q_intro (own := 7) (L := [some (.ref 0), some (.int (zI q))]) md_X7_count rfl rfl rfl (Nat.le_of_ble_eq_true rfl) (fun X => ?_)
  refine q_aload_n dX7_count_0 rfl ?_
  refine q_V0 dX7_count_1 ml_7_141 md_X7_requireText (c_requireText hC) rfl rfl rfl (by first | decide | omega) (Nat.le_of_ble_eq_true rfl) (Nat.le_of_ble_eq_true rfl) (qk_G (fun hq1 => ?_) (Scr_rf hC))
  have hLv := CI_lv hC hL hq1
  refine q_iload_n dX7_count_4 rfl ?_
  by_cases hs5_0 : q = 0
  ·
    refine q_tableIn (tgt := 36) dX7_count_5 (by (first | (unfold zR; omega) | (unfold zLR; omega) | omega | (simp only [zR, qup] at *; omega) | (simp [zR, qup]; omega) | (simp [zR, qup]; done))) (by omega) (by omega) (by rw [hs5_0]; rfl) rfl ?_
    refine q_G0 (if_pos (by omega)) ?_
    refine q_aload_n dX7_count_36 rfl ?_
    refine q_geti (j := 11) dX7_count_37 fl_7_111 rfl rfl rfl ?_
    refine q_ireturn dX7_count_40 ?_
    exact gxk rfl ⟨by unfold cntF; rw [if_pos (by omega)], Scr_rf hC⟩
  by_cases hs5_1 : q = 1
  ·
    refine q_tableIn (tgt := 41) dX7_count_5 (by (first | (unfold zR; omega) | (unfold zLR; omega) | omega | (simp only [zR, qup] at *; omega) | (simp [zR, qup]; omega) | (simp [zR, qup]; done))) (by omega) (by omega) (by rw [hs5_1]; rfl) rfl ?_
    refine q_G0 (if_pos (by omega)) ?_
    refine q_aload_n dX7_count_41 rfl ?_
    refine q_geti (j := 10) dX7_count_42 fl_7_121 rfl rfl rfl ?_
    refine q_ireturn dX7_count_45 ?_
    exact gxk rfl ⟨by unfold cntF; rw [if_neg (by omega), if_pos (by omega)]; exact hL, Scr_rf hC⟩
  by_cases hs5_2 : q = 2
  ·
    refine q_tableIn (tgt := 46) dX7_count_5 (by (first | (unfold zR; omega) | (unfold zLR; omega) | omega | (simp only [zR, qup] at *; omega) | (simp [zR, qup]; omega) | (simp [zR, qup]; done))) (by omega) (by omega) (by rw [hs5_2]; rfl) rfl ?_
    refine q_G0 (if_pos (by omega)) ?_
    refine q_bipush dX7_count_46 rfl ?_
    refine q_aload_n dX7_count_48 rfl ?_
    refine q_geti (j := 10) dX7_count_49 fl_7_121 rfl rfl rfl ?_
    rw [hL]
    refine q_S1 dX7_count_52 ml_7_164 md_X7_cellsIn (c_cellsIn (by omega)) rfl (by first | decide | omega) (Nat.le_of_ble_eq_true rfl) (Nat.le_of_ble_eq_true rfl) (qk_e ?_)
    refine q_imul dX7_count_55 ?_
    refine q_ireturn dX7_count_56 ?_
    exact gxk rfl ⟨by unfold cntF; rw [if_neg (by omega), if_neg (by omega), if_pos (by omega)], Scr_rf hC⟩
  by_cases hs5_3 : q = 3
  ·
    refine q_tableIn (tgt := 57) dX7_count_5 (by (first | (unfold zR; omega) | (unfold zLR; omega) | omega | (simp only [zR, qup] at *; omega) | (simp [zR, qup]; omega) | (simp [zR, qup]; done))) (by omega) (by omega) (by rw [hs5_3]; rfl) rfl ?_
    refine q_G0 (if_pos (by omega)) ?_
    refine q_aload_n dX7_count_57 rfl ?_
    refine q_V0 dX7_count_58 ml_7_167 md_X7_sizeOfAll (c_sizeOfAll hC hL hLv) rfl rfl rfl (by first | decide | omega) (Nat.le_of_ble_eq_true rfl) (Nat.le_of_ble_eq_true rfl) (qk_g (fun z58 N58 hq58 => ?_))
    obtain ⟨hz, hS⟩ := hq58
    refine q_ireturn dX7_count_61 ?_
    exact gxk rfl ⟨by unfold cntF; rw [if_neg (by omega), if_neg (by omega), if_neg (by omega)]; exact hz, hS⟩
  refine q_tableOut (tgt := 62) dX7_count_5 (by (first | (unfold zR; omega) | (unfold zLR; omega) | omega | (simp only [zR, qup] at *; omega) | (simp [zR, qup]; omega) | (simp [zR, qup]; done))) (by omega) rfl ?_
  refine qt_X7_count_62 (Nat.le_of_ble_eq_true rfl) ?_
  exact gxt3 (by rw [if_neg (by omega)]; rfl) (Scr_rf hC)
set_option maxHeartbeats 1000000 in
theorem k_parseError : qCt mX7_parseError 0 9 [.ref 0] M (qpe (M 0 12) M) := by
  refine q_intro (own := 7) (L := [some (.ref 0)]) md_X7_parseError rfl rfl rfl (Nat.le_of_ble_eq_true rfl) (fun X => ?_)
  refine q_aload_n dX7_parseError_0 rfl ?_
  refine q_geti (j := 12) dX7_parseError_1 fl_7_97 rfl rfl rfl ?_
  refine q_ireturn dX7_parseError_4 ?_
  exact ⟨rfl, rfl⟩
set_option maxHeartbeats 1000000 in
theorem k_errorPosition : qCt mX7_errorPosition 0 9 [.ref 0] M (qpe (M 0 13) M) := by
  refine q_intro (own := 7) (L := [some (.ref 0)]) md_X7_errorPosition rfl rfl rfl (Nat.le_of_ble_eq_true rfl) (fun X => ?_)
  refine q_aload_n dX7_errorPosition_0 rfl ?_
  refine q_geti (j := 13) dX7_errorPosition_1 fl_7_70 rfl rfl rfl ?_
  refine q_ireturn dX7_errorPosition_4 ?_
  exact ⟨rfl, rfl⟩
set_option maxHeartbeats 1000000 in
theorem k_buffered : qCt mX7_buffered 0 9 [.ref 0] M (qpe (M 1 1) M) := by
  refine q_intro (own := 7) (L := [some (.ref 0)]) md_X7_buffered rfl rfl rfl (Nat.le_of_ble_eq_true rfl) (fun X => ?_)
  refine q_aload_n dX7_buffered_0 rfl ?_
  refine q_getr dX7_buffered_1 fl_7_22 rfl rfl ?_
  refine q_V0 dX7_buffered_4 ml_7_81 md_X1_length (c_blength (o := 1) (r := 2) rfl) rfl rfl rfl (by first | decide | omega) (Nat.le_of_ble_eq_true rfl) (Nat.le_of_ble_eq_true rfl) (qk_e ?_)
  refine q_ireturn dX7_buffered_7 ?_
  exact ⟨rfl, rfl⟩
set_option maxHeartbeats 1000000 in
theorem k_undoable : qCt mX7_undoable 0 9 [.ref 0] M (qpe (M 28 3) M) := by
  refine q_intro (own := 7) (L := [some (.ref 0)]) md_X7_undoable rfl rfl rfl (Nat.le_of_ble_eq_true rfl) (fun X => ?_)
  refine q_aload_n dX7_undoable_0 rfl ?_
  refine q_getr dX7_undoable_1 fl_7_53 rfl rfl ?_
  refine q_V0 dX7_undoable_4 ml_7_312 md_X2_length c_hlength rfl rfl rfl (by first | decide | omega) (Nat.le_of_ble_eq_true rfl) (Nat.le_of_ble_eq_true rfl) (qk_e ?_)
  refine q_ireturn dX7_undoable_7 ?_
  exact ⟨rfl, rfl⟩
set_option maxHeartbeats 2000000 in
theorem k_find (hC : CI M) (hL : M 0 10 = (L : Int)) (hn : zR n) : qCt mX7_find 2 9 [.ref 0, .int (zI n)] M (qpx (gor (gText M) (gor (gBuf M n) 0)) (fun z M' => frst (fun i => nameV (M 2) n ≠ -1 ∧ M 34 i = nameV (M 2) n) 0 (M 0 11) z ∧ Scr (qup M 1 1 0) M') (Scr M)) := by
  have hlen := CI_len hC
  have hby := hC.2.2.2.2.1
  have hmp := CI_maps hC
  have hnz := hC.2.2.2.2.2.2.2.2.2.2.2.2.1
  refine q_intro (own := 7) (L := [some (.ref 0), some (.int (zI n)), none, none]) md_X7_find rfl rfl rfl (Nat.le_of_ble_eq_true rfl) (fun X => ?_)
  refine q_aload_n dX7_find_0 rfl ?_
  refine q_V0 dX7_find_1 ml_7_141 md_X7_requireText (c_requireText hC) rfl rfl rfl (by first | decide | omega) (Nat.le_of_ble_eq_true rfl) (Nat.le_of_ble_eq_true rfl) (qk_G (fun hq1 => ?_) (Scr_rf hC))
  have hLv := CI_lv hC hL hq1
  refine q_aload_n dX7_find_4 rfl ?_
  refine q_iload_n dX7_find_5 rfl ?_
  refine q_V1 dX7_find_6 ml_7_85 md_X7_requireBuffered (c_requireBuffered hC hn) rfl rfl rfl (by first | decide | omega) (Nat.le_of_ble_eq_true rfl) (Nat.le_of_ble_eq_true rfl) (qk_G (fun hq6 => ?_) (Scr_rf hC))
  have hnb := gBuf_0.1 hq6
  have hB : inB M (M 2) n := ⟨hnb.1, hnb.2, hlen.2, fun i h0 h1 => ⟨rfl, hby i h0 (by omega)⟩⟩
  refine q_aload_n dX7_find_9 rfl ?_
  refine q_getr dX7_find_10 fl_7_46 rfl rfl ?_
  refine q_iload_n dX7_find_13 rfl ?_
  refine q_V1 dX7_find_14 ml_7_144 md_X3_nameIn (c_nameIn hB) rfl rfl rfl (by first | decide | omega) (Nat.le_of_ble_eq_true rfl) (Nat.le_of_ble_eq_true rfl) (qk_e ?_)
  have hS : Scr (qup M 1 1 0) (qup (adv (qup (qup M 25 4 n) 25 5 0) (M 2) n 0) 1 1 0) := Scr_up (PF_Scr hC (PF_25 (M := qup (qup M 25 4 n) 25 5 0) (PF_25 (PF_25 ⟨fun _ _ => rfl, fun _ _ => rfl, hC.1, hC.2.2.1⟩ up25_o) up25_o) adv_o)) (by unfold sfr; decide) 1 0
  have hS2 : ∀ o, sfr o → o ≠ 1 → qup (adv (qup (qup M 25 4 n) 25 5 0) (M 2) n 0) 1 1 0 o = M o := fun o h1 h2 => (hS.1 o h1).trans (by funext j; exact qup_o _ _ _ _ h2)
  have hnv := nameV_in (I := M 2) (n := n)
  generalize hnm : nameV (M 2) n = nm at hnv
  refine q_istore_n dX7_find_17 (Nat.le_of_ble_eq_true rfl) rfl ?_
  refine q_aload_n dX7_find_18 rfl ?_
  refine q_getr dX7_find_19 fl_7_22 rfl rfl ?_
  refine q_V0 dX7_find_22 ml_7_91 md_X1_clear (c_bclear (o := 1) (r := 2) rfl) rfl rfl rfl (by first | decide | omega) (Nat.le_of_ble_eq_true rfl) (Nat.le_of_ble_eq_true rfl) (qk_v ?_)
  generalize qup (adv (qup (qup M 25 4 n) 25 5 0) (M 2) n 0) 1 1 0 = M1 at hS hS2 ⊢
  refine q_iconst dX7_find_25 ?_
  refine q_istore_n dX7_find_26 (Nat.le_of_ble_eq_true rfl) rfl ?_
  refine q_lp (fun i : Int => (M 0 11 - i).toNat) (fun i => 0 ≤ i ∧ i ≤ M 0 11 ∧ ∀ j, 0 ≤ j → j < i → ¬ (nm ≠ -1 ∧ M 34 j = nm)) (fun i => [some (.ref 0), some (.int (zI n)), some (.int (zI nm)), some (.int (zI i))]) (fun _ => M1) 0 rfl rfl ⟨by omega, by omega, fun j q1 q2 => by omega⟩ (fun i hi ih => ?_)
  refine q_iload_n dX7_find_27 rfl ?_
  refine q_aload_n dX7_find_28 rfl ?_
  refine q_geti (j := 11) dX7_find_29 fl_7_111 rfl rfl rfl ?_
  rw [hS2 0 (by unfold sfr; decide) (by decide)]
  refine q_icmp_ge (tgt := 60) dX7_find_32 rfl (by (first | (unfold zR; omega) | (unfold zLR; omega) | omega | (simp only [zR, qup] at *; omega) | (simp [zR, qup]; omega) | (simp [zR, qup]; done))) (by (first | (unfold zR; omega) | (unfold zLR; omega) | omega | (simp only [zR, qup] at *; omega) | (simp [zR, qup]; omega) | (simp [zR, qup]; done))) (fun h32 => ?_) (fun h32 => ?_)
  rotate_left
  ·
    refine q_iload_n dX7_find_35 rfl ?_
    refine q_iconst dX7_find_36 ?_
    refine q_icmp_eq (tgt := 54) dX7_find_37 rfl (by (first | (unfold zR; omega) | (unfold zLR; omega) | omega | (simp only [zR, qup] at *; omega) | (simp [zR, qup]; omega) | (simp [zR, qup]; done))) (by (first | (unfold zR; omega) | (unfold zLR; omega) | omega | (simp only [zR, qup] at *; omega) | (simp [zR, qup]; omega) | (simp [zR, qup]; done))) (fun h37 => ?_) (fun h37 => ?_)
    ·
      refine q_iinc dX7_find_54 rfl (Nat.le_of_ble_eq_true rfl) rfl ?_
      refine q_goto (tgt := 27) dX7_find_57 rfl ?_
      exact ih (i + 1) _ _ ⟨by omega, by omega, fun j q1 q2 q3 => q3.1 h37⟩ (by omega) rfl rfl
    refine q_aload_n dX7_find_40 rfl ?_
    refine q_getr dX7_find_41 fl_7_63 rfl rfl ?_
    refine q_iload_n dX7_find_44 rfl ?_
    refine q_V1 dX7_find_45 ml_7_147 md_X5_get (c_rget (o := 33) (r := 34) (n := 6) rfl rfl (by decide) (by omega)) rfl rfl rfl (by first | decide | omega) (Nat.le_of_ble_eq_true rfl) (Nat.le_of_ble_eq_true rfl) (qk_e ?_)
    rw [hS2 34 (by unfold sfr; decide) (by decide)]
    have hz34 := hnz i hi.1 (by omega)
    refine q_iload_n dX7_find_48 rfl ?_
    refine q_icmp_ne (tgt := 54) dX7_find_49 rfl (by (first | (unfold zR; omega) | (unfold zLR; omega) | omega | (simp only [zR, qup] at *; omega) | (simp [zR, qup]; omega) | (simp [zR, qup]; done))) (by (first | (unfold zR; omega) | (unfold zLR; omega) | omega | (simp only [zR, qup] at *; omega) | (simp [zR, qup]; omega) | (simp [zR, qup]; done))) (fun h49 => ?_) (fun h49 => ?_)
    ·
      refine q_iinc dX7_find_54 rfl (Nat.le_of_ble_eq_true rfl) rfl ?_
      refine q_goto (tgt := 27) dX7_find_57 rfl ?_
      exact ih (i + 1) _ _ ⟨by omega, by omega, fun j q1 q2 q3 => by
        by_cases q4 : j = i
        · subst q4; exact h49 q3.2
        · exact hi.2.2 j q1 (by omega) q3⟩ (by omega) rfl rfl
    ·
      refine q_iload_n dX7_find_52 rfl ?_
      refine q_ireturn dX7_find_53 ?_
      exact gxk rfl ⟨Or.inr ⟨hi.1, h32, ⟨h37, h49⟩, hi.2.2⟩, hS⟩
  refine q_iconst dX7_find_60 ?_
  refine q_ireturn dX7_find_61 ?_
  exact gxk rfl ⟨Or.inl ⟨rfl, fun j q1 q2 => hi.2.2 j q1 (by omega)⟩, hS⟩
end GJ


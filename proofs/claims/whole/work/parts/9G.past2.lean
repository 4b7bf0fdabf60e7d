/-! What the class answers the model answers: undo, save, restore, read, append. -/
def Wr (E : String) (c : Int) : Prop := (E = qEIOE ∧ c = 1) ∨ (E = qEISE ∧ c = 2)
section PG
variable {M : qM} {L : Nat} {k n p q i s a b c d e : Int}
theorem p_undo (hI : Inv M) : qPr W1 mX7_undo mX8_undo 1 9 1 [] M := by
  obtain ⟨hC, hM, _⟩ := id hI
  obtain ⟨L, hR, hL4, h6, h11⟩ := Inv_L hI
  have h13 := hR.2.2.2.2.2.2.2.2.2.2.2.2.1
  refine pr_c (R' := fun M1 z' M2 => _) hI (k_undo hC) (fun z M1 q o ho => by rw [q.2]; exact gob_o (by omega) (by omega)) (fun M1 i l => o_undo i) (fun M1 e37 es e => ?_) (fun z M1 z' M2 es e37 e g q q' => ?_)
  · rw [e37, gor_z, h13]
    by_cases w : 0 < M 37 7
    · rw [if_pos w]; exact ⟨fun _ => rfl, fun h => absurd rfl h⟩
    · rw [if_neg w]; exact ⟨fun h => by omega, fun _ => ⟨by decide, rfl, rfl⟩⟩
  · obtain ⟨q1, rfl⟩ := q
    obtain ⟨q3, rfl⟩ := q'
    have h0 : 0 < M 28 3 := by
      by_cases w : 0 < M 28 3
      · exact w
      · rw [gor_z, if_neg w] at g; omega
    exact ⟨by rw [q3, q1, e37, h13], unD_0, Inv_un hI h0⟩
theorem svD_S {A M1 : qM} (e : ∀ o, 37 ≤ o → M1 o = A o) {o : Nat} (ho : 37 ≤ o) : svD M1 s o = svD A s o := by
  funext j
  unfold svD kpW qup
  simp only [e 39 (by decide), e o ho]
theorem reD_S {A M1 : qM} (e : ∀ o, 37 ≤ o → M1 o = A o) {o : Nat} (ho : 37 ≤ o) : reD M1 s o = reD A s o := by
  funext j
  unfold reD stW qup
  simp only [e 40 (by decide), e o ho]
set_option maxHeartbeats 1000000 in
theorem p_save (hI : Inv M) (hs : zR s) : qPr W2 mX7_save mX8_save 2 9 10 [.int (zI s)] M := by
  obtain ⟨hC, hM, _⟩ := id hI
  obtain ⟨L, hR, hL4, h6, h11⟩ := Inv_L hI
  have fA : ∀ M1, Scr (svA M s) M1 → ∀ o, 37 ≤ o → M1 o = svA M s o := fun M1 h o ho => h.1 o (by unfold sfr; omega)
  refine pr_c (R' := fun M1 z' M2 => _) hI (k_save hC hR.1 hs) (fun z M1 q o ho => by rw [fA M1 q.2 o ho]; exact svA_o (by omega) (by omega)) (fun M1 i l => o_save i (by rw [l]; exact hR.2.1) hs) (fun M1 e37 es e => ?_) (fun z M1 z' M2 es e37 e g q q' => ?_)
  · refine gq2 ?_ (rg2_gor rgT (rg2_gor rgS rg2_0))
    rw [gT_e hR, gor_z]
    unfold mT
    rw [e37]
  · obtain ⟨q1, q2⟩ := q
    obtain ⟨q3, q4⟩ := q'
    simp only [gor_00] at g
    have hsl := gS_in g.2.1
    have hI2 : Inv (svD M1 s) := Inv_Scr (Inv_sv hI hsl (gT_in g.1)) (Scr_D (A := svA M s) q2 (fun o ho => svD_o (by omega) (by omega) (by omega)) (fun o ho => svD_o (by omega) (by omega) (by omega)) (fun o ho => svD_S (fA M1 q2) ho))
    refine ⟨?_, by rw [MS_0 q4]; exact svD_0, Inv_MS hI2 q4⟩
    rw [q3, q1, es, e37, h11, zsum_congr (f := fun k => tsz (rowc M k) L 0) (g := fun k => tsz (scl M k) L 0) (fun i i0 i1 => tsz_eL hL4 (R_c hR ⟨i0, by omega⟩))]
set_option maxHeartbeats 1000000 in
theorem p_restore (hI : Inv M) (hs : zR s) : qPr Wr mX7_restore mX8_restore 2 9 10 [.int (zI s)] M := by
  obtain ⟨hC, hM, _⟩ := id hI
  obtain ⟨L, hR, hL4, h6, h11⟩ := Inv_L hI
  have h15 := hR.2.2.2.2.2.2.2.2.2.2.2.2.2.2.1
  have h16 := hR.2.2.2.2.2.2.2.2.2.2.2.2.2.2.2
  have fA : ∀ M1, Scr (reA M s) M1 → ∀ o, 37 ≤ o → M1 o = reA M s o := fun M1 h o ho => h.1 o (by unfold sfr; omega)
  refine pr_c (R' := fun M1 z' M2 => _) hI (k_restore hC hR.1 hs) (fun z M1 q o ho => by rw [fA M1 q.2 o ho]; exact reA_o (by omega) (by omega)) (fun M1 i l => o_restore i (by rw [l]; exact hR.2.1) hs) (fun M1 e37 es e => ?_) (fun z M1 z' M2 es e37 e g q q' => ?_)
  · rw [gor_z, e 41 (by decide)]
    unfold gSlot
    by_cases w : 0 ≤ s ∧ s < 2
    · rw [if_pos w, if_pos w, gor_0 rfl, gor_0 rfl, h15 s w.1 w.2]
      by_cases w2 : M 41 s ≠ 0
      · rw [if_pos w2, if_pos w2]; exact ⟨fun _ => rfl, fun h => absurd rfl h⟩
      · rw [if_neg w2, if_neg w2]; exact ⟨fun h => by omega, fun _ => ⟨by decide, Or.inr ⟨rfl, rfl⟩⟩⟩
    · rw [if_neg w, if_neg w, gor_n (by decide), gor_n (by decide)]
      exact ⟨fun h => by omega, fun _ => ⟨by decide, Or.inl ⟨rfl, rfl⟩⟩⟩
  · obtain ⟨q1, q2⟩ := q
    obtain ⟨q3, q4⟩ := q'
    simp only [gor_00] at g
    have hsl := gS_in g.1
    have h41 : M 41 s ≠ 0 := by
      rw [← h15 s hsl.1 hsl.2]
      by_cases w2 : M 36 s ≠ 0
      · exact w2
      · have := g.2.1; rw [if_neg w2] at this; omega
    have hI2 : Inv (reD M1 s) := Inv_Scr (Inv_re hI hsl h41) (Scr_D (A := reA M s) q2 (fun o ho => reD_o (by omega) (by omega)) (fun o ho => reD_o (by omega) (by omega)) (fun o ho => reD_S (fA M1 q2) ho))
    refine ⟨?_, by rw [MS_0 q4]; exact reD_0, Inv_MS hI2 q4⟩
    rw [q3, q1, e 40 (by decide), e37, h11]
    exact zsum_congr (fun i i0 i1 => (tsz_eL hL4 (h16 s i hsl.1 hsl.2 h41 i0 (by omega))).symm)
theorem zand_255 (w : Int) : 0 ≤ zand w 255 ∧ zand w 255 < 256 := by
  unfold zand
  have h : (zI w &&& zI 255).toInt = ((zI w).toBitVec &&& (zI 255).toBitVec).toInt := rfl
  have h2 : ((zI w).toBitVec &&& (zI 255).toBitVec).toNat ≤ 255 := by
    rw [BitVec.toNat_and]
    exact Nat.le_trans Nat.and_le_right (by decide)
  rw [h, BitVec.toInt_eq_toNat_of_lt (by omega)]
  omega
theorem bputs_2 : ∀ (l : List Int) (M : qM) (j : Int), bputs M 1 2 l 2 j = if M 1 1 ≤ j ∧ j < M 1 1 + l.length then l.getD (j - M 1 1).toNat 0 else M 2 j := by
  intro l
  induction l with
  | nil => intro M j; rw [if_neg (fun w => by have := w.2; simp at this; omega)]; rfl
  | cons v t ih =>
    intro M j
    have e1 : bput M 1 2 v 1 1 = M 1 1 + 1 := bput_len
    have e2 : bput M 1 2 v 2 j = if j = M 1 1 then v else M 2 j := by simp [bput, qup]
    show bputs (bput M 1 2 v) 1 2 t 2 j = _
    rw [ih, e1, e2]
    by_cases g : j = M 1 1
    · rw [if_neg (by omega), if_pos g, if_pos (by rw [List.length_cons]; omega), g, Int.sub_self]
      rfl
    · rw [if_neg g]
      by_cases w : M 1 1 + 1 ≤ j ∧ j < M 1 1 + 1 + (t.length : Int)
      · rw [if_pos w, if_pos (by rw [List.length_cons]; omega), show (j - M 1 1).toNat = (j - (M 1 1 + 1)).toNat + 1 by omega]
        rfl
      · rw [if_neg w, if_neg (by rw [List.length_cons]; omega)]
theorem wl5_in : ∀ v ∈ wl5 a b c d e, 0 ≤ v ∧ v < 256 := by
  intro v hv
  simp only [wl5, wl, List.mem_append, List.mem_cons, List.not_mem_nil, or_false] at hv
  rcases hv with (rfl | rfl | rfl | rfl) | (rfl | rfl | rfl | rfl) | (rfl | rfl | rfl | rfl) | (rfl | rfl | rfl | rfl) | (rfl | rfl | rfl | rfl) <;> exact zand_255 _
theorem getD_in {l : List Int} (h : ∀ v ∈ l, 0 ≤ v ∧ v < 256) (m : Nat) : 0 ≤ l.getD m 0 ∧ l.getD m 0 < 256 := by
  rw [List.getD_eq_getElem?_getD]
  cases g : l[m]? with
  | none => exact ⟨Int.le_refl 0, by decide⟩
  | some v => exact h v (List.mem_of_getElem? g)
/-- what both append -/
def apD (M : qM) (F : Int → Int) : qM := qup (apW (qup M 37 0 0) F 20) 37 21 (M 37 21 + 20)
theorem apD_o {F : Int → Int} {o : Nat} (h37 : o ≠ 37) (h48 : o ≠ 48) : apD M F o = M o := by
  funext j
  simp [apD, qup, apW, h37, h48]
theorem apD_37 {F : Int → Int} (h : k ≠ 0) (h' : k ≠ 21) : apD M F 37 k = M 37 k := by
  simp [apD, qup, apW, h, h']
theorem apD_0 {F : Int → Int} : apD M F 37 0 = 0 := by
  simp [apD, qup, apW]
theorem apD_21 {F : Int → Int} : apD M F 37 21 = M 37 21 + 20 := qup_s _ _ _ _
theorem apD_48 {F : Int → Int} {j : Int} : apD M F 48 j = if M 37 21 ≤ j ∧ j < M 37 21 + 20 then F (j - M 37 21) else M 48 j := by
  simp [apD, qup, apW]
set_option maxHeartbeats 1000000 in
theorem Inv_ap (hI : Inv M) (h : M 1 1 + 20 ≤ 700) : Inv (apD (bputs M 1 2 (wl5 a b c d e)) (apF a b c d e)) := by
  obtain ⟨hC, hM, L, hR⟩ := id hI
  obtain ⟨a1, a2, a3, a4, a5, a6, a7, a8, a9, a10, a11, a12, a13, a14, a15, a16⟩ := id hR
  have hl : (wl5 a b c d e).length = 20 := rfl
  have hf : ∀ o, o ≠ 1 → o ≠ 2 → bputs M 1 2 (wl5 a b c d e) o = M o := fun o h1 h2 => by funext j; exact bputs_o h1 h2 _ _ _
  have g : ∀ o, o < 37 → apD (bputs M 1 2 (wl5 a b c d e)) (apF a b c d e) o = bputs M 1 2 (wl5 a b c d e) o := fun o ho => apD_o (by omega) (by omega)
  have f : ∀ o, o ≠ 1 → o ≠ 2 → o ≠ 37 → o ≠ 48 → apD (bputs M 1 2 (wl5 a b c d e)) (apF a b c d e) o = M o := fun o h1 h2 h3 h4 => by rw [apD_o h3 h4, hf o h1 h2]
  have f37 : ∀ j, j ≠ 0 → j ≠ 21 → apD (bputs M 1 2 (wl5 a b c d e)) (apF a b c d e) 37 j = M 37 j := fun j h1 h2 => by rw [apD_37 h1 h2, hf 37 (by decide) (by decide)]
  have f21 : apD (bputs M 1 2 (wl5 a b c d e)) (apF a b c d e) 37 21 = M 37 21 + 20 := by rw [apD_21, hf 37 (by decide) (by decide)]
  have e11 : bputs M 1 2 (wl5 a b c d e) 1 1 = M 1 1 + 20 := by rw [bputs_len, hl]; rfl
  have e2 : ∀ j, bputs M 1 2 (wl5 a b c d e) 2 j = if M 1 1 ≤ j ∧ j < M 1 1 + 20 then (wl5 a b c d e).getD (j - M 1 1).toNat 0 else M 2 j := fun j => by rw [bputs_2, hl]; rfl
  have e48 : ∀ j, apD (bputs M 1 2 (wl5 a b c d e)) (apF a b c d e) 48 j = bputs M 1 2 (wl5 a b c d e) 2 j := fun j => by
    rw [apD_48, e2, hf 37 (by decide) (by decide), hf 48 (by decide) (by decide), a7, a8]
    rfl
  have hb := hC.2.2.2.2.1
  have h0 := hC.2.2.2.1
  have hby : ∀ i, 0 ≤ i → i < M 1 1 + 20 → 0 ≤ bputs M 1 2 (wl5 a b c d e) 2 i ∧ bputs M 1 2 (wl5 a b c d e) 2 i < 256 := fun i i0 i1 => by
    rw [e2]
    by_cases w : M 1 1 ≤ i ∧ i < M 1 1 + 20
    · rw [if_pos w]; exact getD_in wl5_in _
    · rw [if_neg w]; exact hb i i0 (by omega)
  refine ⟨CI_o g ?_, MI_b hM (fun j hj => f37 j (by omega) (by omega)) (f 38 (by decide) (by decide) (by decide) (by decide)) (f 39 (by decide) (by decide) (by decide) (by decide)) (f 40 (by decide) (by decide) (by decide) (by decide)) (f 41 (by decide) (by decide) (by decide) (by decide)) (by rw [f21]; omega) (fun i i0 i1 => by rw [f21] at i1; rw [e48]; exact hby i i0 (by omega)) (by rw [f37 35 (by decide) (by decide)]; exact hM.2.2.2.2.2.2.2.2.2.2.1), L, qRl_b (fun o ho h1 h2 _ _ => f o h1 h2 (by omega) (by omega)) (fun j hj => f37 j (by omega) (by omega)) (f 38 (by decide) (by decide) (by decide) (by decide)) (f 39 (by decide) (by decide) (by decide) (by decide)) (f 40 (by decide) (by decide) (by decide) (by decide)) (f 41 (by decide) (by decide) (by decide) (by decide)) ?_ ?_ ?_ ?_ hR⟩
  · obtain ⟨c1, c2, c3, c4, c5, c6, c7, c8, c9, c10, c11, c12, c13, c14, c15⟩ := hC
    unfold CI
    rw [e11, hf 4 (by decide) (by decide), hf 13 (by decide) (by decide), hf 18 (by decide) (by decide), hf 0 (by decide) (by decide), hf 28 (by decide) (by decide), hf 30 (by decide) (by decide), hf 31 (by decide) (by decide), hf 34 (by decide) (by decide), hf 36 (by decide) (by decide)]
    exact ⟨c1, c2, c3, by omega, hby, c6, c7, c8, c9, c10, c11, c12, c13, c14, c15⟩
  · rw [g 1 (by decide), e11, f21, a7]
  · rw [g 2 (by decide)]
    funext j
    exact (e48 j).symm
  · rw [f 31 (by decide) (by decide) (by decide) (by decide), f37 35 (by decide) (by decide)]; exact a9
  · rw [f 32 (by decide) (by decide) (by decide) (by decide), f 51 (by decide) (by decide) (by decide) (by decide)]; exact a10
theorem p_append (hI : Inv M) : qPr W0 mX7_append mX8_append 0 9 0 [.int (zI a), .int (zI b), .int (zI c), .int (zI d), .int (zI e)] M := by
  obtain ⟨hC, hM, _⟩ := id hI
  obtain ⟨L, hR, hL4, h6, h11⟩ := Inv_L hI
  have h7 := hR.2.2.2.2.2.2.1
  refine ⟨_, k_append hC, fun v M1 q => ?_, fun E M1 q => q.elim⟩
  obtain ⟨z, rfl, q⟩ := q
  rcases q with ⟨q1, q2, q3⟩ | ⟨q1, q2, q3⟩
  · have f : ∀ o, o ≠ 1 → o ≠ 2 → M1 o = M o := fun o h1 h2 => by funext j; rw [q3]; exact bputs_o h1 h2 _ _ _
    refine ⟨z, rfl, qCt_mono (o_append (MI_o (fun o ho => f o (by omega) (by omega)) hM)) (fun v M2 w => ?_) (fun _ _ w => w.elim)⟩
    obtain ⟨z', rfl, w⟩ := w
    rw [f 37 (by decide) (by decide)] at w
    rcases w with ⟨w1, w2, w3⟩ | ⟨w1, _⟩
    · refine ⟨z', rfl, by omega, ?_, ?_⟩
      · rw [MS_0 w3]
        rw [qup_k _ _ _ (by decide)]
        unfold apW
        rw [if_neg (fun w => by have := w.1; omega), qup_s]
      · refine Inv_MS (?_ : Inv (qup (apW (qup M1 37 0 0) (apF a b c d e) 20) 37 21 (M 37 21 + 20))) w3
        have := Inv_ap (a := a) (b := b) (c := c) (d := d) (e := e) hI q1
        unfold apD at this
        rw [← q3, f 37 (by decide) (by decide)] at this
        exact this
    · exact absurd (by omega) w1
  · subst q3
    refine ⟨z, rfl, qCt_mono (o_append hM) (fun v M2 w => ?_) (fun _ _ w => w.elim)⟩
    obtain ⟨z', rfl, w⟩ := w
    rcases w with ⟨w1, _⟩ | ⟨w1, w2, w3⟩
    · exact absurd (by omega) q1
    · exact ⟨z', rfl, by omega, by rw [MS_0 w3, qup_s], Inv_MS (Inv_0 hI 0) w3⟩
end PG


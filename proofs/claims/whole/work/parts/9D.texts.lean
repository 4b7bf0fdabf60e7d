/-! What the class answers the model answers: texts, the input. -/
theorem qRl_b {M N : qM} {L : Nat} (h : ∀ o, o < 37 → o ≠ 1 → o ≠ 2 → o ≠ 31 → o ≠ 32 → N o = M o) (h37 : ∀ k, (k = 1 ∨ k = 2 ∨ k = 3 ∨ k = 7 ∨ k = 22 ∨ k = 23) → N 37 k = M 37 k) (h38 : N 38 = M 38) (h39 : N 39 = M 39) (h40 : N 40 = M 40) (h41 : N 41 = M 41) (c7 : N 1 1 = N 37 21) (c8 : N 2 = N 48) (c9 : N 31 1 = N 37 35) (c10 : N 32 = N 51) (hR : qRl M L) : qRl N L := by
  have hV : ∀ j k, Vr N j k = Vr M j k := by
    intro j
    induction j with
    | zero => intro k; show rowc N k = rowc M k; unfold rowc; rw [h 4 (by decide) (by decide) (by decide) (by decide) (by decide)]
    | succ j ih => intro k; rw [Vr_s, Vr_s, h 30 (by decide) (by decide) (by decide) (by decide) (by decide), h 28 (by decide) (by decide) (by decide) (by decide) (by decide), ih k]; unfold rowc; rw [h 4 (by decide) (by decide) (by decide) (by decide) (by decide)]
  have hrow : ∀ r, rowc N r = rowc M r := fun r => by unfold rowc; rw [h 4 (by decide) (by decide) (by decide) (by decide) (by decide)]
  have hsto : ∀ st k, sto N st k = sto M st k := fun st k => by unfold sto; rw [h40]
  have hscl : ∀ k, scl N k = scl M k := fun k => by unfold scl; rw [h39]
  obtain ⟨a1, a2, a3, a4, a5, a6, a7, a8, a9, a10, a11, a12, a13, a14, a15, a16⟩ := hR
  unfold qRl
  simp only [hV, hrow, hsto, hscl]
  rw [h 0 (by decide) (by decide) (by decide) (by decide) (by decide), h 28 (by decide) (by decide) (by decide) (by decide) (by decide), h 34 (by decide) (by decide) (by decide) (by decide) (by decide), h 36 (by decide) (by decide) (by decide) (by decide) (by decide), h38, h41, h37 1 (by omega), h37 2 (by omega), h37 3 (by omega), h37 7 (by omega), h37 22 (by omega), h37 23 (by omega)]
  exact ⟨a1, a2, a3, a4, a5, a6, c7, c8, c9, c10, a11, a12, a13, a14, a15, a16⟩
theorem MI_b {M N : qM} (hM : MI M) (h37 : ∀ k, (k = 1 ∨ k = 2 ∨ k = 3 ∨ k = 7) → N 37 k = M 37 k) (h38 : N 38 = M 38) (h39 : N 39 = M 39) (h40 : N 40 = M 40) (h41 : N 41 = M 41) (b1 : 0 ≤ N 37 21 ∧ N 37 21 ≤ 700) (b2 : ∀ i, 0 ≤ i → i < N 37 21 → 0 ≤ N 48 i ∧ N 48 i < 256) (b3 : 0 ≤ N 37 35 ∧ N 37 35 ≤ 1400) : MI N := by
  obtain ⟨a1, a2, a3, a4, a5, a6, a7, a8, a9, a10, a11, a12, a13, a14⟩ := hM
  unfold MI
  rw [h38, h39, h40, h41, h37 1 (by omega), h37 2 (by omega), h37 3 (by omega), h37 7 (by omega)]
  exact ⟨a1, a2, a3, a4, a5, a6, a7, a8, b1, b2, b3, a12, a13, a14⟩
section BUF
variable {M : qM} {L : Nat} {k n p q i : Int}
/-- the input is gone -/
def clD (M : qM) : qM := qup M 37 21 0
theorem clD_o {o : Nat} (h : o ≠ 37) : clD M o = M o := qup_other M 37 21 0 o h
theorem Inv_clr (hI : Inv M) : Inv (clD (qup M 1 1 0)) := by
  obtain ⟨hC, hM, L, hR⟩ := hI
  have f : ∀ o, o ≠ 1 → o ≠ 37 → clD (qup M 1 1 0) o = M o := fun o h1 h2 => by rw [clD_o h2, qup_other M 1 1 0 o h1]
  have f37 : ∀ j, j ≠ 21 → clD (qup M 1 1 0) 37 j = M 37 j := fun j hj => by unfold clD; rw [qup_k _ _ _ hj, qup_o _ _ _ _ (by decide)]
  have f21 : clD (qup M 1 1 0) 37 21 = 0 := qup_s _ _ _ _
  have f1 : clD (qup M 1 1 0) 1 1 = 0 := by rw [clD_o (by decide), qup_s]
  refine ⟨CI_o (fun o ho => clD_o (by omega)) (CI_clr hC), MI_b hM (fun j hj => f37 j (by omega)) (f 38 (by decide) (by decide)) (f 39 (by decide) (by decide)) (f 40 (by decide) (by decide)) (f 41 (by decide) (by decide)) (by rw [f21]; omega) (fun i i0 i1 => by rw [f21] at i1; omega) (by rw [f37 35 (by decide)]; exact hM.2.2.2.2.2.2.2.2.2.2.1), L, qRl_b (fun o ho h1 _ _ _ => f o h1 (by omega)) (fun j hj => f37 j (by omega)) (f 38 (by decide) (by decide)) (f 39 (by decide) (by decide)) (f 40 (by decide) (by decide)) (f 41 (by decide) (by decide)) (by rw [f1, f21]) ?_ ?_ ?_ hR⟩
  · rw [f 2 (by decide) (by decide), f 48 (by decide) (by decide)]; exact hR.2.2.2.2.2.2.2.1
  · rw [f 31 (by decide) (by decide), f37 35 (by decide)]; exact hR.2.2.2.2.2.2.2.2.1
  · rw [f 32 (by decide) (by decide), f 51 (by decide) (by decide)]; exact hR.2.2.2.2.2.2.2.2.2.1
theorem Inv_clrS {M1 : qM} (hI : Inv M) (hS : Scr (qup M 1 1 0) M1) : Inv (clD M1) := by
  refine Inv_Scr (Inv_clr hI) (Scr_D hS (fun o ho => clD_o (by omega)) (fun o ho => clD_o (by omega)) (fun o ho => ?_))
  have e : ∀ o, 37 ≤ o → M1 o = qup M 1 1 0 o := fun o ho => hS.1 o (by unfold sfr; omega)
  funext j
  unfold clD qup
  rw [e o ho]
  rfl
theorem clr_f {M1 : qM} (h : Scr (qup M 1 1 0) M1) : ∀ o, 37 ≤ o → M1 o = M o := fun o ho => by
  rw [h.1 o (by unfold sfr; omega)]
  exact qup_other M 1 1 0 o (by omega)
theorem puts_e : ∀ (l : List Int) {A B : qM}, A 31 1 = B 37 35 → A 32 = B 51 → bputs A 31 32 l 32 = mputs B l 51 := by
  intro l
  induction l with
  | nil => intro A B _ h2; exact h2
  | cons v t ih =>
    intro A B h1 h2
    refine ih ?_ ?_
    · unfold bput mput; rw [qup_s, qup_s, h1]
    · funext j
      simp [bput, mput, qup, h1, h2]
theorem mputs_cg : ∀ (l : List Int) {A B : qM}, (∀ o, 37 ≤ o → B o = A o) → ∀ o, 37 ≤ o → mputs B l o = mputs A l o := by
  intro l
  induction l with
  | nil => intro A B h; exact h
  | cons v t ih =>
    intro A B h
    refine ih (fun o ho => ?_)
    funext j
    unfold mput qup
    rw [h 37 (by decide), h o ho]
/-- both write the same text -/
def txA (M : qM) (l : List Int) : qM := bputs (qup M 31 1 0) 31 32 l
def txD (M : qM) (l : List Int) : qM := mputs (qup (qup M 37 0 0) 37 35 0) l
theorem txD_o {l : List Int} {o : Nat} (h : o ≠ 37) (h' : o ≠ 51) : txD M l o = M o := by
  unfold txD
  rw [mputs_o h h', qup_other _ _ _ _ o h, qup_other _ _ _ _ o h]
theorem txD_37 {l : List Int} (h : k ≠ 0) (h' : k ≠ 35) : txD M l 37 k = M 37 k := by
  unfold txD
  rw [mputs_37 h', qup_k _ _ _ h', qup_k _ _ _ h]
theorem txD_0 {l : List Int} : txD M l 37 0 = 0 := by
  unfold txD
  rw [mputs_37 (by decide), qup_k _ _ _ (by decide), qup_s]
theorem txA_o {l : List Int} {o : Nat} (h : o ≠ 31) (h' : o ≠ 32) : txA M l o = M o := by
  funext j
  unfold txA
  rw [bputs_o h h', qup_o _ _ _ _ h]
theorem Inv_tx (hI : Inv M) {l : List Int} (hl : l.length ≤ 1023) : Inv (txD (txA M l) l) := by
  obtain ⟨hC, hM, L, hR⟩ := hI
  have f : ∀ o, o ≠ 31 → o ≠ 32 → o ≠ 37 → o ≠ 51 → txD (txA M l) l o = M o := fun o h1 h2 h3 h4 => by rw [txD_o h3 h4, txA_o h1 h2]
  have f37 : ∀ j, j ≠ 0 → j ≠ 35 → txD (txA M l) l 37 j = M 37 j := fun j h1 h2 => by rw [txD_37 h1 h2, txA_o (by decide) (by decide)]
  have f35 : txD (txA M l) l 37 35 = l.length := by unfold txD; rw [mputs_len, qup_s]; omega
  have f31 : txD (txA M l) l 31 1 = l.length := by rw [txD_o (by decide) (by decide)]; exact bputs_zl l
  refine ⟨CI_o (fun o ho => txD_o (by omega) (by omega)) (CI_text hC hl), MI_b hM (fun j hj => f37 j (by omega) (by omega)) (f 38 (by decide) (by decide) (by decide) (by decide)) (f 39 (by decide) (by decide) (by decide) (by decide)) (f 40 (by decide) (by decide) (by decide) (by decide)) (f 41 (by decide) (by decide) (by decide) (by decide)) (by rw [f37 21 (by decide) (by decide)]; exact hM.2.2.2.2.2.2.2.2.1) (by rw [f37 21 (by decide) (by decide), f 48 (by decide) (by decide) (by decide) (by decide)]; exact hM.2.2.2.2.2.2.2.2.2.1) (by rw [f35]; omega), L, qRl_b (fun o ho _ _ h3 h4 => f o h3 h4 (by omega) (by omega)) (fun j hj => f37 j (by omega) (by omega)) (f 38 (by decide) (by decide) (by decide) (by decide)) (f 39 (by decide) (by decide) (by decide) (by decide)) (f 40 (by decide) (by decide) (by decide) (by decide)) (f 41 (by decide) (by decide) (by decide) (by decide)) ?_ ?_ (by rw [f31, f35]) ?_ hR⟩
  · rw [f 1 (by decide) (by decide) (by decide) (by decide), f37 21 (by decide) (by decide)]; exact hR.2.2.2.2.2.2.1
  · rw [f 2 (by decide) (by decide) (by decide) (by decide), f 48 (by decide) (by decide) (by decide) (by decide)]; exact hR.2.2.2.2.2.2.2.1
  · rw [txD_o (by decide) (by decide)]
    unfold txA txD
    refine puts_e l ?_ ?_
    · rw [qup_s, qup_s]
    · rw [qup_other _ _ _ _ 32 (by decide), qup_other _ _ _ _ 51 (by decide), qup_other _ _ _ _ 51 (by decide)]
      rw [show bputs (qup M 31 1 0) 31 32 l 51 = M 51 from txA_o (by decide) (by decide)]
      exact hR.2.2.2.2.2.2.2.2.2.1
theorem tx_f {M1 : qM} {l : List Int} (h : Scr (bputs (qup M 31 1 0) 31 32 l) M1) : ∀ o, 37 ≤ o → M1 o = M o := fun o ho => by
  rw [h.1 o (by unfold sfr; omega)]
  exact txA_o (by omega) (by omega)
theorem Inv_txS {M1 : qM} {l : List Int} (hI : Inv M) (hl : l.length ≤ 1023) (hS : Scr (bputs (qup M 31 1 0) 31 32 l) M1) : Inv (txD M1 l) := by
  refine Inv_Scr (Inv_tx hI hl) (Scr_D (A := txA M l) hS (fun o ho => txD_o (by omega) (by omega)) (fun o ho => txD_o (by omega) (by omega)) (fun o ho => ?_))
  have e : ∀ o, 37 ≤ o → M1 o = txA M l o := fun o ho => hS.1 o (by unfold sfr; omega)
  refine mputs_cg l (fun o ho => ?_) o ho
  funext j
  unfold qup
  rw [e o ho]
end BUF


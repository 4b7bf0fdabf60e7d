/-! The class and the model in one world. -/
/-- the maps as they were j changes ago, as the class keeps them -/
def Vr (M : qM) : Nat → Int → Int → Int
  | 0, k => rowc M k
  | j + 1, k => if k = M 30 ((M 28 2 - j) % 8) then rowc M (12 + (M 28 2 - j) % 8) else Vr M j k
/-- the cells of a map in a store of the model -/
def sto (M : qM) (st k : Int) : Int → Int := fun i => M 40 (1536 * st + (256 * k + i))
def qRl (M : qM) (L : Nat) : Prop := M 0 10 = (L : Int) ∧ M 37 2 = (L : Int) ∧ M 0 9 = M 37 1 ∧ M 0 11 = M 37 3 ∧ M 0 12 = M 37 22 ∧ M 0 13 = M 37 23 ∧ M 1 1 = M 37 21 ∧ M 2 = M 48 ∧ M 31 1 = M 37 35 ∧ M 32 = M 51 ∧ (∀ k, 0 ≤ k → k < M 37 3 → nmR (fun j => M 38 (6 * k + j)) (M 34 k)) ∧ (∀ k, 0 ≤ k → k < M 37 3 → cE (rowc M k) (scl M k) L) ∧ M 28 3 = M 37 7 ∧ (∀ (j : Nat) (k : Int), (j : Int) < M 37 7 → 0 ≤ k → k < M 37 3 → cE (Vr M (j + 1) k) (sto M (M 37 7 - 1 - j) k) L) ∧ (∀ s, 0 ≤ s → s < 2 → M 36 s = M 41 s) ∧ ∀ s k, 0 ≤ s → s < 2 → M 41 s ≠ 0 → 0 ≤ k → k < M 37 3 → cE (rowc M (20 + s * 6 + k)) (sto M (8 + s) k) L
def Inv (M : qM) : Prop := CI M ∧ MI M ∧ ∃ L, qRl M L
theorem cE_rf (c : Int → Int) (L : Nat) : cE c c L := fun _ _ _ => rfl
theorem cE_sy {c c' : Int → Int} {L : Nat} (h : cE c c' L) : cE c' c L := fun k k0 k1 => (h k k0 k1).symm
theorem Vr_c {M M' : qM} (h28 : M' 28 2 = M 28 2) (h30 : ∀ j, 0 ≤ j → j < 8 → M' 30 j = M 30 j) (hr : ∀ r i, (0 ≤ r ∧ r < 6) ∨ (12 ≤ r ∧ r < 20) → 0 ≤ i → i < 256 → rowc M' r i = rowc M r i) : ∀ (j : Nat) (k i : Int), 0 ≤ k → k < 6 → 0 ≤ i → i < 256 → Vr M' j k i = Vr M j k i := by
  intro j
  induction j with
  | zero => intro k i k0 k1 i0 i1; exact hr k i (Or.inl ⟨k0, k1⟩) i0 i1
  | succ j ih =>
    intro k i k0 k1 i0 i1
    show (if k = M' 30 ((M' 28 2 - j) % 8) then rowc M' (12 + (M' 28 2 - j) % 8) else Vr M' j k) i = (if k = M 30 ((M 28 2 - j) % 8) then rowc M (12 + (M 28 2 - j) % 8) else Vr M j k) i
    rw [h28, h30 _ (by omega) (by omega)]
    by_cases g : k = M 30 ((M 28 2 - j) % 8)
    · rw [if_pos g, if_pos g]; exact hr _ i (Or.inr (by omega)) i0 i1
    · rw [if_neg g, if_neg g]; exact ih k i k0 k1 i0 i1
theorem MI_o {M M' : qM} (h : ∀ o, 37 ≤ o → M' o = M o) (hM : MI M) : MI M' := by
  unfold MI
  rw [h 37 (by decide), h 38 (by decide), h 39 (by decide), h 40 (by decide), h 41 (by decide), h 48 (by decide)]
  exact hM
theorem qRl_Scr {M M' : qM} {L : Nat} (hM : MI M) (e : Scr M M') (h : qRl M L) : qRl M' L := by
  obtain ⟨a1, a2, a3, a4, a5, a6, a7, a8, a9, a10, a11, a12, a13, a14, a15, a16⟩ := h
  have m3q := hM.2.2.2.1
  have hpL := p4_in (L : Int)
  have hrow : ∀ r i, (0 ≤ r ∧ r < 6) ∨ (12 ≤ r ∧ r < 32) → 0 ≤ i → i < 256 → rowc M' r i = rowc M r i := fun r i hr i0 i1 => e.2.1 _ (by omega)
  have f : ∀ o, sfr o → M' o = M o := e.1
  have hV := Vr_c (M := M) (M' := M') (by rw [f 28 (by unfold sfr; decide)]) (fun j _ _ => by rw [f 30 (by unfold sfr; decide)]) (fun r i hr i0 i1 => hrow r i (by omega) i0 i1)
  have hsto : ∀ st k, sto M' st k = sto M st k := fun st k => by unfold sto; rw [f 40 (by unfold sfr; decide)]
  have hscl : ∀ k, scl M' k = scl M k := fun k => by unfold scl; rw [f 39 (by unfold sfr; decide)]
  unfold qRl
  rw [f 0 (by unfold sfr; decide), f 1 (by unfold sfr; decide), f 2 (by unfold sfr; decide), f 28 (by unfold sfr; decide), f 31 (by unfold sfr; decide), f 32 (by unfold sfr; decide), f 34 (by unfold sfr; decide), f 36 (by unfold sfr; decide), f 37 (by unfold sfr; decide), f 38 (by unfold sfr; decide), f 41 (by unfold sfr; decide), f 48 (by unfold sfr; decide), f 51 (by unfold sfr; decide)]
  refine ⟨a1, a2, a3, a4, a5, a6, a7, a8, a9, a10, a11, fun k k0 k1 i i0 i1 => ?_, a13, fun j k hj k0 k1 i i0 i1 => ?_, a15, fun s k s0 s1 hs k0 k1 i i0 i1 => ?_⟩
  · rw [hscl, hrow k i (by omega) i0 (by omega)]; exact a12 k k0 k1 i i0 i1
  · rw [hsto, hV (j + 1) k i k0 (by omega) i0 (by omega)]; exact a14 j k hj k0 k1 i i0 i1
  · rw [hsto, hrow _ i (by omega) i0 (by omega)]; exact a16 s k s0 s1 hs k0 k1 i i0 i1
theorem Inv_Scr {M M' : qM} (h : Inv M) (e : Scr M M') : Inv M' := by
  obtain ⟨h1, h2, L, h3⟩ := h
  exact ⟨Scr_CI h1 e, MI_o (fun o ho => e.1 o (by unfold sfr; omega)) h2, L, qRl_Scr h2 e h3⟩
theorem CI_o {M M' : qM} (h : ∀ o, o < 37 → M' o = M o) (hC : CI M) : CI M' := by
  unfold CI
  rw [h 0 (by decide), h 1 (by decide), h 2 (by decide), h 4 (by decide), h 13 (by decide), h 18 (by decide), h 28 (by decide), h 30 (by decide), h 31 (by decide), h 34 (by decide), h 36 (by decide)]
  exact hC
theorem qRl_o {M M' : qM} {L : Nat} (h : ∀ o, o < 37 → M' o = M o) (h37 : ∀ k, (k = 1 ∨ k = 2 ∨ k = 3 ∨ k = 7 ∨ k = 21 ∨ k = 22 ∨ k = 23 ∨ k = 35) → M' 37 k = M 37 k) (h38 : M' 38 = M 38) (h39 : M' 39 = M 39) (h40 : M' 40 = M 40) (h41 : M' 41 = M 41) (h48 : M' 48 = M 48) (h51 : M' 51 = M 51) (hR : qRl M L) : qRl M' L := by
  have hV : ∀ j k, Vr M' j k = Vr M j k := by
    intro j
    induction j with
    | zero => intro k; show rowc M' k = rowc M k; unfold rowc; rw [h 4 (by decide)]
    | succ j ih => intro k; rw [Vr, Vr, h 30 (by decide), h 28 (by decide), ih k]; unfold rowc; rw [h 4 (by decide)]
  have hrow : ∀ r, rowc M' r = rowc M r := fun r => by unfold rowc; rw [h 4 (by decide)]
  have hsto : ∀ st k, sto M' st k = sto M st k := fun st k => by unfold sto; rw [h40]
  have hscl : ∀ k, scl M' k = scl M k := fun k => by unfold scl; rw [h39]
  unfold qRl
  simp only [hV, hrow, hsto, hscl]
  rw [h 0 (by decide), h 1 (by decide), h 2 (by decide), h 28 (by decide), h 31 (by decide), h 32 (by decide), h 34 (by decide), h 36 (by decide), h38, h41, h48, h51, h37 1 (by omega), h37 2 (by omega), h37 3 (by omega), h37 7 (by omega), h37 21 (by omega), h37 22 (by omega), h37 23 (by omega), h37 35 (by omega)]
  exact hR
theorem Inv_MS {M M' : qM} (h : Inv M) (e : MS M M') : Inv M' := by
  obtain ⟨h1, h2, L, h3⟩ := h
  have f := e.1
  refine ⟨CI_o (fun o ho => f o (by omega) (by omega) (by omega) (by omega) (by omega) (by omega) (by omega) (by omega) (by omega)) h1, MS_MI e h2, L, qRl_o (fun o ho => f o (by omega) (by omega) (by omega) (by omega) (by omega) (by omega) (by omega) (by omega) (by omega)) (fun k hk => e.2 k (by omega)) ?_ ?_ ?_ ?_ ?_ ?_ h3⟩ <;> exact f _ (by decide) (by decide) (by decide) (by decide) (by decide) (by decide) (by decide) (by decide) (by decide)
theorem Inv_0 {M : qM} (h : Inv M) (g : Int) : Inv (qup M 37 0 g) := by
  obtain ⟨h1, h2, L, h3⟩ := h
  have f : ∀ o, o ≠ 37 → qup M 37 0 g o = M o := fun o ho => by funext j; exact qup_o _ _ _ _ ho
  exact ⟨CI_o (fun o ho => f o (by omega)) h1, MI_g h2 g, L, qRl_o (fun o ho => f o (by omega)) (fun k hk => qup_k _ _ _ (by omega)) (f 38 (by decide)) (f 39 (by decide)) (f 40 (by decide)) (f 41 (by decide)) (f 48 (by decide)) (f 51 (by decide)) h3⟩
section GEQ
variable {M : qM} {L : Nat} {k o l x p f t b n : Int}
theorem gT_e (h : qRl M L) : gText M = mT M := by unfold gText mT; rw [h.2.2.1]
theorem gM_e (h : qRl M L) : gMap M k = mMp M k := by unfold gMap mMp; rw [h.2.2.2.1]
theorem gP_e (h : qRl M L) : gPos M p = mPs M p := by unfold gPos mPs; rw [h.1, h.2.1]
theorem gR_e (h : qRl M L) : gRng M f t = mRg M f t := by
  unfold gRng gPos mRg
  rw [h.1, h.2.1]
  by_cases a : 0 ≤ f ∧ f < 8 * p4 (L : Int)
  · rw [if_pos a, gor_0 rfl]
    by_cases b : 0 ≤ t ∧ t < 8 * p4 (L : Int)
    · rw [if_pos b, gor_0 rfl]
      by_cases c : f ≤ t
      · rw [if_pos c, if_pos ⟨a, b, c⟩]
      · rw [if_neg c, if_neg (fun w => c w.2.2)]
    · rw [if_neg b, gor_n (by decide), if_neg (fun w => b w.2.1)]
  · rw [if_neg a, gor_n (by decide), if_neg (fun w => a w.1)]
theorem gB_e (h : qRl M L) : gBlk M l x = mBk M l x := by
  unfold gBlk gLev mBk
  rw [h.1, h.2.1]
  by_cases a : 0 ≤ l ∧ l ≤ (L : Int)
  · rw [if_pos a, gor_0 rfl]
    by_cases b : 0 ≤ x ∧ x < p4 ((L : Int) - l)
    · rw [if_pos b, if_pos ⟨a, b⟩]
    · rw [if_neg b, if_neg (fun w => b w.2)]
  · rw [if_neg a, gor_n (by decide), if_neg (fun w => a w.1)]
theorem gF_e (h : qRl M L) : gBuf M n = gBm M n := by unfold gBuf gBm; rw [h.2.2.2.2.2.2.1]
end GEQ


/-! What the class answers the model answers: undo, save, restore, read, append. -/
theorem qRl_h {M N : qM} {L : Nat} (h : ∀ o, o < 37 → o ≠ 4 → o ≠ 28 → o ≠ 30 → o ≠ 36 → N o = M o) (h37 : ∀ k, (k = 1 ∨ k = 2 ∨ k = 3 ∨ k = 21 ∨ k = 22 ∨ k = 23 ∨ k = 35) → N 37 k = M 37 k) (h38 : N 38 = M 38) (h48 : N 48 = M 48) (h51 : N 51 = M 51) (hR : qRl M L) (c12 : ∀ k, 0 ≤ k → k < M 37 3 → cE (rowc N k) (scl N k) L) (c13 : N 28 3 = N 37 7) (c14 : ∀ (j : Nat) (k : Int), (j : Int) < N 37 7 → 0 ≤ k → k < M 37 3 → cE (Vr N (j + 1) k) (sto N (N 37 7 - 1 - j) k) L) (c15 : ∀ s, 0 ≤ s → s < 2 → N 36 s = N 41 s) (c16 : ∀ s k, 0 ≤ s → s < 2 → N 41 s ≠ 0 → 0 ≤ k → k < M 37 3 → cE (rowc N (20 + s * 6 + k)) (sto N (8 + s) k) L) : qRl N L := by
  obtain ⟨a1, a2, a3, a4, a5, a6, a7, a8, a9, a10, a11, _⟩ := hR
  have e : ∀ o, (o = 0 ∨ o = 1 ∨ o = 2 ∨ o = 31 ∨ o = 32 ∨ o = 34) → N o = M o := fun o ho => h o (by omega) (by omega) (by omega) (by omega) (by omega)
  unfold qRl
  rw [h37 1 (by omega), h37 2 (by omega), h37 3 (by omega), h37 21 (by omega), h37 22 (by omega), h37 23 (by omega), h37 35 (by omega), e 0 (by omega), e 1 (by omega), e 2 (by omega), e 31 (by omega), e 32 (by omega), e 34 (by omega), h38, h48, h51]
  exact ⟨a1, a2, a3, a4, a5, a6, a7, a8, a9, a10, a11, c12, c13, c14, c15, c16⟩
section PAST
variable {M : qM} {L : Nat} {k n p q i s : Int}
theorem gob_o {o : Nat} (h4 : o ≠ 4) (h28 : o ≠ 28) : gob M o = M o := by
  funext j
  simp [gob, qup, qrow, h4, h28]
theorem gob_28 (h : 0 ≤ M 28 2 ∧ M 28 2 < 8) : gob M 28 2 = (M 28 2 - 1) % 8 := by
  rw [gob, qup_k _ _ _ (by decide), qup_s]
  by_cases g : 0 < M 28 2
  · rw [if_pos g]; omega
  · rw [if_neg g]; omega
theorem gob_283 : gob M 28 3 = M 28 3 - 1 := qup_s _ _ _ _
theorem gob_row {r : Int} (i0 : 0 ≤ i) (i1 : i < 256) : rowc (gob M) r i = if r = M 30 (M 28 2) then rowc M (12 + M 28 2) i else rowc M r i := by
  unfold rowc
  rw [gob, qup_o _ _ _ _ (by decide), qup_o _ _ _ _ (by decide)]
  by_cases g : r = M 30 (M 28 2)
  · rw [if_pos g, g, qrow_at _ _ ⟨i0, i1⟩]; rfl
  · rw [if_neg g, qrow_ne _ _ ⟨i0, i1⟩ g]
theorem gob_CI (h : CI M) (h0 : 0 < M 28 3) : CI (gob M) := by
  have h2 := h.2.2.2.2.2.2.2.2.1
  have h3 := h.2.2.2.2.2.2.2.2.2.1
  have h30 := h.2.2.2.2.2.2.2.2.2.2.1 (M 28 2) h2.1 h2.2
  have hc := CI_row h (r := M 30 (M 28 2)) (F := rowc M (12 + M 28 2)) (by omega) (CI_ok h (by omega))
  obtain ⟨a1, a2, a3, a4, a5, a6, a7, a8, a9, a10, a11, a12, a13, a14⟩ := hc
  have f : ∀ o, o ≠ 28 → gob M o = qrow M (M 30 (M 28 2)) (rowc M (12 + M 28 2)) o := fun o ho => by
    rw [gob, qup_other _ _ _ _ o ho, qup_other _ _ _ _ o ho]
  unfold CI
  rw [f 4 (by decide), f 13 (by decide), f 18 (by decide), f 1 (by decide), f 2 (by decide), f 0 (by decide), f 30 (by decide), f 31 (by decide), f 34 (by decide), f 36 (by decide), gob_28 h2, gob_283]
  exact ⟨a1, a2, a3, a4, a5, a6, a7, a8, by omega, by omega, a11, a12, a13, a14⟩
theorem Vr_gob (h : 0 ≤ M 28 2 ∧ M 28 2 < 8) (h30 : ∀ j, 0 ≤ j → j < 8 → 0 ≤ M 30 j ∧ M 30 j < 6) : ∀ (j : Nat), ∀ q i, 0 ≤ q → q < 6 → 0 ≤ i → i < 256 → Vr (gob M) j q i = Vr M (j + 1) q i := by
  have h3 := h30 (M 28 2) h.1 h.2
  intro j
  induction j with
  | zero =>
    intro q i q0 q1 i0 i1
    rw [Vr_s, Vr_0, Vr_0, gob_row i0 i1, show (M 28 2 - ((0 : Nat) : Int)) % 8 = M 28 2 by omega]
    by_cases g : q = M 30 (M 28 2)
    · rw [if_pos g, if_pos g]
    · rw [if_neg g, if_neg g]
  | succ j ih =>
    intro q i q0 q1 i0 i1
    have e := ih q i q0 q1 i0 i1
    rw [Vr_s (gob M), gob_28 h, gob_o (o := 30) (by decide) (by decide), Vr_s M (j + 1), show ((M 28 2 - 1) % 8 - (j : Int)) % 8 = (M 28 2 - ((j + 1 : Nat) : Int)) % 8 by omega]
    by_cases g : q = M 30 ((M 28 2 - ((j + 1 : Nat) : Int)) % 8)
    · rw [if_pos g, if_pos g, gob_row i0 i1, if_neg (by omega)]
    · rw [if_neg g, if_neg g]; exact e
/-- the model goes one change back -/
def unD (M : qM) : qM := stW (qup (qup M 37 0 0) 37 7 (M 37 7 - 1)) (M 37 7 - 1) 1536
theorem stW_o {N : qM} {o : Nat} {st n : Int} (h : o ≠ 39) : stW N st n o = N o := by
  funext j
  unfold stW
  rw [if_neg (fun w => h w.1)]
theorem unD_o {o : Nat} (h : o ≠ 37) (h' : o ≠ 39) : unD M o = M o := by
  unfold unD
  rw [stW_o h', qup_other _ _ _ _ o h, qup_other _ _ _ _ o h]
theorem unD_37 (h : k ≠ 0) (h' : k ≠ 7) : unD M 37 k = M 37 k := by
  unfold unD
  rw [stW_o (by decide), qup_k _ _ _ h', qup_k _ _ _ h]
theorem unD_7 : unD M 37 7 = M 37 7 - 1 := by
  unfold unD
  rw [stW_o (by decide), qup_s]
theorem unD_0 : unD M 37 0 = 0 := by
  unfold unD
  rw [stW_o (by decide), qup_k _ _ _ (by decide), qup_s]
theorem unD_39 {i : Int} (i0 : 0 ≤ i) (i1 : i < 1536) : unD M 39 i = M 40 (1536 * (M 37 7 - 1) + i) := by
  unfold unD stW
  rw [if_pos ⟨rfl, i0, i1⟩, qup_o _ _ _ _ (by decide), qup_o _ _ _ _ (by decide)]
theorem MI_un (hM : MI M) (h : 0 < M 37 7) : MI (unD M) := by
  obtain ⟨a1, a2, a3, a4, a5, a6, a7, a8, a9, a10, a11, a12, a13, a14⟩ := hM
  unfold MI
  rw [unD_37 (k := 1) (by decide) (by decide), unD_37 (k := 2) (by decide) (by decide), unD_37 (k := 3) (by decide) (by decide), unD_37 (k := 21) (by decide) (by decide), unD_37 (k := 35) (by decide) (by decide), unD_7, unD_o (o := 38) (by decide) (by decide), unD_o (o := 40) (by decide) (by decide), unD_o (o := 41) (by decide) (by decide), unD_o (o := 48) (by decide) (by decide)]
  refine ⟨a1, a2, a3, a4, fun i i0 i1 => ?_, a6, by omega, a8, a9, a10, a11, fun q i q0 q1 i0 i1 => ?_, a13, fun st q i s0 s1 hs q0 q1 i0 i1 => a14 st q i s0 s1 (by omega) q0 q1 i0 i1⟩
  · rw [unD_39 i0 i1]; exact a6 _ (by omega) (by omega)
  · have hp := p4_in (M 37 2)
    rw [unD_39 (by omega) (by omega), show 1536 * (M 37 7 - 1) + (256 * q + i) = 1536 * (M 37 7 - 1) + 256 * q + i by omega]
    exact a14 (M 37 7 - 1) q i (by omega) (by omega) (Or.inl (by omega)) q0 q1 i0 i1
set_option maxHeartbeats 1000000 in
theorem Inv_un (hI : Inv M) (h : 0 < M 28 3) : Inv (unD (gob M)) := by
  obtain ⟨hC, hM, L, hR⟩ := id hI
  have h2 := hC.2.2.2.2.2.2.2.2.1
  have h30 := hC.2.2.2.2.2.2.2.2.2.2.1
  have h303 := h30 (M 28 2) h2.1 h2.2
  have hpL := p4_in (L : Int)
  obtain ⟨a1, a2, a3, a4, a5, a6, a7, a8, a9, a10, a11, a12, a13, a14, a15, a16⟩ := id hR
  have hm3 := hM.2.2.2.1
  have f : ∀ o, 37 ≤ o → gob M o = M o := fun o ho => gob_o (by omega) (by omega)
  have g : ∀ o, o < 37 → unD (gob M) o = gob M o := fun o ho => unD_o (by omega) (by omega)
  have e7 : unD (gob M) 37 7 = M 37 7 - 1 := by rw [unD_7, f 37 (by decide)]
  have hrow : ∀ r, rowc (unD (gob M)) r = rowc (gob M) r := fun r => by unfold rowc; rw [g 4 (by decide)]
  have hV : ∀ j q i, 0 ≤ q → q < 6 → 0 ≤ i → i < 256 → Vr (unD (gob M)) j q i = Vr (gob M) j q i := Vr_c (by rw [g 28 (by decide)]) (fun j _ _ => by rw [g 30 (by decide)]) (fun r i _ _ _ => by rw [hrow])
  have hst : ∀ st q, sto (unD (gob M)) st q = sto M st q := fun st q => by
    unfold sto
    rw [unD_o (by decide) (by decide), f 40 (by decide)]
  refine ⟨CI_o g (gob_CI hC h), MI_un (MI_o f hM) (by rw [f 37 (by decide)]; omega), L, ?_⟩
  refine qRl_h (fun o ho h4 h28 _ _ => by rw [g o ho, gob_o h4 h28]) (fun j hj => by rw [unD_37 (by omega) (by omega), f 37 (by decide)]) (by rw [unD_o (by decide) (by decide), f 38 (by decide)]) (by rw [unD_o (by decide) (by decide), f 48 (by decide)]) (by rw [unD_o (by decide) (by decide), f 51 (by decide)]) hR (fun q q0 q1 i i0 i1 => ?_) ?_ (fun j q hj q0 q1 i i0 i1 => ?_) ?_ (fun s q s0 s1 hs q0 q1 i i0 i1 => ?_)
  · rw [hrow]
    have e := Vr_gob h2 h30 0 q i q0 (by omega) i0 (by omega)
    rw [Vr_0] at e
    rw [e, a14 0 q (by omega) q0 q1 i i0 i1]
    unfold scl
    rw [unD_39 (by omega) (by omega), f 37 (by decide), f 40 (by decide)]
    unfold sto
    rw [show M 37 7 - 1 - ((0 : Nat) : Int) = M 37 7 - 1 by omega]
  · rw [e7, g 28 (by decide), gob_283, a13]
  · rw [e7] at hj ⊢
    rw [hV (j + 1) q i q0 (by omega) i0 (by omega), Vr_gob h2 h30 (j + 1) q i q0 (by omega) i0 (by omega), hst, a14 (j + 1) q (by omega) q0 q1 i i0 i1]
    congr 1
    omega
  · intro s s0 s1
    rw [g 36 (by decide), gob_o (by decide) (by decide), unD_o (by decide) (by decide), f 41 (by decide)]
    exact a15 s s0 s1
  · rw [unD_o (by decide) (by decide), f 41 (by decide)] at hs
    rw [hrow, gob_row i0 (by omega), if_neg (by omega), hst]
    exact a16 s q s0 s1 hs q0 q1 i i0 i1
/-- save and restore -/
def svA (M : qM) (s : Int) : qM := qup (rws M 0 (20 + s * 6) 6) 36 s 1
def svD (M : qM) (s : Int) : qM := qup (kpW (qup M 37 0 0) (8 + s) 1536) 41 s 1
theorem svA_o {o : Nat} (h4 : o ≠ 4) (h36 : o ≠ 36) : svA M s o = M o := by
  funext j
  simp [svA, qup, rws, h4, h36]
theorem svD_o {o : Nat} (h37 : o ≠ 37) (h40 : o ≠ 40) (h41 : o ≠ 41) : svD M s o = M o := by
  funext j
  simp [svD, qup, kpW, h37, h40, h41]
theorem svD_37 (h : k ≠ 0) : svD M s 37 k = M 37 k := by
  simp [svD, qup, kpW, h]
theorem svD_0 : svD M s 37 0 = 0 := by
  simp [svD, qup, kpW]
theorem svD_40 {i : Int} : svD M s 40 i = if 1536 * (8 + s) ≤ i ∧ i < 1536 * (8 + s) + 1536 then M 39 (i - 1536 * (8 + s)) else M 40 i := by
  unfold svD
  rw [qup_o _ _ _ _ (by decide)]
  unfold kpW
  by_cases g : 1536 * (8 + s) ≤ i ∧ i < 1536 * (8 + s) + 1536
  · rw [if_pos ⟨rfl, g⟩, if_pos g, qup_o _ _ _ _ (by decide)]
  · rw [if_neg (fun w => g w.2), if_neg g, qup_o _ _ _ _ (by decide)]
theorem svD_41 {j : Int} : svD M s 41 j = if j = s then 1 else M 41 j := by
  unfold svD
  by_cases g : j = s
  · rw [if_pos g, g, qup_s]
  · rw [if_neg g, qup_k _ _ _ g]
    unfold kpW
    rw [if_neg (fun w => by have := w.1; omega), qup_o _ _ _ _ (by decide)]
theorem svA_36 {j : Int} : svA M s 36 j = if j = s then 1 else M 36 j := by
  unfold svA
  by_cases g : j = s
  · rw [if_pos g, g, qup_s]
  · rw [if_neg g, qup_k _ _ _ g]
    unfold rws
    rw [if_neg (fun w => by have := w.1; omega)]
theorem svA_row {r : Int} (hs : 0 ≤ s ∧ s < 2) (i0 : 0 ≤ i) (i1 : i < 256) : rowc (svA M s) r i = if 20 + s * 6 ≤ r ∧ r < 26 + s * 6 then rowc M (r - (20 + s * 6)) i else rowc M r i := by
  unfold rowc svA
  rw [qup_o _ _ _ _ (by decide)]
  unfold rws
  by_cases g : 20 + s * 6 ≤ r ∧ r < 26 + s * 6
  · rw [if_pos g, if_pos ⟨rfl, by omega, by omega⟩]
    congr 1
    omega
  · rw [if_neg g, if_neg (fun w => by have := w.2; omega)]
set_option maxHeartbeats 1000000 in
theorem Inv_sv (hI : Inv M) (hs : 0 ≤ s ∧ s < 2) (h9 : M 0 9 = 1) : Inv (svD (svA M s) s) := by
  obtain ⟨hC, hM, L, hR⟩ := id hI
  have hpL := p4_in (L : Int)
  obtain ⟨a1, a2, a3, a4, a5, a6, a7, a8, a9, a10, a11, a12, a13, a14, a15, a16⟩ := id hR
  have hm3 := hM.2.2.2.1
  have hm7 := hM.2.2.2.2.2.2.1
  have f : ∀ o, 37 ≤ o → svA M s o = M o := fun o ho => svA_o (by omega) (by omega)
  have g : ∀ o, o < 37 → svD (svA M s) s o = svA M s o := fun o ho => svD_o (by omega) (by omega) (by omega)
  have e37 : ∀ j, j ≠ 0 → svD (svA M s) s 37 j = M 37 j := fun j hj => by rw [svD_37 hj, f 37 (by decide)]
  have hrow : ∀ r, rowc (svD (svA M s) s) r = rowc (svA M s) r := fun r => by unfold rowc; rw [g 4 (by decide)]
  have hV : ∀ j q i, 0 ≤ q → q < 6 → 0 ≤ i → i < 256 → Vr (svD (svA M s) s) j q i = Vr M j q i := Vr_c (by rw [g 28 (by decide), svA_o (by decide) (by decide)]) (fun j _ _ => by rw [g 30 (by decide), svA_o (by decide) (by decide)]) (fun r i hr i0 i1 => by rw [hrow, svA_row hs i0 i1, if_neg (by omega)])
  have hst : ∀ st q i, sto (svD (svA M s) s) st q i = if 1536 * (8 + s) ≤ 1536 * st + (256 * q + i) ∧ 1536 * st + (256 * q + i) < 1536 * (8 + s) + 1536 then M 39 (1536 * st + (256 * q + i) - 1536 * (8 + s)) else M 40 (1536 * st + (256 * q + i)) := fun st q i => by
    unfold sto
    rw [svD_40, f 39 (by decide), f 40 (by decide)]
  refine ⟨CI_o g (CI_sv (rws_CI hC (by omega) (by omega)) hs (by rw [rws_o (by decide)]; exact h9)), MI_sv (MI_g (MI_o f hM) 0) hs, L, ?_⟩
  refine qRl_h (fun o ho h4 _ _ h36 => by rw [g o ho, svA_o h4 h36]) (fun j hj => e37 j (by omega)) (by rw [svD_o (by decide) (by decide) (by decide), f 38 (by decide)]) (by rw [svD_o (by decide) (by decide) (by decide), f 48 (by decide)]) (by rw [svD_o (by decide) (by decide) (by decide), f 51 (by decide)]) hR (fun q q0 q1 i i0 i1 => ?_) ?_ (fun j q hj q0 q1 i i0 i1 => ?_) ?_ (fun t q t0 t1 ht q0 q1 i i0 i1 => ?_)
  · rw [hrow, svA_row hs i0 (by omega), if_neg (by omega), a12 q q0 q1 i i0 i1]
    unfold scl
    rw [svD_o (by decide) (by decide) (by decide), f 39 (by decide)]
  · rw [e37 7 (by decide), g 28 (by decide), svA_o (by decide) (by decide), a13]
  · rw [e37 7 (by decide)] at hj ⊢
    rw [hV (j + 1) q i q0 (by omega) i0 (by omega), hst, if_neg (by omega)]
    exact a14 j q hj q0 q1 i i0 i1
  · intro t t0 t1
    rw [g 36 (by decide), svA_36, svD_41, f 41 (by decide), a15 t t0 t1]
  · rw [svD_41, f 41 (by decide)] at ht
    rw [hrow, svA_row hs i0 (by omega), hst]
    by_cases w : t = s
    · rw [if_pos (by omega), if_pos (by omega), w, show 20 + s * 6 + q - (20 + s * 6) = q by omega, show 1536 * (8 + s) + (256 * q + i) - 1536 * (8 + s) = 256 * q + i by omega]
      exact a12 q q0 q1 i i0 i1
    · rw [if_neg w] at ht
      rw [if_neg (by omega), if_neg (by omega)]
      exact a16 t q t0 t1 ht q0 q1 i i0 i1
def reA (M : qM) (s : Int) : qM := qup (rws M (20 + s * 6) 0 6) 28 3 0
def reD (M : qM) (s : Int) : qM := qup (stW (qup M 37 0 0) (8 + s) 1536) 37 7 0
theorem reA_o {o : Nat} (h4 : o ≠ 4) (h28 : o ≠ 28) : reA M s o = M o := by
  funext j
  simp [reA, qup, rws, h4, h28]
theorem reD_o {o : Nat} (h37 : o ≠ 37) (h39 : o ≠ 39) : reD M s o = M o := by
  funext j
  simp [reD, qup, stW, h37, h39]
theorem reD_37 (h : k ≠ 0) (h' : k ≠ 7) : reD M s 37 k = M 37 k := by
  simp [reD, qup, stW, h, h']
theorem reD_7 : reD M s 37 7 = 0 := qup_s _ _ _ _
theorem reD_0 : reD M s 37 0 = 0 := by
  simp [reD, qup, stW]
theorem reD_39 {i : Int} (i0 : 0 ≤ i) (i1 : i < 1536) : reD M s 39 i = M 40 (1536 * (8 + s) + i) := by
  unfold reD
  rw [qup_o _ _ _ _ (by decide)]
  unfold stW
  rw [if_pos ⟨rfl, i0, i1⟩, qup_o _ _ _ _ (by decide)]
theorem reA_row {r : Int} (hs : 0 ≤ s ∧ s < 2) (i0 : 0 ≤ i) (i1 : i < 256) : rowc (reA M s) r i = if 0 ≤ r ∧ r < 6 then rowc M (r + (20 + s * 6)) i else rowc M r i := by
  unfold rowc reA
  rw [qup_o _ _ _ _ (by decide)]
  unfold rws
  by_cases g : 0 ≤ r ∧ r < 6
  · rw [if_pos g, if_pos ⟨rfl, by omega, by omega⟩]
    congr 1
    omega
  · rw [if_neg g, if_neg (fun w => by have := w.2; omega)]
set_option maxHeartbeats 1000000 in
theorem Inv_re (hI : Inv M) (hs : 0 ≤ s ∧ s < 2) (h : M 41 s ≠ 0) : Inv (reD (reA M s) s) := by
  obtain ⟨hC, hM, L, hR⟩ := id hI
  have hpL := p4_in (L : Int)
  obtain ⟨a1, a2, a3, a4, a5, a6, a7, a8, a9, a10, a11, a12, a13, a14, a15, a16⟩ := id hR
  have hm3 := hM.2.2.2.1
  have f : ∀ o, 37 ≤ o → reA M s o = M o := fun o ho => reA_o (by omega) (by omega)
  have g : ∀ o, o < 37 → reD (reA M s) s o = reA M s o := fun o ho => reD_o (by omega) (by omega)
  have e37 : ∀ j, j ≠ 0 → j ≠ 7 → reD (reA M s) s 37 j = M 37 j := fun j hj h7 => by rw [reD_37 hj h7, f 37 (by decide)]
  have hrow : ∀ r, rowc (reD (reA M s) s) r = rowc (reA M s) r := fun r => by unfold rowc; rw [g 4 (by decide)]
  refine ⟨CI_o g (CI_fg (rws_CI hC (by omega) (by omega))), MI_re (MI_g (MI_o f hM) 0) hs (by rw [qup_o _ _ _ _ (by decide), f 41 (by decide)]; exact h), L, ?_⟩
  refine qRl_h (fun o ho h4 h28 _ _ => by rw [g o ho, reA_o h4 h28]) (fun j hj => e37 j (by omega) (by omega)) (by rw [reD_o (by decide) (by decide), f 38 (by decide)]) (by rw [reD_o (by decide) (by decide), f 48 (by decide)]) (by rw [reD_o (by decide) (by decide), f 51 (by decide)]) hR (fun q q0 q1 i i0 i1 => ?_) ?_ (fun j q hj q0 q1 i i0 i1 => ?_) ?_ (fun t q t0 t1 ht q0 q1 i i0 i1 => ?_)
  · rw [hrow, reA_row hs i0 (by omega), if_pos (by omega), show q + (20 + s * 6) = 20 + s * 6 + q by omega, a16 s q hs.1 hs.2 h q0 q1 i i0 i1]
    unfold scl
    rw [reD_39 (by omega) (by omega), f 40 (by decide)]
    rfl
  · rw [reD_7, g 28 (by decide)]
    exact qup_s _ _ _ _
  · rw [reD_7] at hj; omega
  · intro t t0 t1
    rw [g 36 (by decide), reA_o (by decide) (by decide), reD_o (by decide) (by decide), f 41 (by decide)]
    exact a15 t t0 t1
  · rw [reD_o (by decide) (by decide), f 41 (by decide)] at ht
    rw [hrow, reA_row hs i0 (by omega), if_neg (by omega)]
    unfold sto
    rw [reD_o (by decide) (by decide), f 40 (by decide)]
    exact a16 t q t0 t1 ht q0 q1 i i0 i1
end PAST


/-! A change of both keeps them alike. -/
theorem Scr_D {A B A' B' : qM} (h : Scr A B) (h1 : ∀ o, o < 37 → A' o = A o) (h2 : ∀ o, o < 37 → B' o = B o) (h3 : ∀ o, 37 ≤ o → B' o = A' o) : Scr A' B' := by
  obtain ⟨e1, e2, e3, e4, e5⟩ := h
  refine ⟨fun o ho => ?_, ?_, ?_, ?_, ?_⟩
  · by_cases g : o < 37
    · rw [h2 o g, h1 o g]; exact e1 o ho
    · exact h3 o (by omega)
  · rw [h1 4 (by decide), h2 4 (by decide)]; exact e2
  · rw [h2 4 (by decide)]; exact e3
  · rw [h2 13 (by decide)]; exact e4
  · rw [h2 18 (by decide)]; exact e5
section CHG
variable {M N : qM} {L : Nat} {F F' : Int → Int} {k : Int}
/-- the world of both after a change of the map k -/
def chA (M : qM) (k : Int) (F : Int → Int) : qM := qrow (rem M k) k F
def chD (M : qM) (k : Int) (L : Nat) (F' : Int → Int) : qM := putF (kaW (qup M 37 0 0)) k L F'
theorem rem_w (h : 0 ≤ M 28 2 ∧ M 28 2 < 8) : (if M 28 2 + 1 < 8 then M 28 2 + 1 else 0) = (M 28 2 + 1) % 8 := by
  by_cases g : M 28 2 + 1 < 8
  · rw [if_pos g]; omega
  · rw [if_neg g]; omega
theorem chA_o {o : Nat} (h4 : o ≠ 4) (h28 : o ≠ 28) (h30 : o ≠ 30) : chA M k F o = M o := by
  funext j
  simp only [chA, rem, qup, qrow]
  simp [h4, h28, h30]
theorem chA_28 (h : 0 ≤ M 28 2 ∧ M 28 2 < 8) : chA M k F 28 2 = (M 28 2 + 1) % 8 := by
  rw [chA, rem, rem_w h, qrow_o _ _ (by decide), qup_k _ _ _ (by decide), qrow_o _ _ (by decide), qup_o _ _ _ _ (by decide), qup_s]
theorem chA_283 : chA M k F 28 3 = min (M 28 3 + 1) 8 := by
  rw [chA, rem, qrow_o _ _ (by decide), qup_s]
theorem chA_30 (h : 0 ≤ M 28 2 ∧ M 28 2 < 8) {j : Int} : chA M k F 30 j = if j = (M 28 2 + 1) % 8 then k else M 30 j := by
  rw [chA, rem, rem_w h, qrow_o _ _ (by decide), qup_o _ _ _ _ (by decide), qrow_o _ _ (by decide)]
  by_cases g : j = (M 28 2 + 1) % 8
  · rw [if_pos g, g, qup_s]
  · rw [if_neg g, qup_k _ _ _ g, qup_o _ _ _ _ (by decide)]
theorem chA_row (h : 0 ≤ M 28 2 ∧ M 28 2 < 8) (hk : 0 ≤ k ∧ k < 6) {r i : Int} (i0 : 0 ≤ i) (i1 : i < 256) : rowc (chA M k F) r i = if r = k then F i else if r = 12 + (M 28 2 + 1) % 8 then rowc M k i else rowc M r i := by
  unfold rowc
  rw [chA, rem, rem_w h]
  by_cases g : r = k
  · rw [if_pos g, g, qrow_at _ _ ⟨i0, i1⟩]
  · rw [if_neg g, qrow_ne _ _ ⟨i0, i1⟩ g, qup_o _ _ _ _ (by decide)]
    by_cases g2 : r = 12 + (M 28 2 + 1) % 8
    · rw [if_pos g2, g2, qrow_at _ _ ⟨i0, i1⟩]; rfl
    · rw [if_neg g2, qrow_ne _ _ ⟨i0, i1⟩ g2, qup_o _ _ _ _ (by decide), qup_o _ _ _ _ (by decide)]
theorem chD_o {o : Nat} (h37 : o ≠ 37) (h39 : o ≠ 39) (h40 : o ≠ 40) : chD M k L F' o = M o := by
  funext j
  unfold chD putF
  rw [if_neg (fun w => h39 w.1), kaW_o h37 h40, qup_o _ _ _ _ h37]
theorem chD_37 {j : Int} (h0 : j ≠ 0) (h7 : j ≠ 7) : chD M k L F' 37 j = M 37 j := by
  unfold chD putF
  rw [if_neg (fun w => by have := w.1; omega), kaW_37 h7, qup_k _ _ _ h0]
theorem chD_0 : chD M k L F' 37 0 = 0 := by
  unfold chD putF
  rw [if_neg (fun w => by have := w.1; omega), kaW_37 (by decide), qup_s]
theorem chD_7 : chD M k L F' 37 7 = if M 37 7 = 8 then 8 else M 37 7 + 1 := by
  unfold chD putF
  rw [if_neg (fun w => by have := w.1; omega), kaW_7, qup_k _ _ _ (by decide)]
theorem chD_scl {q i : Int} (hq : 0 ≤ k ∧ 0 ≤ q) (i0 : 0 ≤ i) (i1 : i < 256) : scl (chD M k L F') q i = if q = k ∧ i < p4 L then F' i else scl M q i := by
  have hpL := p4_in (L : Int)
  unfold scl chD putF
  by_cases g : q = k ∧ i < p4 L
  · rw [if_pos g, if_pos ⟨rfl, by omega, by omega⟩, g.1, show 256 * k + i - 256 * k = i by omega]
  · rw [if_neg g, if_neg (fun w => g (by omega)), kaW_o (by decide) (by decide), qup_o _ _ _ _ (by decide)]
theorem chD_40 : chD M k L F' 40 = kaW M 40 := by
  funext i
  unfold chD putF
  rw [if_neg (fun w => by have := w.1; omega), kaW_40, kaW_40, qup_k _ _ _ (by decide), qup_other _ _ _ _ 40 (by decide), qup_other _ _ _ _ 39 (by decide)]
theorem MI_put (hM : MI M) (hL : M 37 2 = (L : Int)) (hk : 0 ≤ k ∧ k < 6) (hF : ∀ i, 0 ≤ i → i < p4 L → 0 ≤ F' i ∧ F' i < 256) : MI (putF M k L F') := by
  obtain ⟨a1, a2, a3, a4, a5, a6, a7, a8, a9, a10, a11, a12, a13, a14⟩ := hM
  have hpL := p4_in (L : Int)
  have f : ∀ o, o ≠ 39 → putF M k L F' o = M o := fun o ho => by
    funext j
    unfold putF
    rw [if_neg (fun w => ho w.1)]
  unfold MI
  rw [f 37 (by decide), f 38 (by decide), f 40 (by decide), f 41 (by decide), f 48 (by decide)]
  refine ⟨a1, a2, a3, a4, fun i i0 i1 => ?_, a6, a7, a8, a9, a10, a11, fun q i q0 q1 i0 i1 => ?_, a13, a14⟩
  · unfold putF
    by_cases g : 256 * k ≤ i ∧ i < 256 * k + p4 L
    · rw [if_pos ⟨rfl, g⟩]; exact hF _ (by omega) (by omega)
    · rw [if_neg (fun w => g w.2)]; exact a5 i i0 i1
  · rw [hL] at i0
    unfold putF
    rw [if_neg (fun w => by have := w.2; omega)]
    exact a12 q i q0 q1 (by rw [hL]; exact i0) i1
theorem Vr_s (M : qM) (j : Nat) (q : Int) : Vr M (j + 1) q = if q = M 30 ((M 28 2 - j) % 8) then rowc M (12 + (M 28 2 - j) % 8) else Vr M j q := rfl
theorem Vr_0 (M : qM) (q : Int) : Vr M 0 q = rowc M q := rfl
theorem Vr_ch (h : 0 ≤ M 28 2 ∧ M 28 2 < 8) (hk : 0 ≤ k ∧ k < 6) : ∀ (j : Nat), j ≤ 7 → ∀ q i, 0 ≤ q → q < 6 → 0 ≤ i → i < 256 → Vr (chA M k F) (j + 1) q i = Vr M j q i := by
  intro j
  induction j with
  | zero =>
    intro _ q i q0 q1 i0 i1
    rw [Vr_s, chA_28 h, chA_30 h, show ((M 28 2 + 1) % 8 - ((0 : Nat) : Int)) % 8 = (M 28 2 + 1) % 8 by omega, if_pos rfl, Vr_0, Vr_0]
    by_cases g : q = k
    · rw [if_pos g, chA_row h hk i0 i1, if_neg (by omega), if_pos rfl, g]
    · rw [if_neg g, chA_row h hk i0 i1, if_neg g, if_neg (by omega)]
  | succ j ih =>
    intro hj q i q0 q1 i0 i1
    have e := ih (by omega) q i q0 q1 i0 i1
    rw [Vr_s (chA M k F), chA_28 h, chA_30 h, show ((M 28 2 + 1) % 8 - ((j + 1 : Nat) : Int)) % 8 = (M 28 2 - (j : Int)) % 8 by omega, if_neg (show ¬ (M 28 2 - (j : Int)) % 8 = (M 28 2 + 1) % 8 by omega), Vr_s M]
    by_cases g : q = M 30 ((M 28 2 - (j : Int)) % 8)
    · rw [if_pos g, if_pos g, chA_row h hk i0 i1, if_neg (by omega), if_neg (by omega)]
    · rw [if_neg g, if_neg g]; exact e
set_option maxHeartbeats 1000000 in
theorem Inv_ch (hI : Inv M) (hR : qRl M L) (hk : 0 ≤ k ∧ k < M 0 11) (hF : ∀ i, 0 ≤ i → i < 256 → 0 ≤ F i ∧ F i < 256) (hF' : ∀ i, 0 ≤ i → i < p4 L → 0 ≤ F' i ∧ F' i < 256) (he : cE F F' L) : Inv (chD (chA M k F) k L F') := by
  obtain ⟨hC, hM, _⟩ := id hI
  have h6 := hM.2.2.2.1
  have h3 := hR.2.2.2.1
  have hk6 : 0 ≤ k ∧ k < 6 := by omega
  have h2 := hC.2.2.2.2.2.2.2.2.1
  have h7 := hM.2.2.2.2.2.2.1
  have hpL := p4_in (L : Int)
  have f : ∀ o, 37 ≤ o → chA M k F o = M o := fun o ho => chA_o (by omega) (by omega) (by omega)
  have g : ∀ o, o < 37 → chD (chA M k F) k L F' o = chA M k F o := fun o ho => chD_o (by omega) (by omega) (by omega)
  have hMA : MI (chA M k F) := MI_o f hM
  have e37 : ∀ j, j ≠ 0 → j ≠ 7 → chD (chA M k F) k L F' 37 j = M 37 j := fun j j0 j7 => by rw [chD_37 j0 j7, f 37 (by decide)]
  have eo : ∀ o, o ≠ 4 → o ≠ 28 → o ≠ 30 → o ≠ 37 → o ≠ 39 → o ≠ 40 → chD (chA M k F) k L F' o = M o := fun o a1 a2 a3 a4 a5 a6 => by rw [chD_o a4 a5 a6, chA_o a1 a2 a3]
  have hc := CI_row (rem_CI hC hk6) (r := k) (F := F) (by omega) hF
  refine ⟨CI_o g hc, MI_put (MI_ka (MI_g hMA 0)) ?_ hk6 hF', L, ?_⟩
  · rw [kaW_37 (by decide), qup_k _ _ _ (by decide), f 37 (by decide)]; exact hR.2.1
  · obtain ⟨a1, a2, a3, a4, a5, a6, a7, a8, a9, a10, a11, a12, a13, a14, a15, a16⟩ := hR
    have e283 : chD (chA M k F) k L F' 28 3 = min (M 28 3 + 1) 8 := by rw [g 28 (by decide), chA_283]
    have e7 : chD (chA M k F) k L F' 37 7 = if M 37 7 = 8 then 8 else M 37 7 + 1 := by rw [chD_7, f 37 (by decide)]
    have hrow : ∀ r, rowc (chD (chA M k F) k L F') r = rowc (chA M k F) r := fun r => by unfold rowc; rw [g 4 (by decide)]
    have hV : ∀ j q i, 0 ≤ q → q < 6 → 0 ≤ i → i < 256 → Vr (chD (chA M k F) k L F') j q i = Vr (chA M k F) j q i := Vr_c (by rw [g 28 (by decide)]) (fun j _ _ => by rw [g 30 (by decide)]) (fun r i _ _ _ => by rw [hrow])
    have hst : ∀ st q, sto (chD (chA M k F) k L F') st q = fun i => kaW M 40 (1536 * st + (256 * q + i)) := fun st q => by
      unfold sto
      rw [chD_40]
      funext i
      rw [kaW_40, kaW_40, f 37 (by decide), f 39 (by decide), f 40 (by decide)]
    unfold qRl
    rw [eo 0 (by decide) (by decide) (by decide) (by decide) (by decide) (by decide), eo 1 (by decide) (by decide) (by decide) (by decide) (by decide) (by decide), eo 2 (by decide) (by decide) (by decide) (by decide) (by decide) (by decide), eo 31 (by decide) (by decide) (by decide) (by decide) (by decide) (by decide), eo 32 (by decide) (by decide) (by decide) (by decide) (by decide) (by decide), eo 34 (by decide) (by decide) (by decide) (by decide) (by decide) (by decide), eo 36 (by decide) (by decide) (by decide) (by decide) (by decide) (by decide), eo 38 (by decide) (by decide) (by decide) (by decide) (by decide) (by decide), eo 41 (by decide) (by decide) (by decide) (by decide) (by decide) (by decide), eo 48 (by decide) (by decide) (by decide) (by decide) (by decide) (by decide), eo 51 (by decide) (by decide) (by decide) (by decide) (by decide) (by decide), e37 1 (by decide) (by decide), e37 2 (by decide) (by decide), e37 3 (by decide) (by decide), e37 21 (by decide) (by decide), e37 22 (by decide) (by decide), e37 23 (by decide) (by decide), e37 35 (by decide) (by decide), e283, e7]
    refine ⟨a1, a2, a3, a4, a5, a6, a7, a8, a9, a10, a11, fun q q0 q1 i i0 i1 => ?_, ?_, fun j q hj q0 q1 i i0 i1 => ?_, a15, fun s q s0 s1 hs q0 q1 i i0 i1 => ?_⟩
    · rw [hrow, chA_row h2 hk6 i0 (by omega), chD_scl ⟨hk.1, q0⟩ i0 (by omega)]
      by_cases w : q = k
      · rw [if_pos w, if_pos ⟨w, i1⟩]; exact he i i0 i1
      · rw [if_neg w, if_neg (by omega), if_neg (fun u => w u.1)]
        have := a12 q q0 q1 i i0 i1
        rw [this]
        unfold scl
        rw [f 39 (by decide)]
    · rw [a13]
      by_cases w : M 37 7 = 8
      · rw [if_pos w]; omega
      · rw [if_neg w]; omega
    · rw [hV (j + 1) q i q0 (by omega) i0 (by omega), Vr_ch h2 hk6 j (by by_cases w : M 37 7 = 8 <;> simp only [w, if_true, if_false] at hj <;> omega) q i q0 (by omega) i0 (by omega), hst]
      dsimp only
      rw [kaW_40]
      by_cases w : M 37 7 = 8
      · rw [if_pos w] at hj ⊢
        rw [if_pos w]
        cases j with
        | zero =>
          rw [if_neg (by omega), if_pos (by omega), Vr_0, a12 q q0 q1 i i0 i1]
          unfold scl
          congr 1
          omega
        | succ j =>
          rw [if_pos (by omega), a14 j q (by omega) q0 q1 i i0 i1]
          unfold sto
          congr 1
          omega
      · rw [if_neg w] at hj ⊢
        rw [if_neg w]
        cases j with
        | zero =>
          rw [if_pos (by omega), Vr_0, a12 q q0 q1 i i0 i1]
          unfold scl
          congr 1
          omega
        | succ j =>
          rw [if_neg (by omega), a14 j q (by omega) q0 q1 i i0 i1]
          unfold sto
          congr 1
          omega
    · rw [hrow, chA_row h2 hk6 i0 (by omega), if_neg (by omega), if_neg (by omega), a16 s q s0 s1 hs q0 q1 i i0 i1, hst]
      dsimp only
      rw [kaW_40]
      unfold sto
      by_cases w : M 37 7 = 8
      · rw [if_pos w, if_neg (by omega), if_neg (by omega)]
      · rw [if_neg w, if_neg (by omega)]
/-- the model's change over scratch of the class -/
theorem Inv_chS (hI : Inv M) (hR : qRl M L) (hk : 0 ≤ k ∧ k < M 0 11) (hF : ∀ i, 0 ≤ i → i < 256 → 0 ≤ F i ∧ F i < 256) (hF' : ∀ i, 0 ≤ i → i < p4 L → 0 ≤ F' i ∧ F' i < 256) (he : cE F F' L) {M1 : qM} (hS : Scr (chA M k F) M1) : Inv (chD M1 k L F') := by
  refine Inv_Scr (Inv_ch hI hR hk hF hF' he) (Scr_D hS (fun o ho => chD_o (by omega) (by omega) (by omega)) (fun o ho => chD_o (by omega) (by omega) (by omega)) (fun o ho => ?_))
  have e : ∀ o, 37 ≤ o → M1 o = chA M k F o := fun o ho => hS.1 o (by unfold sfr; omega)
  funext j
  unfold chD putF
  by_cases g : o = 39 ∧ 256 * k ≤ j ∧ j < 256 * k + p4 L
  · rw [if_pos g, if_pos g]
  · rw [if_neg g, if_neg g]
    by_cases w : o = 37
    · subst w
      by_cases w7 : j = 7
      · subst w7; rw [kaW_7, kaW_7, qup_k _ _ _ (by decide), qup_k _ _ _ (by decide), e 37 (by decide)]
      · rw [kaW_37 w7, kaW_37 w7]; unfold qup; rw [e 37 (by decide)]
    · by_cases w2 : o = 40
      · subst w2
        rw [kaW_40, kaW_40, qup_k _ _ _ (by decide), qup_k _ _ _ (by decide), qup_other _ _ _ _ 40 (by decide), qup_other _ _ _ _ 40 (by decide), qup_other _ _ _ _ 39 (by decide), qup_other _ _ _ _ 39 (by decide), e 37 (by decide), e 39 (by decide), e 40 (by decide)]
      · rw [kaW_o w w2, kaW_o w w2, qup_o _ _ _ _ w, qup_o _ _ _ _ w, e o ho]
end CHG


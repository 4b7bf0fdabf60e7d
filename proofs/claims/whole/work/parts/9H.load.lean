/-! What the class answers the model answers: read, load. -/
def Wl (E : String) (c : Int) : Prop := (E = qEIOE ∧ c = 1) ∨ (E = qEIAE ∧ c = 2)
section PH
variable {M : qM} {L : Nat} {k n : Int} {F : Int → Int}
theorem cl_ec (N : qM) (g : Int) : qup (qup N 37 0 g) 37 21 0 = qup (clD N) 37 0 g := by
  funext o j
  unfold clD qup
  by_cases w : o = 37
  · by_cases w1 : j = 0
    · simp [w, w1]
    · simp [w, w1]
  · simp [w]
theorem chA_cl (N : qM) : chA (clD N) k F = clD (chA N k F) := by
  funext o j
  unfold chA rem qrow clD qup rowc
  by_cases w : o = 37
  · simp [w]
  · simp [w]
theorem qRl_L {N : qM} {L' : Nat} (h : qRl N L') (e : N 0 10 = (L : Int)) : qRl N L := by
  have := h.1
  have e2 : L' = L := by omega
  rw [← e2]
  exact h
set_option maxHeartbeats 1000000 in
theorem p_read (hI : Inv M) (hk : zR k) (hn : zR n) : qPr W3 mX7_read mX8_read 4 9 12 [.int (zI k), .int (zI n)] M := by
  obtain ⟨hC, hM, _⟩ := id hI
  obtain ⟨L, hR, hL4, h6, h11⟩ := Inv_L hI
  have hpL := p4_in (L : Int)
  have h48 := hR.2.2.2.2.2.2.2.1
  have hg : ∀ M1 : qM, M1 37 = M 37 → gor (gG M1 k) (gBm M1 n) = gor (gText M) (gor (gMap M k) (gor (gBuf M n) 0)) := fun M1 e37 => by
    rw [gT_e hR, gM_e hR, gF_e hR]
    simp only [gG, gor_as, gor_z]
    unfold mT mMp gBm
    rw [e37]
  refine ⟨_, k_read hC hR.1 hk hn, fun v M1 q => ?_, fun E M1 q => ?_⟩
  · obtain ⟨g1, g2, g3, ho, rfl, G, hG, hGb, hS⟩ := q
    have eA : ∀ o, 37 ≤ o → M1 o = chA (qup M 1 1 0) k G o := fun o ho => hS.1 o (by unfold sfr; omega)
    have e : ∀ o, 37 ≤ o → M1 o = M o := fun o ho => by rw [eA o ho, chA_o (by omega) (by omega) (by omega), qup_other M 1 1 0 o (by omega)]
    refine ⟨_, rfl, qCt_mono (o_read (MI_o e hM) (by rw [e 37 (by decide)]; exact hR.2.1) hk hn) (fun v M2 w => ?_) (fun _ _ w => w.elim)⟩
    obtain ⟨z', rfl, w⟩ := w
    have gz : gor (gG M1 k) (gBm M1 n) = 0 := by rw [hg M1 (e 37 (by decide)), g1, g2, g3]; rfl
    unfold rdQ at w
    rw [e 48 (by decide), ← h48] at w
    rcases w with ⟨w, _⟩ | ⟨_, w, _⟩ | ⟨_, _, w1, w2, w3⟩
    · exact absurd gz w
    · exact absurd ho w
    · have hIB := Inv_clr hI
      obtain ⟨LB, hRB, _⟩ := Inv_L hIB
      have hRB := qRl_L hRB (show clD (qup M 1 1 0) 0 10 = (L : Int) by rw [clD_o (by decide), qup_o _ _ _ _ (by decide)]; exact hR.1)
      have hkB : 0 ≤ k ∧ k < clD (qup M 1 1 0) 0 11 := by rw [clD_o (by decide), qup_o _ _ _ _ (by decide)]; exact gM_in g2
      have hSB : Scr (chA (clD (qup M 1 1 0)) k G) (clD M1) := Scr_D (A := chA (qup M 1 1 0) k G) hS (fun o ho => by rw [chA_cl, clD_o (by omega)]) (fun o ho => clD_o (by omega)) (fun o ho => by
        rw [chA_cl]
        funext j
        unfold clD qup
        simp only [eA o ho]
        rfl)
      have hI2 := Inv_chS hIB hRB hkB hGb w2 hG hSB
      rw [cl_ec] at w3
      exact ⟨z', rfl, by rw [w1, v_all (cE_rf _ L)], by rw [MS_0 w3]; exact chD_0, Inv_MS hI2 w3⟩
  · rcases q with ⟨g, rfl, rfl⟩ | ⟨g1, g2, g3, ho, rfl, hS⟩
    · have r3 : rg3 (gor (gText M1) (gor (gMap M1 k) (gor (gBuf M1 n) 0))) := rg23 (rg2_gor rgT (rg2_gor rgM (rg2_gor rgF rg2_0)))
      refine ⟨_, ⟨rfl, by unfold rg3 at r3; omega⟩, qCt_mono (o_read hM hR.2.1 hk hn) (fun v M2 w => ?_) (fun _ _ w => w.elim)⟩
      obtain ⟨z', rfl, w⟩ := w
      unfold rdQ at w
      rw [hg M1 rfl] at w
      rcases w with ⟨_, w⟩ | ⟨w, _⟩ | ⟨w, _⟩
      · exact ⟨z', rfl, by rw [MS_0 w, qup_s], Inv_MS (Inv_0 hI _) w⟩
      · exact absurd w g
      · exact absurd w g
    · have e := clr_f hS
      refine ⟨3, ⟨rfl, Or.inr (Or.inr rfl)⟩, qCt_mono (o_read (MI_o e hM) (by rw [e 37 (by decide)]; exact hR.2.1) hk hn) (fun v M2 w => ?_) (fun _ _ w => w.elim)⟩
      obtain ⟨z', rfl, w⟩ := w
      have gz : gor (gG M1 k) (gBm M1 n) = 0 := by rw [hg M1 (e 37 (by decide)), g1, g2, g3]; rfl
      unfold rdQ at w
      rw [e 48 (by decide), ← h48] at w
      rcases w with ⟨w, _⟩ | ⟨_, _, w⟩ | ⟨_, w, _⟩
      · exact absurd gz w
      · rw [cl_ec] at w
        exact ⟨z', rfl, by rw [MS_0 w, qup_s], Inv_MS (Inv_0 (Inv_clrS hI hS) 3) w⟩
      · exact absurd w ho
/-- the text was wrong -/
def erA (M : qM) (c s : Int) : qM := qup (qup (qup M 1 1 0) 0 12 c) 0 13 s
def erD (M : qM) (c s : Int) : qM := qup (qup (qup M 37 21 0) 37 22 c) 37 23 s
theorem Inv_er (hI : Inv M) (c s : Int) : Inv (erD (erA M c s) c s) := by
  obtain ⟨hC, hM, L, hR⟩ := id hI
  obtain ⟨a1, a2, a3, a4, a5, a6, a7, a8, a9, a10, a11, a12, a13, a14, a15, a16⟩ := id hR
  have f : ∀ o, o ≠ 0 → o ≠ 1 → o ≠ 37 → erD (erA M c s) c s o = M o := fun o h0 h1 h3 => by funext j; simp [erD, erA, qup, h0, h1, h3]
  have f0 : ∀ j, j ≠ 12 → j ≠ 13 → erD (erA M c s) c s 0 j = M 0 j := fun j h0 h1 => by simp [erD, erA, qup, h0, h1]
  have f12 : erD (erA M c s) c s 0 12 = c := by simp [erD, erA, qup]
  have f13 : erD (erA M c s) c s 0 13 = s := by simp [erD, erA, qup]
  have f1 : erD (erA M c s) c s 1 1 = 0 := by simp [erD, erA, qup]
  have f37 : ∀ j, j ≠ 21 → j ≠ 22 → j ≠ 23 → erD (erA M c s) c s 37 j = M 37 j := fun j h0 h1 h2 => by simp [erD, erA, qup, h0, h1, h2]
  have f21 : erD (erA M c s) c s 37 21 = 0 := by simp [erD, erA, qup]
  have f22 : erD (erA M c s) c s 37 22 = c := by simp [erD, erA, qup]
  have f23 : erD (erA M c s) c s 37 23 = s := by simp [erD, erA, qup]
  generalize erD (erA M c s) c s = N at f f0 f12 f13 f1 f37 f21 f22 f23
  have hrow : ∀ r, rowc N r = rowc M r := fun r => by unfold rowc; rw [f 4 (by decide) (by decide) (by decide)]
  have hV : ∀ j q, Vr N j q = Vr M j q := by
    intro j
    induction j with
    | zero => intro q; rw [Vr_0, Vr_0, hrow]
    | succ j ih => intro q; rw [Vr_s, Vr_s, f 30 (by decide) (by decide) (by decide), f 28 (by decide) (by decide) (by decide), ih q, hrow]
  have hsto : ∀ st q, sto N st q = sto M st q := fun st q => by unfold sto; rw [f 40 (by decide) (by decide) (by decide)]
  have hscl : ∀ q, scl N q = scl M q := fun q => by unfold scl; rw [f 39 (by decide) (by decide) (by decide)]
  refine ⟨?_, MI_b hM (fun j hj => f37 j (by omega) (by omega) (by omega)) (f 38 (by decide) (by decide) (by decide)) (f 39 (by decide) (by decide) (by decide)) (f 40 (by decide) (by decide) (by decide)) (f 41 (by decide) (by decide) (by decide)) (by rw [f21]; omega) (fun i i0 i1 => by rw [f21] at i1; omega) (by rw [f37 35 (by decide) (by decide) (by decide)]; exact hM.2.2.2.2.2.2.2.2.2.2.1), L, ?_⟩
  · obtain ⟨c1, c2, c3, c4, c5, c6, c7, c8, c9, c10, c11, c12, c13, c14, c15⟩ := hC
    unfold CI
    rw [f1, f 4 (by decide) (by decide) (by decide), f 2 (by decide) (by decide) (by decide), f 13 (by decide) (by decide) (by decide), f 18 (by decide) (by decide) (by decide), f 28 (by decide) (by decide) (by decide), f 30 (by decide) (by decide) (by decide), f 31 (by decide) (by decide) (by decide), f 34 (by decide) (by decide) (by decide), f 36 (by decide) (by decide) (by decide), f0 9 (by decide) (by decide), f0 10 (by decide) (by decide), f0 11 (by decide) (by decide)]
    exact ⟨c1, c2, c3, by omega, fun i i0 i1 => by omega, c6, c7, c8, c9, c10, c11, c12, c13, c14, c15⟩
  · unfold qRl
    simp only [hV, hrow, hsto, hscl]
    rw [f0 10 (by decide) (by decide), f0 9 (by decide) (by decide), f0 11 (by decide) (by decide), f12, f13, f1, f21, f22, f23, f37 1 (by decide) (by decide) (by decide), f37 2 (by decide) (by decide) (by decide), f37 3 (by decide) (by decide) (by decide), f37 7 (by decide) (by decide) (by decide), f37 35 (by decide) (by decide) (by decide), f 2 (by decide) (by decide) (by decide), f 31 (by decide) (by decide) (by decide), f 32 (by decide) (by decide) (by decide), f 34 (by decide) (by decide) (by decide), f 28 (by decide) (by decide) (by decide), f 36 (by decide) (by decide) (by decide), f 38 (by decide) (by decide) (by decide), f 41 (by decide) (by decide) (by decide), f 48 (by decide) (by decide) (by decide), f 51 (by decide) (by decide) (by decide)]
    exact ⟨a1, a2, a3, a4, rfl, rfl, rfl, a8, a9, a10, a11, a12, a13, a14, a15, a16⟩
theorem Inv_ld {M1 M2 : qM} {σ : qσ} (hI : Inv M) (hσ : 0 ≤ σ.2.1 ∧ σ.2.1 ≤ 6) (h1 : LdW M σ L M1) (h2 : ldM M1 σ L M2) : Inv M2 := by
  obtain ⟨hC, hM, L0, hR⟩ := hI
  obtain ⟨c1, c2, c3, c4, c5, c6, c7, c8, c9, c10, c11, c12, c13⟩ := h1
  obtain ⟨m1, m2, m3, m4, m5, m6, m7, m8, m9, m10, m11, m12, m13, m14, ⟨m15, m16⟩, m17⟩ := h2
  obtain ⟨a1, a2, a3, a4, a5, a6, a7, a8, a9, a10, a11, a12, a13, a14, a15, a16⟩ := hR
  have hpL := p4_in (L : Int)
  have g : ∀ o, o < 37 → M2 o = M1 o := fun o ho => m17 o (Or.inl ho)
  refine ⟨CI_o g c1, m1, L, ?_⟩
  unfold qRl
  rw [g 0 (by decide), g 1 (by decide), g 2 (by decide), g 28 (by decide), g 31 (by decide), g 32 (by decide), g 34 (by decide), g 36 (by decide), m3, m4, m5, m6, m7, m8, m9, m10, m15, m16, c2, c3, c4, c5, c6, c7, c8, c13 2 (by omega) (by decide) (by decide), c13 31 (by omega) (by decide) (by decide), c13 32 (by omega) (by decide) (by decide), c13 37 (by omega) (by decide) (by decide), c13 48 (by omega) (by decide) (by decide), c13 51 (by omega) (by decide) (by decide)]
  refine ⟨rfl, rfl, rfl, rfl, rfl, rfl, rfl, a8, a9, a10, fun k k0 k1 => ?_, fun k k0 k1 i i0 i1 => ?_, rfl, fun j k hj => by omega, fun s s0 s1 => ?_, fun s k s0 s1 hs => ?_⟩
  · rw [c11 k k0 k1]; exact m13 k k0 k1
  · rw [m14 k i k0 k1 i0 i1]
    unfold rowc
    rw [g 4 (by decide)]
    exact c12 k i k0 k1 i0 (by omega)
  · have e : s = 0 ∨ s = 1 := by omega
    rcases e with rfl | rfl
    · rw [c9, m11]
    · rw [c10, m12]
  · exfalso
    have e : s = 0 ∨ s = 1 := by omega
    rcases e with rfl | rfl
    · exact hs m11
    · exact hs m12
set_option maxHeartbeats 1000000 in
theorem p_load (hI : Inv M) (hn : zR n) : qPr Wl mX7_load mX8_load 2 9 14 [.int (zI n)] M := by
  obtain ⟨hC, hM, _⟩ := id hI
  obtain ⟨L0, hR, hL4, h6, h11⟩ := Inv_L hI
  have h48 := hR.2.2.2.2.2.2.2.1
  have h7 := hR.2.2.2.2.2.2.1
  refine ⟨_, k_load hC hn, fun v M1 q => ?_, fun E M1 q => ?_⟩
  · obtain ⟨g, σ, L, hp, l1, l4, hLv, rfl, s0, s6, hW⟩ := q
    have e : ∀ o, 37 ≤ o → M1 o = M o := fun o ho => hW.2.2.2.2.2.2.2.2.2.2.2.2 o (by omega) (by omega) (by omega)
    refine ⟨_, rfl, qCt_mono (o_load (MI_o e hM) hn) (fun v M2 w => ?_) (fun _ _ w => w.elim)⟩
    obtain ⟨z', rfl, w⟩ := w
    have gn := gN_in g
    unfold ldQ at w
    rw [e 37 (by decide), e 48 (by decide), ← h48, hp] at w
    rcases w with ⟨w, _⟩ | ⟨_, y, _, w, _⟩ | ⟨_, σ', L', w, hL', hv', hz, hd⟩
    · exact absurd ⟨gn.1, by omega⟩ w
    · exact absurd w (by simp)
    · have es : σ = σ' := by simpa using w
      subst es
      have eL : L' = L := by omega
      subst eL
      exact ⟨z', rfl, hz, hd.2.1, Inv_ld hI ⟨s0, s6⟩ hW hd⟩
  · rcases q with ⟨g, rfl, rfl⟩ | ⟨g, rfl, c, s, c0, hp, hS⟩
    · refine ⟨1, Or.inl ⟨rfl, rfl⟩, qCt_mono (o_load hM hn) (fun v M2 w => ?_) (fun _ _ w => w.elim)⟩
      obtain ⟨z', rfl, w⟩ := w
      have gn : ¬ (0 ≤ n ∧ n ≤ M1 37 21) := fun u => g (if_pos ⟨u.1, by omega⟩)
      rcases w with ⟨_, w⟩ | ⟨w, _⟩ | ⟨w, _⟩
      · exact ⟨z', rfl, by rw [MS_0 w, qup_s], Inv_MS (Inv_0 hI _) w⟩
      · exact absurd w gn
      · exact absurd w gn
    · have eA : ∀ o, 37 ≤ o → M1 o = erA M c s o := fun o ho => hS.1 o (by unfold sfr; omega)
      have e : ∀ o, 37 ≤ o → M1 o = M o := fun o ho => by
        rw [eA o ho]
        funext j
        unfold erA
        rw [qup_o _ _ _ _ (by omega), qup_o _ _ _ _ (by omega), qup_o _ _ _ _ (by omega)]
      refine ⟨2, Or.inr ⟨rfl, rfl⟩, qCt_mono (o_load (MI_o e hM) hn) (fun v M2 w => ?_) (fun _ _ w => w.elim)⟩
      obtain ⟨z', rfl, w⟩ := w
      have gn := gN_in g
      unfold ldQ at w
      rw [e 37 (by decide), e 48 (by decide), ← h48, hp] at w
      rcases w with ⟨w, _⟩ | ⟨_, y, y0, w, hd⟩ | ⟨_, σ', L', w, _⟩
      · exact absurd ⟨gn.1, by omega⟩ w
      · have ey : (c, s) = y := by simpa using w
        subst ey
        have hI2 : Inv (erD M1 c s) := Inv_Scr (Inv_er hI c s) (Scr_D (A := erA M c s) hS (fun o ho => by funext j; simp [erD, qup, show o ≠ 37 by omega]) (fun o ho => by funext j; simp [erD, qup, show o ≠ 37 by omega]) (fun o ho => by
          funext j
          unfold erD qup
          simp only [eA o ho]))
        exact ⟨z', rfl, by rw [MS_0 hd, qup_s], Inv_MS (Inv_0 hI2 2) hd⟩
      · exact absurd w (by simp)
/-- one step of both that answers other than an int -/
def qPrV (S : Value → Value → Prop) (W : String → Int → Prop) (mk mo : qY) (u dk dm : Nat) (al : List Value) (M : qM) : Prop := ∃ P : qP, qCt mk u dk (.ref 0 :: al) M P ∧ (∀ v M1, P.1 v M1 → ∃ z, v = some z ∧ qCt mo 0 dm (.ref 37 :: al) M1 (fun v' M2 => ∃ z', v' = some z' ∧ S z z' ∧ M2 37 0 = 0 ∧ Inv M2, fun _ _ => False)) ∧ ∀ E M1, P.2 E M1 → ∃ c, W E c ∧ qCt mo 0 dm (.ref 37 :: al) M1 (fun v' M2 => ∃ z z', v' = some z' ∧ S z z' ∧ M2 37 0 = c ∧ Inv M2, fun _ _ => False)
def sD (z z' : Value) : Prop := ∃ d, z = .double d ∧ z' = .double d
def sFl (z z' : Value) : Prop := ∃ d, z = .float d ∧ z' = .float d
theorem gG2 (hR : qRl M L) {M1 : qM} (e37 : M1 37 = M 37) : gG M1 k = gor (gText M) (gor (gMap M k) 0) := by
  rw [gT_e hR, gM_e hR, gor_z]
  unfold gG mT mMp
  rw [e37]
set_option maxHeartbeats 1000000 in
theorem p_meanBits (hI : Inv M) (hk : zR k) : qPrV sD W2 mX7_meanBits mX8_meanBits 2 9 9 [.int (zI k)] M := by
  obtain ⟨hC, hM, _⟩ := id hI
  obtain ⟨L, hR, hL4, h6, h11⟩ := Inv_L hI
  have f : ∀ M1, Scr M M1 → (∀ o, 37 ≤ o → M1 o = M o) := fun M1 e o ho => e.1 o (by unfold sfr; omega)
  refine ⟨_, k_meanBits hC hR.1 hk, fun v M1 q => ?_, fun E M1 q => ?_⟩
  · obtain ⟨g, z, rfl, rfl, hS⟩ := q
    have e := f M1 hS
    have hI1 := Inv_Scr hI hS
    refine ⟨_, rfl, qCt_mono (o_meanBits hI1.2.1 (by rw [e 37 (by decide)]; exact hR.2.1) hk) (fun v M2 w => ?_) (fun _ _ w => w.elim)⟩
    obtain ⟨z', rfl, w⟩ := w
    rw [gG2 hR (e 37 (by decide))] at w
    rcases w with ⟨w, _⟩ | ⟨_, w, w2⟩
    · exact absurd g w
    · simp only [gor_00] at g
      have hk0 := gM_in g.2.1
      have c1 := R_c hR hk0
      have es : scl M1 k = scl M k := by funext i; unfold scl; rw [e 39 (by decide)]
      rw [es, ← v_all c1, ← tsz_eL hL4 c1] at w
      exact ⟨_, rfl, ⟨_, rfl, by rw [w]⟩, by rw [MS_0 w2, qup_s], Inv_MS (Inv_0 hI1 0) w2⟩
  · obtain ⟨g, rfl, hS⟩ := q
    have e := f M1 hS
    have hI1 := Inv_Scr hI hS
    have r2 : rg2 (gor (gText M) (gor (gMap M k) 0)) := rg2_gor rgT (rg2_gor rgM rg2_0)
    refine ⟨_, ⟨rfl, by unfold rg2 at r2; omega⟩, qCt_mono (o_meanBits hI1.2.1 (by rw [e 37 (by decide)]; exact hR.2.1) hk) (fun v M2 w => ?_) (fun _ _ w => w.elim)⟩
    obtain ⟨z', rfl, w⟩ := w
    rw [gG2 hR (e 37 (by decide))] at w
    rcases w with ⟨_, w⟩ | ⟨w, _⟩
    · exact ⟨_, _, rfl, ⟨_, rfl, rfl⟩, by rw [MS_0 w, qup_s], Inv_MS (Inv_0 hI1 _) w⟩
    · exact absurd w g
set_option maxHeartbeats 1000000 in
theorem p_share (hI : Inv M) (hk : zR k) : qPrV sFl W2 mX7_share mX8_share 2 9 9 [.int (zI k)] M := by
  obtain ⟨hC, hM, _⟩ := id hI
  obtain ⟨L, hR, hL4, h6, h11⟩ := Inv_L hI
  have f : ∀ M1, Scr M M1 → (∀ o, 37 ≤ o → M1 o = M o) := fun M1 e o ho => e.1 o (by unfold sfr; omega)
  refine ⟨_, k_share hC hR.1 hk, fun v M1 q => ?_, fun E M1 q => ?_⟩
  · obtain ⟨g, z, rfl, rfl, hS⟩ := q
    have e := f M1 hS
    have hI1 := Inv_Scr hI hS
    refine ⟨_, rfl, qCt_mono (o_share hI1.2.1 (by rw [e 37 (by decide)]; exact hR.2.1) hk) (fun v M2 w => ?_) (fun _ _ w => w.elim)⟩
    obtain ⟨z', rfl, w⟩ := w
    rw [gG2 hR (e 37 (by decide))] at w
    rcases w with ⟨w, _⟩ | ⟨_, w, w2⟩
    · exact absurd g w
    · simp only [gor_00] at g
      have hk0 := gM_in g.2.1
      have c1 := R_c hR hk0
      have es : scl M1 k = scl M k := by funext i; unfold scl; rw [e 39 (by decide)]
      rw [es, ← tsz_eL hL4 c1] at w
      exact ⟨_, rfl, ⟨_, rfl, by rw [w]⟩, by rw [MS_0 w2, qup_s], Inv_MS (Inv_0 hI1 0) w2⟩
  · obtain ⟨g, rfl, hS⟩ := q
    have e := f M1 hS
    have hI1 := Inv_Scr hI hS
    have r2 : rg2 (gor (gText M) (gor (gMap M k) 0)) := rg2_gor rgT (rg2_gor rgM rg2_0)
    refine ⟨_, ⟨rfl, by unfold rg2 at r2; omega⟩, qCt_mono (o_share hI1.2.1 (by rw [e 37 (by decide)]; exact hR.2.1) hk) (fun v M2 w => ?_) (fun _ _ w => w.elim)⟩
    obtain ⟨z', rfl, w⟩ := w
    rw [gG2 hR (e 37 (by decide))] at w
    rcases w with ⟨_, w⟩ | ⟨w, _⟩
    · exact ⟨_, _, rfl, ⟨_, rfl, rfl⟩, by rw [MS_0 w, qup_s], Inv_MS (Inv_0 hI1 _) w⟩
    · exact absurd w g
end PH


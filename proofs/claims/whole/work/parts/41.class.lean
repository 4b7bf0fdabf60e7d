/-! The class: its invariant, what is scratch, guards, History. -/
def gor (a b : Int) : Int := if a ≠ 0 then a else b
theorem gor_0 {a b : Int} (h : a = 0) : gor a b = b := if_neg (fun q => q h)
theorem gor_n {a b : Int} (h : a ≠ 0) : gor a b = a := if_pos h
def exN (g : Int) : String := if g = 1 then qEISE else if g = 2 then qEIOE else qEIAE
/-- g says what is thrown: 0 nothing, 1, 2, 3 the three exceptions -/
def qpG (g : Int) (M : qM) : qP := (fun v M' => v = none ∧ M' = M ∧ g = 0, fun E M' => E = exN g ∧ M' = M ∧ g ≠ 0)
def qpx (g : Int) (R : Int → qM → Prop) (Mx : qM → Prop) : qP := (fun v M' => g = 0 ∧ ∃ z, v = some (.int (zI z)) ∧ R z M', fun E M' => g ≠ 0 ∧ E = exN g ∧ Mx M')
section GX
variable {X : qX} {J : qJ} {b pc : Nat} {L : List (Option Value)} {st rest : List Value} {M : qM} {g G : Int} {R : Int → qM → Prop} {Mx : qM → Prop}
theorem qk_G (k : g = 0 → QW X J (qpx G R Mx) b pc L rest M) (hx : Mx M) : QK X J (qpx (gor g G) R Mx) b pc L rest (qpG g M) := ⟨fun v M' h => by
    obtain ⟨rfl, rfl, h⟩ := h
    rw [gor_0 h]
    exact k h, fun E M' h => by
    obtain ⟨rfl, rfl, h⟩ := h
    rw [show (qpx (gor g G) R Mx) = qpx g R Mx by rw [gor_n h]]
    exact ⟨h, rfl, hx⟩⟩
theorem qk_G1 (k : g = 0 → QW X J (qpx 0 R Mx) b pc L rest M) (hx : Mx M) : QK X J (qpx g R Mx) b pc L rest (qpG g M) := ⟨fun v M' h => by
    obtain ⟨rfl, rfl, h⟩ := h
    rw [h]
    exact k h, fun E M' h => by
    obtain ⟨rfl, rfl, h⟩ := h
    exact ⟨h, rfl, hx⟩⟩
theorem q_G0 (h : g = 0) (k : QW X J (qpx G R Mx) b pc L st M) : QW X J (qpx (gor g G) R Mx) b pc L st M := by rw [gor_0 h]; exact k
theorem qk_GG (k : g = 0 → QW X J (qpG G M) b pc L rest M) : QK X J (qpG (gor g G) M) b pc L rest (qpG g M) := ⟨fun v M' h => by
    obtain ⟨rfl, rfl, h⟩ := h
    rw [gor_0 h]
    exact k h, fun E M' h => by
    obtain ⟨rfl, rfl, h⟩ := h
    rw [show (qpG (gor g G) M') = qpG g M' by rw [gor_n h]]
    exact ⟨rfl, rfl, h⟩⟩
end GX
def gText (M : qM) : Int := if M 0 9 = 1 then 0 else 1
def gBuf (M : qM) (n : Int) : Int := if 0 ≤ n ∧ n ≤ M 1 1 then 0 else 2
def gMap (M : qM) (k : Int) : Int := if 0 ≤ k ∧ k < M 0 11 then 0 else 2
def gPos (M : qM) (p : Int) : Int := if 0 ≤ p ∧ p < 8 * p4 (M 0 10) then 0 else 2
def gRng (M : qM) (f t : Int) : Int := gor (gPos M f) (gor (gPos M t) (if f ≤ t then 0 else 2))
def gLev (M : qM) (l : Int) : Int := if 0 ≤ l ∧ l ≤ M 0 10 then 0 else 2
def gBlk (M : qM) (l x : Int) : Int := gor (gLev M l) (if 0 ≤ x ∧ x < p4 (M 0 10 - l) then 0 else 2)
def gByte (n i : Int) : Int := if 0 ≤ i ∧ i < n then 0 else 2
def gSlot (s : Int) : Int := if 0 ≤ s ∧ s < 2 then 0 else 2
def gBit (v : Int) : Int := if v = 0 ∨ v = 1 then 0 else 3
def gKind (k : Int) : Int := if 0 ≤ k ∧ k ≤ 3 then 0 else 3
theorem ite0 {p : Prop} [Decidable p] {v : Int} (hv : v ≠ 0) : (if p then (0 : Int) else v) = 0 ↔ p := by
  by_cases h : p
  · rw [if_pos h]; exact ⟨fun _ => h, fun _ => rfl⟩
  · rw [if_neg h]; exact ⟨fun q => absurd q hv, fun q => absurd q h⟩
theorem gText_0 {M : qM} : gText M = 0 ↔ M 0 9 = 1 := ite0 (by omega)
theorem gBuf_0 {M : qM} {n : Int} : gBuf M n = 0 ↔ 0 ≤ n ∧ n ≤ M 1 1 := ite0 (by omega)
theorem gMap_0 {M : qM} {k : Int} : gMap M k = 0 ↔ 0 ≤ k ∧ k < M 0 11 := ite0 (by omega)
theorem gPos_0 {M : qM} {p : Int} : gPos M p = 0 ↔ 0 ≤ p ∧ p < 8 * p4 (M 0 10) := ite0 (by omega)
theorem gLev_0 {M : qM} {l : Int} : gLev M l = 0 ↔ 0 ≤ l ∧ l ≤ M 0 10 := ite0 (by omega)
theorem gByte_0 {n i : Int} : gByte n i = 0 ↔ 0 ≤ i ∧ i < n := ite0 (by omega)
theorem gSlot_0 {s : Int} : gSlot s = 0 ↔ 0 ≤ s ∧ s < 2 := ite0 (by omega)
theorem gBit_0 {v : Int} : gBit v = 0 ↔ v = 0 ∨ v = 1 := ite0 (by omega)
theorem gKind_0 {k : Int} : gKind k = 0 ↔ 0 ≤ k ∧ k ≤ 3 := ite0 (by omega)
theorem gor_00 {a b : Int} : gor a b = 0 ↔ a = 0 ∧ b = 0 := by
  unfold gor
  by_cases h : a ≠ 0
  · rw [if_pos h]; exact ⟨fun q => absurd q h, fun q => q.1⟩
  · rw [if_neg h]; exact ⟨fun q => ⟨Classical.byContradiction h, q⟩, fun q => q.2⟩
theorem gRng_0 {M : qM} {f t : Int} : gRng M f t = 0 ↔ (0 ≤ f ∧ f < 8 * p4 (M 0 10)) ∧ (0 ≤ t ∧ t < 8 * p4 (M 0 10)) ∧ f ≤ t := by
  unfold gRng
  rw [gor_00, gor_00, gPos_0, gPos_0, ite0 (by omega)]
theorem gBlk_0 {M : qM} {l x : Int} : gBlk M l x = 0 ↔ (0 ≤ l ∧ l ≤ M 0 10) ∧ 0 ≤ x ∧ x < p4 (M 0 10 - l) := by
  unfold gBlk
  rw [gor_00, gLev_0, ite0 (by omega)]
def CI (M : qM) : Prop := (∀ i, 0 ≤ i → i < 8448 → 0 ≤ M 4 i ∧ M 4 i < 256) ∧ (∀ j, zR (M 13 j)) ∧ (M 18 7 = 0 ∨ M 18 7 = 1) ∧ (0 ≤ M 1 1 ∧ M 1 1 ≤ 700) ∧ (∀ i, 0 ≤ i → i < M 1 1 → 0 ≤ M 2 i ∧ M 2 i < 256) ∧ (M 0 9 = 0 ∨ M 0 9 = 1) ∧ (M 0 9 = 1 → 1 ≤ M 0 10 ∧ M 0 10 ≤ 4) ∧ (0 ≤ M 0 11 ∧ M 0 11 ≤ 6) ∧ (0 ≤ M 28 2 ∧ M 28 2 < 8) ∧ (0 ≤ M 28 3 ∧ M 28 3 ≤ 8) ∧ (∀ j, 0 ≤ j → j < 8 → 0 ≤ M 30 j ∧ M 30 j < 6) ∧ (0 ≤ M 31 1 ∧ M 31 1 ≤ 1023) ∧ (∀ k, 0 ≤ k → k < M 0 11 → zR (M 34 k)) ∧ (∀ s, 0 ≤ s → s < 2 → M 36 s = 0 ∨ M 36 s = 1) ∧ (∀ s, 0 ≤ s → s < 2 → M 36 s ≠ 0 → M 0 9 = 1)
theorem CI_ok {M : qM} (h : CI M) {r : Int} (hr : 0 ≤ r ∧ r < 33) : rowOk M r := fun i h0 h1 => h.1 _ (by omega) (by omega)
def sfr (o : Nat) : Prop := o ≠ 4 ∧ o ≠ 5 ∧ o ≠ 12 ∧ o ≠ 13 ∧ o ≠ 14 ∧ o ≠ 15 ∧ o ≠ 16 ∧ o ≠ 17 ∧ o ≠ 18 ∧ o ≠ 22 ∧ o ≠ 23 ∧ o ≠ 24 ∧ o ≠ 25 ∧ o ≠ 27
/-- M' is M but for scratch -/
def Scr (M M' : qM) : Prop := (∀ o, sfr o → M' o = M o) ∧ (∀ k, (k < 1536 ∨ (3072 ≤ k ∧ k < 8192) ∨ 8448 ≤ k) → M' 4 k = M 4 k) ∧ (∀ i, 0 ≤ i → i < 8448 → 0 ≤ M' 4 i ∧ M' 4 i < 256) ∧ (∀ j, zR (M' 13 j)) ∧ (M' 18 7 = 0 ∨ M' 18 7 = 1)
theorem Scr_rf {M : qM} (h : CI M) : Scr M M := ⟨fun _ _ => rfl, fun _ _ => rfl, h.1, h.2.1, h.2.2.1⟩
theorem Scr_tr {M M1 M2 : qM} (h : Scr M M1) (h' : Scr M1 M2) : Scr M M2 := ⟨fun o ho => (h'.1 o ho).trans (h.1 o ho), fun k hk => (h'.2.1 k hk).trans (h.2.1 k hk), h'.2.2⟩
theorem Scr_CI {M M' : qM} (h : CI M) (e : Scr M M') : CI M' := by
  obtain ⟨e1, e2, e3, e4, e5⟩ := e
  have g : ∀ o, sfr o → M' o = M o := e1
  obtain ⟨a1, a2, a3, a4, a5, a6, a7, a8, a9, a10, a11, a12, a13, a14⟩ := h
  unfold CI
  rw [g 1 (by unfold sfr; decide), g 2 (by unfold sfr; decide), g 0 (by unfold sfr; decide), g 28 (by unfold sfr; decide), g 30 (by unfold sfr; decide), g 31 (by unfold sfr; decide), g 34 (by unfold sfr; decide), g 36 (by unfold sfr; decide)]
  exact ⟨e3, e4, e5, a4, a5, a6, a7, a8, a9, a10, a11, a12, a13, a14⟩
theorem Scr_tw {M : qM} {r l : Int} {K Y S C T N : Int → Int} (h : CI M) (hY : ∀ j, zR (Y j)) : Scr M (tw (qup (qup M 5 7 r) 5 8 l) K Y S C T N) := by
  have e : ∀ o, o ≠ 5 → (o < 12 ∨ 17 < o) → tw (qup (qup M 5 7 r) 5 8 l) K Y S C T N o = M o := by
    intro o h5 ho
    funext k
    unfold tw
    rw [if_neg (by omega), if_neg (by omega), if_neg (by omega), if_neg (by omega), if_neg (by omega), if_neg (by omega)]
    simp [qup, h5]
  refine ⟨fun o ho => ?_, fun k _ => by rw [e 4 (by decide) (by omega)], fun i h0 h1 => by rw [e 4 (by decide) (by omega)]; exact h.1 i h0 h1, hY, by rw [e 18 (by decide) (by omega)]; exact h.2.2.1⟩
  obtain ⟨o4, o5, o12, o13, o14, o15, o16, o17, -⟩ := ho
  exact e o o5 (by omega)
theorem Scr_32 {M : qM} {F : Int → Int} (h : CI M) (hF : ∀ i, 0 ≤ i → i < 256 → 0 ≤ F i ∧ F i < 256) : Scr M (qrow M 32 F) := by
  have e : ∀ o, o ≠ 4 → qrow M 32 F o = M o := fun o ho => by funext k; exact qrow_o M _ ho
  refine ⟨fun o ho => e o ho.1, fun k hk => ?_, fun i h0 h1 => ?_, by rw [e 13 (by decide)]; exact h.2.1, by rw [e 18 (by decide)]; exact h.2.2.1⟩
  · simp only [qrow]; rw [if_neg (by omega)]
  · simp only [qrow]
    by_cases g : (32 : Int) * 256 ≤ i ∧ i < 32 * 256 + 256
    · rw [if_pos ⟨trivial, g⟩]; exact hF _ (by omega) (by omega)
    · rw [if_neg (fun q => g q.2)]; exact h.1 i h0 h1
theorem Scr_row {M M' : qM} {r : Int} {F : Int → Int} (h : Scr M M') (hr : 0 ≤ r ∧ r < 33) (hF : ∀ i, 0 ≤ i → i < 256 → 0 ≤ F i ∧ F i < 256) : Scr (qrow M r F) (qrow M' r F) := by
  have e : ∀ (M : qM) o, o ≠ 4 → qrow M r F o = M o := fun M o ho => by funext k; exact qrow_o M _ ho
  refine ⟨fun o ho => by rw [e M o ho.1, e M' o ho.1]; exact h.1 o ho, fun k hk => ?_, fun i h0 h1 => ?_, by rw [e M' 13 (by decide)]; exact h.2.2.2.1, by rw [e M' 18 (by decide)]; exact h.2.2.2.2⟩
  · simp only [qrow]
    by_cases g : r * 256 ≤ k ∧ k < r * 256 + 256
    · rw [if_pos ⟨trivial, g⟩, if_pos ⟨trivial, g⟩]
    · rw [if_neg (fun q => g q.2), if_neg (fun q => g q.2)]; exact h.2.1 k hk
  · simp only [qrow]
    by_cases g : r * 256 ≤ i ∧ i < r * 256 + 256
    · rw [if_pos ⟨trivial, g⟩]; exact hF _ (by omega) (by omega)
    · rw [if_neg (fun q => g q.2)]; exact h.2.2.1 i h0 h1
theorem CI_row {M : qM} {r : Int} {F : Int → Int} (h : CI M) (hr : 0 ≤ r ∧ r < 33) (hF : ∀ i, 0 ≤ i → i < 256 → 0 ≤ F i ∧ F i < 256) : CI (qrow M r F) := by
  have e : ∀ o, o ≠ 4 → qrow M r F o = M o := fun o ho => by funext k; exact qrow_o M _ ho
  unfold CI
  rw [e 13 (by decide), e 18 (by decide), e 1 (by decide), e 2 (by decide), e 0 (by decide), e 28 (by decide), e 30 (by decide), e 31 (by decide), e 34 (by decide), e 36 (by decide)]
  refine ⟨fun i h0 h1 => ?_, h.2⟩
  simp only [qrow]
  by_cases g : r * 256 ≤ i ∧ i < r * 256 + 256
  · rw [if_pos ⟨trivial, g⟩]; exact hF _ (by omega) (by omega)
  · rw [if_neg (fun q => g q.2)]; exact h.1 i h0 h1
/-- the map k is remembered -/
def rem (M : qM) (k : Int) : qM := qup (qrow (qup (qup M 28 2 (if M 28 2 + 1 < 8 then M 28 2 + 1 else 0)) 30 (if M 28 2 + 1 < 8 then M 28 2 + 1 else 0) k) (12 + (if M 28 2 + 1 < 8 then M 28 2 + 1 else 0)) (rowc M k)) 28 3 (min (M 28 3 + 1) 8)
section HS
variable {M : qM}
set_option maxHeartbeats 1000000 in
theorem c_hlength : qCt mX2_length 0 0 [.ref 28] M (qpe (M 28 3) M) := by
  refine q_intro (own := 2) (L := [some (.ref 28)]) md_X2_length rfl rfl rfl (Nat.le_of_ble_eq_true rfl) (fun X => ?_)
  refine q_aload_n dX2_length_0 rfl ?_
  refine q_geti (j := 3) dX2_length_1 fl_2_24 rfl rfl rfl ?_
  refine q_ireturn dX2_length_4 ?_
  exact ⟨rfl, rfl⟩
set_option maxHeartbeats 1000000 in
theorem c_forget : qCt mX2_forget 0 0 [.ref 28] M (qpv (qup M 28 3 0)) := by
  refine q_intro (own := 2) (L := [some (.ref 28)]) md_X2_forget rfl rfl rfl (Nat.le_of_ble_eq_true rfl) (fun X => ?_)
  refine q_aload_n dX2_forget_0 rfl ?_
  refine q_iconst dX2_forget_1 ?_
  refine q_puti (j := 3) dX2_forget_2 fl_2_24 rfl rfl rfl rfl rfl ?_
  refine q_return dX2_forget_5 ?_
  exact ⟨rfl, rfl⟩
set_option maxHeartbeats 2000000 in
theorem c_remember {k : Int} (h : CI M) (hk : 0 ≤ k ∧ k < 6) : qCt mX2_remember 0 2 [.ref 28, .int (zI k)] M (qpv (rem M k)) := by
  have hl := h.2.2.2.2.2.2.2.2.1
  have hn := h.2.2.2.2.2.2.2.2.2.1
  have key : ∀ l', l' = (if M 28 2 + 1 < 8 then M 28 2 + 1 else 0) → 0 ≤ l' ∧ l' < 8 := fun l' e => by
    rw [e]
    by_cases g : M 28 2 + 1 < 8
    · rw [if_pos g]; omega
    · rw [if_neg g]; omega
  refine q_intro (own := 2) (L := [some (.ref 28), some (.int (zI k))]) md_X2_remember rfl rfl rfl (Nat.le_of_ble_eq_true rfl) (fun X => ?_)
  refine q_aload_n dX2_remember_0 rfl ?_
  refine q_aload_n dX2_remember_1 rfl ?_
  refine q_geti (j := 2) dX2_remember_2 fl_2_28 rfl rfl rfl ?_
  refine q_iconst dX2_remember_5 ?_
  refine q_iadd dX2_remember_6 ?_
  refine q_bipush dX2_remember_7 rfl ?_
  refine q_icmp_ge (tgt := 21) dX2_remember_9 rfl (by (first | (unfold zR; omega) | (unfold zLR; omega) | omega | (simp only [zR, qup] at *; omega) | (simp [zR, qup]; omega) | (simp [zR, qup]; done))) (by (first | (unfold zR; omega) | (unfold zLR; omega) | omega | (simp only [zR, qup] at *; omega) | (simp [zR, qup]; omega) | (simp [zR, qup]; done))) (fun h9 => ?_) (fun h9 => ?_)
  ·
    refine q_iconst dX2_remember_21 ?_
    have e0 : (if M 28 2 + 1 < 8 then M 28 2 + 1 else 0) = 0 := if_neg (by omega)
    have hrem : rem M k = qup (qrow (qup (qup M 28 2 0) 30 0 k) (12 + 0) (rowc M k)) 28 3 (min (M 28 3 + 1) 8) := by unfold rem; rw [e0]
    rw [hrem]
    refine q_puti (j := 2) dX2_remember_22 fl_2_28 rfl rfl rfl rfl rfl ?_
    refine q_aload_n dX2_remember_25 rfl ?_
    refine q_getr dX2_remember_26 fl_2_14 rfl rfl ?_
    refine q_aload_n dX2_remember_29 rfl ?_
    refine q_geti (j := 2) dX2_remember_30 fl_2_28 rfl rfl rfl ?_
    rw [show qup M 28 2 0 28 2 = 0 from qup_s _ _ _ _]
    refine q_iload_n dX2_remember_33 rfl ?_
    refine q_V2 dX2_remember_34 ml_2_31 md_X5_set (c_rset (o := 29) (r := 30) (n := 8) rfl rfl (by omega) (by omega)) rfl rfl rfl (by first | decide | omega) (Nat.le_of_ble_eq_true rfl) (Nat.le_of_ble_eq_true rfl) (qk_v ?_)
    refine q_aload_n dX2_remember_37 rfl ?_
    refine q_getr dX2_remember_38 fl_2_20 rfl rfl ?_
    refine q_iload_n dX2_remember_41 rfl ?_
    refine q_bipush dX2_remember_42 rfl ?_
    refine q_aload_n dX2_remember_44 rfl ?_
    refine q_geti (j := 2) dX2_remember_45 fl_2_28 rfl rfl rfl ?_
    rw [show qup (qup M 28 2 0) 30 0 k 28 2 = 0 by simp [qup]]
    refine q_iadd dX2_remember_48 ?_
    refine q_V2 dX2_remember_49 ml_2_35 md_X0_copyRow (c_copyRow (by omega) (by omega)) rfl rfl rfl (by first | decide | omega) (Nat.le_of_ble_eq_true rfl) (Nat.le_of_ble_eq_true rfl) (qk_v ?_)
    rw [show rowc (qup (qup M 28 2 0) 30 0 k) k = rowc M k by funext i; simp [rowc, qup]]
    refine q_aload_n dX2_remember_52 rfl ?_
    refine q_aload_n dX2_remember_53 rfl ?_
    refine q_geti (j := 3) dX2_remember_54 fl_2_24 rfl rfl rfl ?_
    rw [show qrow (qup (qup M 28 2 0) 30 0 k) (12 + 0) (rowc M k) 28 3 = M 28 3 by simp [qrow, qup]]
    refine q_iconst dX2_remember_57 ?_
    refine q_iadd dX2_remember_58 ?_
    refine q_bipush dX2_remember_59 rfl ?_
    refine q_mmin dX2_remember_61 ml_2_40 (by (first | (unfold zR; omega) | (unfold zLR; omega) | omega | (simp only [zR, qup] at *; omega) | (simp [zR, qup]; omega) | (simp [zR, qup]; done))) (by (first | (unfold zR; omega) | (unfold zLR; omega) | omega | (simp only [zR, qup] at *; omega) | (simp [zR, qup]; omega) | (simp [zR, qup]; done))) (Nat.le_of_ble_eq_true rfl) ?_
    refine q_puti (j := 3) dX2_remember_64 fl_2_24 rfl rfl rfl rfl rfl ?_
    refine q_return dX2_remember_67 ?_
    exact ⟨rfl, rfl⟩
  ·
    refine q_aload_n dX2_remember_12 rfl ?_
    refine q_geti (j := 2) dX2_remember_13 fl_2_28 rfl rfl rfl ?_
    refine q_iconst dX2_remember_16 ?_
    refine q_iadd dX2_remember_17 ?_
    refine q_goto (tgt := 22) dX2_remember_18 rfl ?_
    have e0 : (if M 28 2 + 1 < 8 then M 28 2 + 1 else 0) = M 28 2 + 1 := if_pos h9
    have hrem : rem M k = qup (qrow (qup (qup M 28 2 (M 28 2 + 1)) 30 (M 28 2 + 1) k) (12 + (M 28 2 + 1)) (rowc M k)) 28 3 (min (M 28 3 + 1) 8) := by unfold rem; rw [e0]
    rw [hrem]
    refine q_puti (j := 2) dX2_remember_22 fl_2_28 rfl rfl rfl rfl rfl ?_
    refine q_aload_n dX2_remember_25 rfl ?_
    refine q_getr dX2_remember_26 fl_2_14 rfl rfl ?_
    refine q_aload_n dX2_remember_29 rfl ?_
    refine q_geti (j := 2) dX2_remember_30 fl_2_28 rfl rfl rfl ?_
    rw [show qup M 28 2 (M 28 2 + 1) 28 2 = M 28 2 + 1 from qup_s _ _ _ _]
    refine q_iload_n dX2_remember_33 rfl ?_
    refine q_V2 dX2_remember_34 ml_2_31 md_X5_set (c_rset (o := 29) (r := 30) (n := 8) rfl rfl (by omega) (by omega)) rfl rfl rfl (by first | decide | omega) (Nat.le_of_ble_eq_true rfl) (Nat.le_of_ble_eq_true rfl) (qk_v ?_)
    refine q_aload_n dX2_remember_37 rfl ?_
    refine q_getr dX2_remember_38 fl_2_20 rfl rfl ?_
    refine q_iload_n dX2_remember_41 rfl ?_
    refine q_bipush dX2_remember_42 rfl ?_
    refine q_aload_n dX2_remember_44 rfl ?_
    refine q_geti (j := 2) dX2_remember_45 fl_2_28 rfl rfl rfl ?_
    rw [show qup (qup M 28 2 (M 28 2 + 1)) 30 (M 28 2 + 1) k 28 2 = M 28 2 + 1 by simp [qup]]
    refine q_iadd dX2_remember_48 ?_
    refine q_V2 dX2_remember_49 ml_2_35 md_X0_copyRow (c_copyRow (by omega) (by omega)) rfl rfl rfl (by first | decide | omega) (Nat.le_of_ble_eq_true rfl) (Nat.le_of_ble_eq_true rfl) (qk_v ?_)
    rw [show rowc (qup (qup M 28 2 (M 28 2 + 1)) 30 (M 28 2 + 1) k) k = rowc M k by funext i; simp [rowc, qup]]
    refine q_aload_n dX2_remember_52 rfl ?_
    refine q_aload_n dX2_remember_53 rfl ?_
    refine q_geti (j := 3) dX2_remember_54 fl_2_24 rfl rfl rfl ?_
    rw [show qrow (qup (qup M 28 2 (M 28 2 + 1)) 30 (M 28 2 + 1) k) (12 + (M 28 2 + 1)) (rowc M k) 28 3 = M 28 3 by simp [qrow, qup]]
    refine q_iconst dX2_remember_57 ?_
    refine q_iadd dX2_remember_58 ?_
    refine q_bipush dX2_remember_59 rfl ?_
    refine q_mmin dX2_remember_61 ml_2_40 (by (first | (unfold zR; omega) | (unfold zLR; omega) | omega | (simp only [zR, qup] at *; omega) | (simp [zR, qup]; omega) | (simp [zR, qup]; done))) (by (first | (unfold zR; omega) | (unfold zLR; omega) | omega | (simp only [zR, qup] at *; omega) | (simp [zR, qup]; omega) | (simp [zR, qup]; done))) (Nat.le_of_ble_eq_true rfl) ?_
    refine q_puti (j := 3) dX2_remember_64 fl_2_24 rfl rfl rfl rfl rfl ?_
    refine q_return dX2_remember_67 ?_
    exact ⟨rfl, rfl⟩
/-- the latest change is undone -/
def gob (M : qM) : qM := qup (qup (qrow M (M 30 (M 28 2)) (rowc M (12 + M 28 2))) 28 2 (if 0 < M 28 2 then M 28 2 - 1 else 7)) 28 3 (M 28 3 - 1)
set_option maxHeartbeats 2000000 in
theorem c_goBack (h : CI M) (hn : 0 < M 28 3) : qCt mX2_goBack 0 2 [.ref 28] M (qpv (gob M)) := by
  have hl := h.2.2.2.2.2.2.2.2.1
  have hn2 := h.2.2.2.2.2.2.2.2.2.1
  have hc := h.2.2.2.2.2.2.2.2.2.2.1 (M 28 2) hl.1 hl.2
  refine q_intro (own := 2) (L := [some (.ref 28)]) md_X2_goBack rfl rfl rfl (Nat.le_of_ble_eq_true rfl) (fun X => ?_)
  refine q_aload_n dX2_goBack_0 rfl ?_
  refine q_geti (j := 3) dX2_goBack_1 fl_2_24 rfl rfl rfl ?_
  refine q_if_le (tgt := 64) dX2_goBack_4 rfl (by (first | (unfold zR; omega) | (unfold zLR; omega) | omega | (simp only [zR, qup] at *; omega) | (simp [zR, qup]; omega) | (simp [zR, qup]; done))) (fun h4 => absurd h4 (by omega)) (fun h4 => ?_)
  refine q_aload_n dX2_goBack_7 rfl ?_
  refine q_getr dX2_goBack_8 fl_2_20 rfl rfl ?_
  refine q_bipush dX2_goBack_11 rfl ?_
  refine q_aload_n dX2_goBack_13 rfl ?_
  refine q_geti (j := 2) dX2_goBack_14 fl_2_28 rfl rfl rfl ?_
  refine q_iadd dX2_goBack_17 ?_
  refine q_aload_n dX2_goBack_18 rfl ?_
  refine q_getr dX2_goBack_19 fl_2_14 rfl rfl ?_
  refine q_aload_n dX2_goBack_22 rfl ?_
  refine q_geti (j := 2) dX2_goBack_23 fl_2_28 rfl rfl rfl ?_
  refine q_V1 dX2_goBack_26 ml_2_46 md_X5_get (c_rget (o := 29) (r := 30) (n := 8) rfl rfl (by omega) (by omega)) rfl rfl rfl (by first | decide | omega) (Nat.le_of_ble_eq_true rfl) (Nat.le_of_ble_eq_true rfl) (qk_e ?_)
  refine q_V2 dX2_goBack_29 ml_2_35 md_X0_copyRow (c_copyRow (by omega) (by omega)) rfl rfl rfl (by first | decide | omega) (Nat.le_of_ble_eq_true rfl) (Nat.le_of_ble_eq_true rfl) (qk_v ?_)
  refine q_aload_n dX2_goBack_32 rfl ?_
  refine q_aload_n dX2_goBack_33 rfl ?_
  refine q_geti (j := 2) dX2_goBack_34 fl_2_28 rfl rfl rfl ?_
  rw [show qrow M (M 30 (M 28 2)) (rowc M (12 + M 28 2)) 28 2 = M 28 2 from qrow_o M _ (by decide)]
  refine q_if_le (tgt := 49) dX2_goBack_37 rfl (by (first | (unfold zR; omega) | (unfold zLR; omega) | omega | (simp only [zR, qup] at *; omega) | (simp [zR, qup]; omega) | (simp [zR, qup]; done))) (fun h37 => ?_) (fun h37 => ?_)
  ·
    refine q_bipush dX2_goBack_49 rfl ?_
    refine q_puti (j := 2) dX2_goBack_51 fl_2_28 rfl rfl rfl rfl rfl ?_
    refine q_aload_n dX2_goBack_54 rfl ?_
    refine q_dup dX2_goBack_55 rfl ?_
    refine q_geti (j := 3) dX2_goBack_56 fl_2_24 rfl rfl rfl ?_
    rw [show qup (qrow M (M 30 (M 28 2)) (rowc M (12 + M 28 2))) 28 2 7 28 3 = M 28 3 by simp [qrow, qup]]
    refine q_iconst dX2_goBack_59 ?_
    refine q_isub dX2_goBack_60 ?_
    refine q_puti (j := 3) dX2_goBack_61 fl_2_24 rfl rfl rfl rfl rfl ?_
    refine q_return dX2_goBack_64 ?_
    exact ⟨rfl, by unfold gob; rw [if_neg (by omega)]⟩
  ·
    refine q_aload_n dX2_goBack_40 rfl ?_
    refine q_geti (j := 2) dX2_goBack_41 fl_2_28 rfl rfl rfl ?_
    rw [show qrow M (M 30 (M 28 2)) (rowc M (12 + M 28 2)) 28 2 = M 28 2 from qrow_o M _ (by decide)]
    refine q_iconst dX2_goBack_44 ?_
    refine q_isub dX2_goBack_45 ?_
    refine q_goto (tgt := 51) dX2_goBack_46 rfl ?_
    refine q_puti (j := 2) dX2_goBack_51 fl_2_28 rfl rfl rfl rfl rfl ?_
    refine q_aload_n dX2_goBack_54 rfl ?_
    refine q_dup dX2_goBack_55 rfl ?_
    refine q_geti (j := 3) dX2_goBack_56 fl_2_24 rfl rfl rfl ?_
    rw [show qup (qrow M (M 30 (M 28 2)) (rowc M (12 + M 28 2))) 28 2 (M 28 2 - 1) 28 3 = M 28 3 by simp [qrow, qup]]
    refine q_iconst dX2_goBack_59 ?_
    refine q_isub dX2_goBack_60 ?_
    refine q_puti (j := 3) dX2_goBack_61 fl_2_24 rfl rfl rfl rfl rfl ?_
    refine q_return dX2_goBack_64 ?_
    exact ⟨rfl, by unfold gob; rw [if_pos (by omega)]⟩
end HS
theorem rem_CI {M : qM} {k : Int} (h : CI M) (hk : 0 ≤ k ∧ k < 6) : CI (rem M k) := by
  obtain ⟨a1, a2, a3, a4, a5, a6, a7, a8, a9, a10, a11, a12, a13, a14⟩ := id h
  have hl : 0 ≤ (if M 28 2 + 1 < 8 then M 28 2 + 1 else 0) ∧ (if M 28 2 + 1 < 8 then M 28 2 + 1 else 0) < 8 := by
    by_cases g : M 28 2 + 1 < 8
    · rw [if_pos g]; omega
    · rw [if_neg g]; omega
  have hb := CI_ok h (r := k) (by omega)
  unfold rem
  generalize (if M 28 2 + 1 < 8 then M 28 2 + 1 else 0) = l at hl
  have e : ∀ o, o ≠ 28 → o ≠ 30 → o ≠ 4 → qup (qrow (qup (qup M 28 2 l) 30 l k) (12 + l) (rowc M k)) 28 3 (min (M 28 3 + 1) 8) o = M o := fun o h1 h2 h3 => by funext j; simp [qup, qrow, h1, h2, h3]
  unfold CI
  rw [e 13 (by decide) (by decide) (by decide), e 18 (by decide) (by decide) (by decide), e 1 (by decide) (by decide) (by decide), e 2 (by decide) (by decide) (by decide), e 0 (by decide) (by decide) (by decide), e 31 (by decide) (by decide) (by decide), e 34 (by decide) (by decide) (by decide), e 36 (by decide) (by decide) (by decide)]
  refine ⟨fun i h0 h1 => ?_, a2, a3, a4, a5, a6, a7, a8, ?_, ?_, fun j h0 h1 => ?_, a12, a13, a14⟩
  · rw [qup_o _ _ _ _ (by decide)]
    simp only [qrow]
    by_cases g : (12 + l) * 256 ≤ i ∧ i < (12 + l) * 256 + 256
    · rw [if_pos ⟨trivial, g⟩]; exact hb _ (by omega) (by omega)
    · rw [if_neg (fun q => g q.2), qup_o _ _ _ _ (by decide), qup_o _ _ _ _ (by decide)]; exact a1 i h0 h1
  · rw [qup_k _ _ _ (by omega), qrow_o _ _ (by decide), qup_o _ _ _ _ (by decide), qup_s]; exact hl
  · rw [qup_s]; omega
  · rw [qup_o _ _ _ _ (by decide), qrow_o _ _ (by decide)]
    by_cases g : j = l
    · subst g; rw [qup_s]; exact hk
    · rw [qup_k _ _ _ g, qup_o _ _ _ _ (by decide)]; exact a11 j h0 h1


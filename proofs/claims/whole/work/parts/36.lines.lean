/-! QuarterMaps$Parser: lines. -/
theorem q_ldcS {X : qX} {own : Nat} {cc : ByteArray} {nL : Nat} {ret : Option FieldType} {u d : Nat} {P : qP} {b pc : Nat} {L : List (Option Value)} {st : List Value} {M : qM} {idx o : Nat} {tx : String} (dd : decode cc pc = .ok (.ldc idx, 2)) (hw : (own, idx, tx, o) ∈ qWs) (k : QW X (own, cc, nL, ret, u, d) P b (pc + 2) L (.ref o :: st) M) : QW X (own, cc, nL, ret, u, d) P b pc L st M := by
  obtain ⟨p, l, e, s, m, args, below, meth, c, dC, dI, cyI, cyZ, ad⟩ := X
  intro ok H locs cells slots ls hP hS hl h1 h2
  obtain ⟨hx, hb, hml, hown, hts, hret, hlocks, hex, hK, hinj, henv, hst⟩ := id ok
  obtain ⟨-, -, -, hv, -⟩ := henv
  have hv2 : vk_R (qNm own) idx tx (ad o) s := hv (own, idx, tx, o) hw
  exact va_ldcS (q := ad o) (tx := tx) hx hb hown hv2 dd (k ok H locs cells slots ls hP hS hl h1 h2)
def pfr (o : Nat) : Prop := o ≠ 25 ∧ o ≠ 27 ∧ o ≠ 4 ∧ o ≠ 18 ∧ o ≠ 22 ∧ o ≠ 23 ∧ o ≠ 24
/-- what a parse leaves as it was in M0 -/
def PF (M0 M : qM) : Prop := (∀ o, pfr o → M o = M0 o) ∧ (∀ i, (i < 1536 ∨ 3072 ≤ i) → M 4 i = M0 4 i) ∧ (∀ i, 0 ≤ i → i < 8448 → 0 ≤ M 4 i ∧ M 4 i < 256) ∧ (M 18 7 = 0 ∨ M 18 7 = 1)
theorem PF_inB {M0 M : qM} {I : Int → Int} {n : Int} (h : PF M0 M) (hB : inB M0 I n) : inB M I n := by
  unfold inB
  rw [h.1 1 (by unfold pfr; decide), h.1 2 (by unfold pfr; decide)]
  exact hB
theorem PF_25 {M0 M M' : qM} (h : PF M0 M) (e : ∀ o, o ≠ 25 → M' o = M o) : PF M0 M' := by
  refine ⟨fun o ho => (e o ho.1).trans (h.1 o ho), ?_, ?_, ?_⟩
  · rw [e 4 (by decide)]; exact h.2.1
  · rw [e 4 (by decide)]; exact h.2.2.1
  · rw [e 18 (by decide)]; exact h.2.2.2
theorem adv_o {M : qM} {I : Int → Int} {n p : Int} : ∀ o, o ≠ 25 → adv M I n p o = M o := fun o h => by funext k; exact qlx_o h
theorem adv_f {M : qM} {I : Int → Int} {n p k : Int} (h : k < 5 ∨ 8 < k) : adv M I n p 25 k = M 25 k := qlx_f h
theorem flx_o {M : qM} {c s : Int} : ∀ o, o ≠ 25 → flx M c s o = M o := fun o h => by funext k; simp [flx, qup, h]
theorem up25_o {M : qM} {k v : Int} : ∀ o, o ≠ 25 → qup M 25 k v o = M o := fun o h => by funext k; simp [qup, h]
theorem PF_27 {M0 M : qM} {k v : Int} (h : PF M0 M) : PF M0 (qup M 27 k v) := by
  have e : ∀ o, o ≠ 27 → qup M 27 k v o = M o := fun o h => by funext k; simp [qup, h]
  refine ⟨fun o ho => (e o ho.2.1).trans (h.1 o ho), ?_, ?_, ?_⟩
  · rw [e 4 (by decide)]; exact h.2.1
  · rw [e 4 (by decide)]; exact h.2.2.1
  · rw [e 18 (by decide)]; exact h.2.2.2
theorem PF_row {M0 M : qM} {r : Int} {F : Int → Int} (h : PF M0 M) (hr : 6 ≤ r ∧ r < 12) (hF : ∀ i, 0 ≤ i → i < 256 → 0 ≤ F i ∧ F i < 256) : PF M0 (qrow M r F) := by
  have e : ∀ o, o ≠ 4 → qrow M r F o = M o := fun o h => by funext k; exact qrow_o M _ h
  refine ⟨fun o ho => (e o ho.2.2.1).trans (h.1 o ho), fun i hi => ?_, fun i h0 h1 => ?_, ?_⟩
  · rw [← h.2.1 i hi]
    simp only [qrow]
    rw [if_neg (by omega)]
  · simp only [qrow]
    by_cases g : r * 256 ≤ i ∧ i < r * 256 + 256
    · rw [if_pos ⟨trivial, g⟩]; exact hF _ (by omega) (by omega)
    · rw [if_neg (fun q => g q.2)]; exact h.2.2.1 i h0 h1
  · rw [e 18 (by decide)]; exact h.2.2.2
theorem PF_ok {M0 M : qM} (h : PF M0 M) {r : Int} (hr : 0 ≤ r ∧ r < 33) : rowOk M r := fun i h0 h1 => h.2.2.1 _ (by omega) (by omega)
def Sp (M : qM) (I : Int → Int) (n : Int) (L : Nat) (σ : qσ) : Prop := cur M I n σ.1 ∧ M 25 4 = n ∧ M 25 9 = (L : Int) ∧ M 25 10 = σ.2.1 ∧ 0 ≤ σ.2.1 ∧ σ.2.1 ≤ 6 ∧ 0 ≤ σ.1 ∧ σ.1 ≤ n ∧ M 25 11 = 0 ∧ M 25 12 = -1 ∧ (∀ k, 0 ≤ k → k < σ.2.1 → M 27 k = σ.2.2.1 k ∧ zR (M 27 k)) ∧ (∀ k i, 0 ≤ k → k < σ.2.1 → 0 ≤ i → i < 256 → M 4 ((6 + k) * 256 + i) = σ.2.2.2 k i) ∧ ∀ k i, 0 ≤ k → k < σ.2.1 → p4 L ≤ i → i < 256 → σ.2.2.2 k i = 0
/-- what a line answers -/
def lnP (M0 : qM) (I : Int → Int) (n : Int) (L : Nat) (r : qρ) : Int → qM → Prop := fun z M' => (z = 0 ∧ ∃ c s, c ≠ 0 ∧ r = .inl (c, s) ∧ M' 25 11 = c ∧ M' 25 12 = s ∧ PF M0 M') ∨ (z = 1 ∧ ∃ σ', r = .inr σ' ∧ Sp M' I n L σ' ∧ PF M0 M')
theorem lnP_fail {M0 M : qM} {I : Int → Int} {n : Int} {L : Nat} {r : qρ} {c p : Int} (h : PF M0 M) (hc : c ≠ 0) (hr : r = flS I n c p) {s : Int} (hs : s = tS I n p) : lnP M0 I n L r 0 (flx M c s) := Or.inl ⟨rfl, c, s, hc, by rw [hr, hs]; rfl, by simp [flx, qup], by simp [flx, qup], PF_25 h flx_o⟩
theorem Sp_adv {M : qM} {I : Int → Int} {n p' : Int} {L : Nat} {σ : qσ} (h : Sp M I n L σ) (hp : 0 ≤ p' ∧ p' ≤ n) : Sp (adv M I n p') I n L (p', σ.2) := by
  obtain ⟨h1, h2, h3, h4, h5, h6, h7, h8, h9, h10, h11, h12, h13⟩ := h
  exact ⟨cur_qlx, by rw [adv_f (by omega)]; exact h2, by rw [adv_f (by omega)]; exact h3, by rw [adv_f (by omega)]; exact h4, h5, h6, hp.1, hp.2, by rw [adv_f (by omega)]; exact h9, by rw [adv_f (by omega)]; exact h10, fun k k0 k1 => by rw [adv_o 27 (by decide)]; exact h11 k k0 k1, fun k i k0 k1 i0 i1 => by rw [adv_o 4 (by decide)]; exact h12 k i k0 k1 i0 i1, h13⟩
theorem Sp_row {M : qM} {I : Int → Int} {n j : Int} {L : Nat} {σ : qσ} {F : Int → Int} (h : Sp M I n L σ) (hj : 0 ≤ j ∧ j < σ.2.1) (hF : ∀ i, p4 L ≤ i → i < 256 → F i = 0) : Sp (qrow M (6 + j) F) I n L (σ.1, σ.2.1, σ.2.2.1, fun k => if k = j then F else σ.2.2.2 k) := by
  obtain ⟨h1, h2, h3, h4, h5, h6, h7, h8, h9, h10, h11, h12, h13⟩ := h
  have e : ∀ o k, o ≠ 4 → qrow M (6 + j) F o k = M o k := fun o k h => qrow_o M _ h
  refine ⟨?_, ?_, ?_, ?_, h5, h6, h7, h8, ?_, ?_, ?_, ?_, ?_⟩
  · unfold cur at *; rw [e _ _ (by decide), e _ _ (by decide), e _ _ (by decide), e _ _ (by decide)]; exact h1
  · rw [e _ _ (by decide)]; exact h2
  · rw [e _ _ (by decide)]; exact h3
  · rw [e _ _ (by decide)]; exact h4
  · rw [e _ _ (by decide)]; exact h9
  · rw [e _ _ (by decide)]; exact h10
  · intro k k0 k1; rw [e _ _ (by decide)]; exact h11 k k0 k1
  · intro k i k0 k1 i0 i1
    dsimp only at k1 ⊢
    by_cases g : k = j
    · subst g; rw [if_pos rfl, qrow_at M _ ⟨i0, i1⟩]
    · rw [if_neg g, qrow_ne M _ ⟨i0, i1⟩ (by omega)]; exact h12 k i k0 k1 i0 i1
  · intro k i k0 k1 i0 i1
    dsimp only at k1 ⊢
    by_cases g : k = j
    · rw [if_pos g]; exact hF i i0 i1
    · rw [if_neg g]; exact h13 k i k0 k1 i0 i1
section LN
variable {M0 M : qM} {I : Int → Int} {n : Int} {L : Nat} {σ : qσ}
theorem Sp_N (h : Sp M I n L σ) : ∀ k, 0 ≤ k → k < σ.2.1 → M 27 k = σ.2.2.1 k ∧ zR (M 27 k) := h.2.2.2.2.2.2.2.2.2.2.1
set_option maxHeartbeats 2000000 in
theorem c_takeWord {i : Nat} (hi : i < 7) (hB : inB M I n) (hend : M 25 4 = n) {p : Int} (hc : cur M I n p) (hp : 0 ≤ p ∧ p ≤ n) : qCt mX3_takeWord 0 5 [.ref 25, .ref (100 + i)] M (qpg (fun z M' => (z = 0 ∧ ¬ isW I n p i ∧ M' = flx M 1 (tS I n p)) ∨ (z = 1 ∧ isW I n p i ∧ M' = adv M I n (tE I n p)))) := by
  have hS := tS_in (I := I) hp.2
  have hE := tE_in (I := I) hp.2
  refine q_intro (own := 3) (L := [some (.ref 25), some (.ref (100 + i))]) md_X3_takeWord rfl rfl rfl (Nat.le_of_ble_eq_true rfl) (fun X => ?_)
  refine q_aload_n dX3_takeWord_0 rfl ?_
  refine q_aload_n dX3_takeWord_1 rfl ?_
  refine q_V1 dX3_takeWord_2 ml_3_86 md_X3_isWord (c_isWord hi hc) rfl rfl rfl (by first | decide | omega) (Nat.le_of_ble_eq_true rfl) (Nat.le_of_ble_eq_true rfl) (qk_e ?_)
  refine q_if_ne (tgt := 14) dX3_takeWord_5 rfl (by have := zb_01 (isW I n p i); unfold zR; omega) (fun h5 => ?_) (fun h5 => ?_)
  rotate_left
  ·
    refine q_aload_n dX3_takeWord_8 rfl ?_
    refine q_iconst dX3_takeWord_9 ?_
    refine q_V1 dX3_takeWord_10 ml_3_73 md_X3_fail c_fail rfl rfl rfl (by first | decide | omega) (Nat.le_of_ble_eq_true rfl) (Nat.le_of_ble_eq_true rfl) (qk_e ?_)
    rw [hc.2.2.1]
    refine q_zreturn (by first | exact Or.inl rfl | exact Or.inr rfl) dX3_takeWord_13 ?_
    exact ⟨_, rfl, Or.inl ⟨rfl, zb_0.mp h5, rfl⟩⟩
  refine q_aload_n dX3_takeWord_14 rfl ?_
  refine q_V0 dX3_takeWord_15 ml_3_77 md_X3_advance (c_advance hB hend hc.1 (by omega)) rfl rfl rfl (by first | decide | omega) (Nat.le_of_ble_eq_true rfl) (Nat.le_of_ble_eq_true rfl) (qk_v ?_)
  refine q_iconst dX3_takeWord_18 ?_
  refine q_zreturn (by first | exact Or.inl rfl | exact Or.inr rfl) dX3_takeWord_19 ?_
  exact ⟨_, rfl, Or.inr ⟨rfl, zb_1.mp (by have := zb_01 (isW I n p i); omega), rfl⟩⟩
set_option maxHeartbeats 4000000 in
theorem c_takeMapLine (hB : inB M0 I n) (hF : PF M0 M) (hs : Sp M I n L σ) (hL : L ≤ 4) : qCt mX3_takeMapLine 0 2 [.ref 25] M (qpg (lnP M0 I n L (lnMap I n σ))) := by
  obtain ⟨h1, h2, hl3, hm4, hm5, hm6, hp7, hp8, hr9, he10, hn11, hw12, hz13⟩ := id hs
  have hE := tE_in (I := I) hp8
  have hS := tS_in (I := I) hp8
  have hE2 := tE_in (I := I) (n := n) (p := tE I n σ.1) (by omega)
  have hS2 := tS_in (I := I) (n := n) (p := tE I n σ.1) (by omega)
  have hk := tK_in I n (tE I n σ.1)
  have hmn := mn_in σ.2.2.1 (tV I n (tE I n σ.1)) σ.2.1.toNat
  have hs2 := Sp_adv (p' := tE I n σ.1) hs (by omega)
  have hF2 := PF_25 (M' := adv M I n (tE I n σ.1)) hF adv_o
  have emn : mn (adv M I n (tE I n σ.1) 27) (tV I n (tE I n σ.1)) σ.2.1.toNat = mn σ.2.2.1 (tV I n (tE I n σ.1)) σ.2.1.toNat := mn_c _ (fun k h0 h1 => (Sp_N hs2 k h0 (by dsimp only; omega)).1)
  refine q_intro (own := 3) (L := [some (.ref 25)]) md_X3_takeMapLine rfl rfl rfl (Nat.le_of_ble_eq_true rfl) (fun X => ?_)
  refine q_aload_n dX3_takeMapLine_0 rfl ?_
  refine q_geti (j := 10) dX3_takeMapLine_1 fl_3_36 rfl rfl rfl ?_
  refine q_bipush dX3_takeMapLine_4 rfl ?_
  rw [hm4]
  refine q_icmp_lt (tgt := 15) dX3_takeMapLine_6 rfl (by (first | (unfold zR; omega) | (unfold zLR; omega) | omega | (simp only [zR, qup] at *; omega) | (simp [zR, qup]; omega) | (simp [zR, qup]; done))) (by (first | (unfold zR; omega) | (unfold zLR; omega) | omega | (simp only [zR, qup] at *; omega) | (simp [zR, qup]; omega) | (simp [zR, qup]; done))) (fun h6 => ?_) (fun h6 => ?_)
  rotate_left
  ·
    refine q_aload_n dX3_takeMapLine_9 rfl ?_
    refine q_iconst dX3_takeMapLine_10 ?_
    refine q_V1 dX3_takeMapLine_11 ml_3_73 md_X3_fail c_fail rfl rfl rfl (by first | decide | omega) (Nat.le_of_ble_eq_true rfl) (Nat.le_of_ble_eq_true rfl) (qk_e ?_)
    refine q_zreturn (by first | exact Or.inl rfl | exact Or.inr rfl) dX3_takeMapLine_14 ?_
    exact ⟨_, rfl, lnP_fail hF (by omega) (if_pos h6) h1.2.2.1⟩
  refine q_aload_n dX3_takeMapLine_15 rfl ?_
  refine q_V0 dX3_takeMapLine_16 ml_3_77 md_X3_advance (c_advance (PF_inB hF hB) h2 h1.1 (by omega)) rfl rfl rfl (by first | decide | omega) (Nat.le_of_ble_eq_true rfl) (Nat.le_of_ble_eq_true rfl) (qk_v ?_)
  refine q_mem (M' := adv M I n (tE I n σ.1)) rfl ?_
  refine q_aload_n dX3_takeMapLine_19 rfl ?_
  refine q_geti (j := 6) dX3_takeMapLine_20 fl_3_52 rfl rfl rfl ?_
  refine q_iconst dX3_takeMapLine_23 ?_
  rw [hs2.1.2.1]
  refine q_icmp_eq (tgt := 33) dX3_takeMapLine_24 rfl (by (first | (unfold zR; omega) | (unfold zLR; omega) | omega | (simp only [zR, qup] at *; omega) | (simp [zR, qup]; omega) | (simp [zR, qup]; done))) (by (first | (unfold zR; omega) | (unfold zLR; omega) | omega | (simp only [zR, qup] at *; omega) | (simp [zR, qup]; omega) | (simp [zR, qup]; done))) (fun h24 => ?_) (fun h24 => ?_)
  rotate_left
  ·
    refine q_aload_n dX3_takeMapLine_27 rfl ?_
    refine q_iconst dX3_takeMapLine_28 ?_
    refine q_V1 dX3_takeMapLine_29 ml_3_73 md_X3_fail c_fail rfl rfl rfl (by first | decide | omega) (Nat.le_of_ble_eq_true rfl) (Nat.le_of_ble_eq_true rfl) (qk_e ?_)
    refine q_zreturn (by first | exact Or.inl rfl | exact Or.inr rfl) dX3_takeMapLine_32 ?_
    exact ⟨_, rfl, lnP_fail hF2 (by omega) (by unfold lnMap; rw [if_neg (by omega), if_pos h24]) hs2.1.2.2.1⟩
  refine q_aload_n dX3_takeMapLine_33 rfl ?_
  refine q_aload_n dX3_takeMapLine_34 rfl ?_
  refine q_geti (j := 8) dX3_takeMapLine_35 fl_3_61 rfl rfl rfl ?_
  rw [hs2.1.2.2.2]
  have hR := word_R h24
  refine q_V1 dX3_takeMapLine_38 ml_3_111 md_X3_mapNamed (c_mapNamed (m := σ.2.1) hs2.2.2.2.1 ⟨hm5, hm6⟩ hR (fun k h0 h1 => (Sp_N hs2 k h0 h1).2)) rfl rfl rfl (by first | decide | omega) (Nat.le_of_ble_eq_true rfl) (Nat.le_of_ble_eq_true rfl) (qk_e ?_)
  rw [emn]
  refine q_iconst dX3_takeMapLine_41 ?_
  refine q_icmp_eq (tgt := 51) dX3_takeMapLine_42 rfl (by (first | (unfold zR; omega) | (unfold zLR; omega) | omega | (simp only [zR, qup] at *; omega) | (simp [zR, qup]; omega) | (simp [zR, qup]; done))) (by (first | (unfold zR; omega) | (unfold zLR; omega) | omega | (simp only [zR, qup] at *; omega) | (simp [zR, qup]; omega) | (simp [zR, qup]; done))) (fun h42 => ?_) (fun h42 => ?_)
  rotate_left
  ·
    refine q_aload_n dX3_takeMapLine_45 rfl ?_
    refine q_iconst dX3_takeMapLine_46 ?_
    refine q_V1 dX3_takeMapLine_47 ml_3_73 md_X3_fail c_fail rfl rfl rfl (by first | decide | omega) (Nat.le_of_ble_eq_true rfl) (Nat.le_of_ble_eq_true rfl) (qk_e ?_)
    refine q_zreturn (by first | exact Or.inl rfl | exact Or.inr rfl) dX3_takeMapLine_50 ?_
    exact ⟨_, rfl, lnP_fail hF2 (by omega) (by unfold lnMap; rw [if_neg (by omega), if_neg (fun q => q h24), if_pos h42]) hs2.1.2.2.1⟩
  refine q_aload_n dX3_takeMapLine_51 rfl ?_
  refine q_getr dX3_takeMapLine_52 fl_3_14 rfl rfl ?_
  refine q_aload_n dX3_takeMapLine_55 rfl ?_
  refine q_geti (j := 10) dX3_takeMapLine_56 fl_3_36 rfl rfl rfl ?_
  rw [hs2.2.2.2.1]
  refine q_aload_n dX3_takeMapLine_59 rfl ?_
  refine q_geti (j := 8) dX3_takeMapLine_60 fl_3_61 rfl rfl rfl ?_
  rw [hs2.1.2.2.2]
  refine q_V2 dX3_takeMapLine_63 ml_3_114 md_X5_set (c_rset (o := 26) (r := 27) (n := 6) rfl rfl (by omega) ⟨hm5, by dsimp only; omega⟩) rfl rfl rfl (by first | decide | omega) (Nat.le_of_ble_eq_true rfl) (Nat.le_of_ble_eq_true rfl) (qk_v ?_)
  refine q_aload_n dX3_takeMapLine_66 rfl ?_
  refine q_getr dX3_takeMapLine_67 fl_3_24 rfl rfl ?_
  refine q_bipush dX3_takeMapLine_70 rfl ?_
  refine q_aload_n dX3_takeMapLine_72 rfl ?_
  refine q_geti (j := 10) dX3_takeMapLine_73 fl_3_36 rfl rfl rfl ?_
  rw [show qup (adv M I n (tE I n σ.1)) 27 σ.2.1 (tV I n (tE I n σ.1)) 25 10 = σ.2.1 by simp only [qup]; rw [if_neg (by omega)]; exact hs2.2.2.2.1]
  refine q_iadd dX3_takeMapLine_76 ?_
  refine q_iconst dX3_takeMapLine_77 ?_
  refine q_sipush dX3_takeMapLine_78 rfl ?_
  refine q_iconst dX3_takeMapLine_81 ?_
  refine q_V4 dX3_takeMapLine_82 ml_3_118 md_X0_setCells (c_setCells (by omega) (by omega) (by omega)) rfl rfl rfl (by first | decide | omega) (Nat.le_of_ble_eq_true rfl) (Nat.le_of_ble_eq_true rfl) (qk_v ?_)
  rw [qset_row]
  refine q_aload_n dX3_takeMapLine_85 rfl ?_
  refine q_dup dX3_takeMapLine_86 rfl ?_
  refine q_geti (j := 10) dX3_takeMapLine_87 fl_3_36 rfl rfl rfl ?_
  rw [show qrow (qup (adv M I n (tE I n σ.1)) 27 σ.2.1 (tV I n (tE I n σ.1))) (6 + σ.2.1) (fun _ => 0) 25 10 = σ.2.1 by rw [qrow_o _ _ (by decide)]; simp only [qup]; rw [if_neg (by omega)]; exact hs2.2.2.2.1]
  refine q_iconst dX3_takeMapLine_90 ?_
  refine q_iadd dX3_takeMapLine_91 ?_
  refine q_puti (j := 10) dX3_takeMapLine_92 fl_3_36 rfl rfl rfl rfl rfl ?_
  refine q_aload_n dX3_takeMapLine_95 rfl ?_
  generalize hM3 : qup (qrow (qup (adv M I n (tE I n σ.1)) 27 σ.2.1 (tV I n (tE I n σ.1))) (6 + σ.2.1) fun _ => 0) 25 10 (σ.2.1 + 1) = M3
  have g25 : ∀ k, k ≠ 10 → M3 25 k = adv M I n (tE I n σ.1) 25 k := fun k hk => by rw [← hM3]; simp [qup, qrow, hk]
  have hF3 : PF M0 M3 := by rw [← hM3]; exact PF_25 (PF_row (PF_27 hF2) (by omega) (fun _ _ _ => by omega)) up25_o
  refine q_V0 dX3_takeMapLine_96 ml_3_77 md_X3_advance (c_advance (p := tE I n (tE I n σ.1)) (PF_inB hF3 hB) (by rw [g25 _ (by omega)]; exact hs2.2.1) (by rw [g25 _ (by omega)]; exact hs2.1.1) (by omega)) rfl rfl rfl (by first | decide | omega) (Nat.le_of_ble_eq_true rfl) (Nat.le_of_ble_eq_true rfl) (qk_v ?_)
  refine q_iconst dX3_takeMapLine_99 ?_
  refine q_zreturn (by first | exact Or.inl rfl | exact Or.inr rfl) dX3_takeMapLine_100 ?_
  refine ⟨_, rfl, Or.inr ⟨rfl, (tE I n (tE I n σ.1), σ.2.1 + 1, fup σ.2.2.1 σ.2.1 (tV I n (tE I n σ.1)), fun k => if k = σ.2.1 then fun _ => 0 else σ.2.2.2 k), by unfold lnMap; rw [if_neg (by omega), if_neg (fun q => q h24), if_neg (fun q => q h42)], ?_, PF_25 (M' := adv M3 I n (tE I n (tE I n σ.1))) hF3 adv_o⟩⟩
  show Sp (adv M3 I n (tE I n (tE I n σ.1))) I n L _
  have g27 : ∀ k, M3 27 k = qup (adv M I n (tE I n σ.1)) 27 σ.2.1 (tV I n (tE I n σ.1)) 27 k := fun k => by rw [← hM3]; simp [qup, qrow]
  have g4 : ∀ k, M3 4 k = qrow (qup (adv M I n (tE I n σ.1)) 27 σ.2.1 (tV I n (tE I n σ.1))) (6 + σ.2.1) (fun _ => 0) 4 k := fun k => by rw [← hM3]; simp [qup]
  have gm : M3 25 10 = σ.2.1 + 1 := by rw [← hM3]; simp [qup]
  refine ⟨cur_qlx, by rw [adv_f (by omega), g25 _ (by omega)]; exact hs2.2.1, by rw [adv_f (by omega), g25 _ (by omega)]; exact hs2.2.2.1, by rw [adv_f (by omega)]; exact gm, by dsimp only; omega, by dsimp only; omega, by dsimp only; omega, by dsimp only; omega, by rw [adv_f (by omega), g25 _ (by omega)]; exact hs2.2.2.2.2.2.2.2.2.1, by rw [adv_f (by omega), g25 _ (by omega)]; exact hs2.2.2.2.2.2.2.2.2.2.1, fun k k0 k1 => ?_, fun k i k0 k1 i0 i1 => ?_, fun k i k0 k1 i0 i1 => ?_⟩
  · dsimp only at k1 ⊢
    rw [adv_o 27 (by decide), g27]
    by_cases e : k = σ.2.1
    · subst e; rw [qup_s, fup_s]; exact ⟨rfl, hR⟩
    · rw [qup_k _ _ _ e, fup_n _ e]; exact Sp_N hs2 k k0 (by dsimp only; omega)
  · dsimp only at k1 ⊢
    rw [adv_o 4 (by decide), g4]
    by_cases e : k = σ.2.1
    · subst e; rw [if_pos rfl, qrow_at _ _ ⟨i0, i1⟩]
    · rw [if_neg e, qrow_ne _ _ ⟨i0, i1⟩ (by omega), qup_o _ _ _ _ (by decide)]; exact hs2.2.2.2.2.2.2.2.2.2.2.2.1 k i k0 (by dsimp only; omega) i0 i1
  · dsimp only at k1 ⊢
    by_cases e : k = σ.2.1
    · rw [if_pos e]
    · rw [if_neg e]; exact hz13 k i k0 (by omega) i0 i1
end LN


/-! The model: texts. -/
def mput (M : qM) (v : Int) : qM := qup (qup M 51 (M 37 35) v) 37 35 (M 37 35 + 1)
def mputs (M : qM) : List Int → qM
  | [] => M
  | v :: t => mputs (mput M v) t
theorem mputs_app : ∀ (a b : List Int) (M : qM), mputs M (a ++ b) = mputs (mputs M a) b := by
  intro a
  induction a with
  | nil => intro b M; rfl
  | cons v t ih => intro b M; exact ih b _
theorem mput_len {M : qM} {v : Int} : mput M v 37 35 = M 37 35 + 1 := by simp [mput, qup]
theorem mputs_len : ∀ (a : List Int) (M : qM), mputs M a 37 35 = M 37 35 + a.length := by
  intro a
  induction a with
  | nil => intro M; simp [mputs]
  | cons v t ih => intro M; rw [mputs, ih, mput_len, List.length_cons]; omega
theorem mput_o {M : qM} {v : Int} {o : Nat} (h : o ≠ 37) (h' : o ≠ 51) : mput M v o = M o := by
  funext j
  unfold mput
  rw [qup_o _ _ _ _ h, qup_o _ _ _ _ h']
theorem mput_37 {M : qM} {v : Int} {k : Int} (h : k ≠ 35) : mput M v 37 k = M 37 k := by
  unfold mput
  rw [qup_k _ _ _ h, qup_o _ _ _ _ (by decide)]
theorem mputs_o {o : Nat} (h : o ≠ 37) (h' : o ≠ 51) : ∀ (a : List Int) (M : qM), mputs M a o = M o := by
  intro a
  induction a with
  | nil => intro M; rfl
  | cons v t ih => intro M; rw [mputs, ih, mput_o h h']
theorem mputs_37 {k : Int} (h : k ≠ 35) : ∀ (a : List Int) (M : qM), mputs M a 37 k = M 37 k := by
  intro a
  induction a with
  | nil => intro M; rfl
  | cons v t ih => intro M; rw [mputs, ih, mput_37 h]
theorem MS_35 {A B : qM} (h : MS A B) (v : Int) : MS (qup A 37 35 v) (qup B 37 35 v) := by
  refine ⟨fun o a1 a2 a3 a4 a5 a6 a7 a8 a9 => ?_, fun k hk => ?_⟩
  · funext j
    rw [qup_o _ _ _ _ a1, qup_o _ _ _ _ a1, h.1 o a1 a2 a3 a4 a5 a6 a7 a8 a9]
  · by_cases e : k = 35
    · subst e; rw [qup_s, qup_s]
    · rw [qup_k _ _ _ e, qup_k _ _ _ e, h.2 k hk]
theorem MS_51 {A B : qM} (h : MS A B) (i v : Int) : MS (qup A 51 i v) (qup B 51 i v) := by
  refine ⟨fun o a1 a2 a3 a4 a5 a6 a7 a8 a9 => ?_, fun k hk => ?_⟩
  · funext j
    by_cases e : o = 51
    · subst e
      by_cases g : j = i
      · subst g; rw [qup_s, qup_s]
      · rw [qup_k _ _ _ g, qup_k _ _ _ g, h.1 51 a1 a2 a3 a4 a5 a6 a7 a8 a9]
    · rw [qup_o _ _ _ _ e, qup_o _ _ _ _ e, h.1 o a1 a2 a3 a4 a5 a6 a7 a8 a9]
  · rw [qup_o _ _ _ _ (by decide), qup_o _ _ _ _ (by decide), h.2 k hk]
theorem MS_mput {A B : qM} (h : MS A B) (v : Int) : MS (mput A v) (mput B v) := by
  unfold mput
  rw [h.2 35 (by omega)]
  exact MS_35 (MS_51 h _ _) _
theorem MS_mputs : ∀ (l : List Int) {A B : qM}, MS A B → MS (mputs A l) (mputs B l) := by
  intro l
  induction l with
  | nil => intro A B h; exact h
  | cons v t ih => intro A B h; exact ih (MS_mput h v)
section MW2
variable {M N : qM} {L l : Nat} {c T K F S : Int → Int} {k o x y a b v p q f t n g i : Int}
set_option maxHeartbeats 1000000 in
theorem m_says (hl : 0 ≤ M 37 35 ∧ M 37 35 < 1400) : qCt mX8_says 0 0 [.ref 37, .int (zI v)] M (qpv (mput M v)) := by
  refine q_intro (own := 8) (L := [some (.ref 37), some (.int (zI v))]) md_X8_says rfl rfl rfl (Nat.le_of_ble_eq_true rfl) (fun X => ?_)
  refine q_aload_n dX8_says_0 rfl ?_
  refine q_getr dX8_says_1 fl_8_54 rfl rfl ?_
  refine q_aload_n dX8_says_4 rfl ?_
  refine q_geti (j := 35) dX8_says_5 fl_8_372 rfl rfl rfl ?_
  refine q_iload_n dX8_says_8 rfl ?_
  refine q_iast dX8_says_9 rfl (by (first | (unfold zR; omega) | (unfold zLR; omega) | omega | (simp only [zR, qup] at *; omega) | (simp [zR, qup]; omega) | (simp [zR, qup]; done))) (Nat.le_of_ble_eq_true rfl) ?_
  refine q_aload_n dX8_says_10 rfl ?_
  refine q_dup dX8_says_11 rfl ?_
  refine q_geti (j := 35) dX8_says_12 fl_8_372 rfl rfl rfl ?_
  refine q_iconst dX8_says_15 ?_
  refine q_iadd dX8_says_16 ?_
  refine q_puti (j := 35) dX8_says_17 fl_8_372 rfl rfl rfl rfl rfl ?_
  refine q_return dX8_says_20 ?_
  exact ⟨rfl, by unfold mput; rw [qup_o _ _ _ _ (by decide)]⟩
set_option maxHeartbeats 1000000 in
theorem m_saysDigit (hl : 0 ≤ M 37 35 ∧ M 37 35 < 1400) (hv : 0 ≤ v ∧ v < 16) : qCt mX8_saysDigit 0 1 [.ref 37, .int (zI v)] M (qpv (mput M (hexV v))) := by
  refine q_intro (own := 8) (L := [some (.ref 37), some (.int (zI v))]) md_X8_saysDigit rfl rfl rfl (Nat.le_of_ble_eq_true rfl) (fun X => ?_)
  refine q_aload_n dX8_saysDigit_0 rfl ?_
  refine q_iload_n dX8_saysDigit_1 rfl ?_
  refine q_bipush dX8_saysDigit_2 rfl ?_
  refine q_icmp_ge (tgt := 14) dX8_saysDigit_4 rfl (by (first | (unfold zR; omega) | (unfold zLR; omega) | omega | (simp only [zR, qup] at *; omega) | (simp [zR, qup]; omega) | (simp [zR, qup]; done))) (by (first | (unfold zR; omega) | (unfold zLR; omega) | omega | (simp only [zR, qup] at *; omega) | (simp [zR, qup]; omega) | (simp [zR, qup]; done))) (fun h4 => ?_) (fun h4 => ?_)
  ·
    refine q_bipush dX8_saysDigit_14 rfl ?_
    refine q_iload_n dX8_saysDigit_16 rfl ?_
    refine q_iadd dX8_saysDigit_17 ?_
    refine q_bipush dX8_saysDigit_18 rfl ?_
    refine q_isub dX8_saysDigit_20 ?_
    rw [show 97 + v - 10 = hexV v by unfold hexV; rw [if_neg (by omega)]]
    refine q_V1 dX8_saysDigit_21 ml_8_375 md_X8_says (m_says hl) rfl rfl rfl (by first | decide | omega) (Nat.le_of_ble_eq_true rfl) (Nat.le_of_ble_eq_true rfl) (qk_v ?_)
    refine q_return dX8_saysDigit_24 ?_
    exact ⟨rfl, rfl⟩
  ·
    refine q_bipush dX8_saysDigit_7 rfl ?_
    refine q_iload_n dX8_saysDigit_9 rfl ?_
    refine q_iadd dX8_saysDigit_10 ?_
    refine q_goto (tgt := 21) dX8_saysDigit_11 rfl ?_
    rw [show 48 + v = hexV v by unfold hexV; rw [if_pos (by omega)]]
    refine q_V1 dX8_saysDigit_21 ml_8_375 md_X8_says (m_says hl) rfl rfl rfl (by first | decide | omega) (Nat.le_of_ble_eq_true rfl) (Nat.le_of_ble_eq_true rfl) (qk_v ?_)
    refine q_return dX8_saysDigit_24 ?_
    exact ⟨rfl, rfl⟩
set_option maxHeartbeats 1000000 in
theorem m_saysByte (hl : 0 ≤ M 37 35 ∧ M 37 35 + 2 ≤ 1400) (hv : 0 ≤ v ∧ v < 256) : qCt mX8_saysByte 0 2 [.ref 37, .int (zI v)] M (qpv (mputs M [hexV (v / 16), hexV (v % 16)])) := by
  have a1 : zshr v 4 = v / 16 := zshr_c 4 (by omega) (by omega) (by decide)
  have e2 : zand v 15 = v % 16 := zand_m 4 (by omega) (by omega)
  refine q_intro (own := 8) (L := [some (.ref 37), some (.int (zI v))]) md_X8_saysByte rfl rfl rfl (Nat.le_of_ble_eq_true rfl) (fun X => ?_)
  refine q_aload_n dX8_saysByte_0 rfl ?_
  refine q_iload_n dX8_saysByte_1 rfl ?_
  refine q_iconst dX8_saysByte_2 ?_
  refine q_ishr dX8_saysByte_3 ?_
  rw [a1]
  refine q_V1 dX8_saysByte_4 ml_8_378 md_X8_saysDigit (m_saysDigit (by omega) (by omega)) rfl rfl rfl (by first | decide | omega) (Nat.le_of_ble_eq_true rfl) (Nat.le_of_ble_eq_true rfl) (qk_v ?_)
  refine q_aload_n dX8_saysByte_7 rfl ?_
  refine q_iload_n dX8_saysByte_8 rfl ?_
  refine q_bipush dX8_saysByte_9 rfl ?_
  refine q_iand dX8_saysByte_11 ?_
  rw [e2]
  refine q_V1 dX8_saysByte_12 ml_8_378 md_X8_saysDigit (m_saysDigit (by rw [mput_len]; omega) (by omega)) rfl rfl rfl (by first | decide | omega) (Nat.le_of_ble_eq_true rfl) (Nat.le_of_ble_eq_true rfl) (qk_v ?_)
  refine q_return dX8_saysByte_15 ?_
  exact ⟨rfl, rfl⟩
set_option maxHeartbeats 1500000 in
theorem m_saysTree (hL : L ≤ 4) (hcb : ∀ k, 0 ≤ k → k < p4 L → 0 ≤ c k ∧ c k < 256) : ∀ (l : Nat), l ≤ L → ∀ (b : Int) (M : qM), 0 ≤ b → b < p4 ((L : Int) - l) → sr c L 0 (L - l) b ≠ -1 → M 37 9 = (L : Int) → (∀ (d : Nat) (x : Int), d ≤ L → 0 ≤ x → x < p4 d → M 44 (off d + x) = bcode c L d x) → (∀ k, 0 ≤ k → k < p4 L → M 42 k = c k) → 0 ≤ M 37 35 ∧ M 37 35 + slen l ≤ 1400 → qCt mX8_saysTree 0 (3 + l) [.ref 37, .int (zI (l : Int)), .int (zI b)] M (qpv (mputs M (spl c l b))) := by
  intro l
  have hpL := p4_in (L : Int)
  induction l with
  | zero =>
    intro _ b M hb0 hb1 ht h9 hK hR hm
    rw [show (L : Int) - ((0 : Nat) : Int) = L by omega] at hb1
    have hcc := hcb b hb0 hb1
    rw [show slen 0 = 2 from rfl] at hm
    refine q_intro (own := 8) (L := [some (.ref 37), some (.int (zI ((0 : Nat) : Int))), some (.int (zI b)), none, none, none]) md_X8_saysTree rfl rfl rfl (Nat.le_of_ble_eq_true rfl) (fun X => ?_)
    refine q_iload_n dX8_saysTree_0 rfl ?_
    refine q_if_ne (tgt := 15) dX8_saysTree_1 rfl (by (first | (unfold zR; omega) | (unfold zLR; omega) | omega | (simp only [zR, qup] at *; omega) | (simp [zR, qup]; omega) | (simp [zR, qup]; done))) (fun h1 => absurd h1 (by omega)) (fun h1 => ?_)
    refine q_aload_n dX8_saysTree_4 rfl ?_
    refine q_aload_n dX8_saysTree_5 rfl ?_
    refine q_getr dX8_saysTree_6 fl_8_23 rfl rfl ?_
    refine q_iload_n dX8_saysTree_9 rfl ?_
    refine q_iald dX8_saysTree_10 rfl (by (first | (unfold zR; omega) | (unfold zLR; omega) | omega | (simp only [zR, qup] at *; omega) | (simp [zR, qup]; omega) | (simp [zR, qup]; done))) (Nat.le_of_ble_eq_true rfl) ?_
    rw [hR b hb0 hb1]
    refine q_V1 dX8_saysTree_11 ml_8_381 md_X8_saysByte (m_saysByte (by omega) hcc) rfl rfl rfl (by first | decide | omega) (Nat.le_of_ble_eq_true rfl) (Nat.le_of_ble_eq_true rfl) (qk_v ?_)
    refine q_return dX8_saysTree_14 ?_
    exact ⟨rfl, rfl⟩
  | succ l ih =>
    intro hl b M hb0 hb1 ht h9 hK hR hm
    rw [show ((l + 1 : Nat) : Int) = (l : Int) + 1 by omega] at hb1
    have hkid := fun (q : Nat) (hq : q < 4) => p4_kid (l := l) (L := L) (x := b) hl hL ⟨hb0, hb1⟩ hq
    have hkd : ∀ j : Nat, j < 4 → 0 ≤ 4 * b + (j : Int) ∧ 4 * b + (j : Int) < p4 ((L - l : Nat) : Int) := fun j hj => by
      rw [show ((L - l : Nat) : Int) = (L : Int) - l by omega]
      exact hkid j hj
    rw [show slen (l + 1) = 2 + 4 * slen l from rfl] at hm
    have hql : ∀ i : Nat, (sq c (spl c l) l b i).length ≤ i * slen l := sq_len (spl_len c l)
    have hlen : ∀ i : Nat, (mputs (mput M 40) (sq c (spl c l) l b i)) 37 35 = M 37 35 + 1 + (sq c (spl c l) l b i).length := fun i => by rw [mputs_len, mput_len]
    refine q_intro (own := 8) (L := [some (.ref 37), some (.int (zI ((l + 1 : Nat) : Int))), some (.int (zI b)), none, none, none]) md_X8_saysTree rfl rfl rfl (Nat.le_of_ble_eq_true rfl) (fun X => ?_)
    refine q_iload_n dX8_saysTree_0 rfl ?_
    refine q_if_ne (tgt := 15) dX8_saysTree_1 rfl (by (first | (unfold zR; omega) | (unfold zLR; omega) | omega | (simp only [zR, qup] at *; omega) | (simp [zR, qup]; omega) | (simp [zR, qup]; done))) (fun h1 => ?_) (fun h1 => absurd h1 (by omega))
    refine q_aload_n dX8_saysTree_15 rfl ?_
    refine q_bipush dX8_saysTree_16 rfl ?_
    refine q_V1 dX8_saysTree_18 ml_8_375 md_X8_says (m_says (by omega)) rfl rfl rfl (by first | decide | omega) (Nat.le_of_ble_eq_true rfl) (Nat.le_of_ble_eq_true rfl) (qk_v ?_)
    refine q_iconst dX8_saysTree_21 ?_
    refine q_istore_n dX8_saysTree_22 (Nat.le_of_ble_eq_true rfl) rfl ?_
    refine q_lp (fun i : Nat => 5 - i) (fun i => i ≤ 4) (fun i => [some (.ref 37), some (.int (zI ((l + 1 : Nat) : Int))), some (.int (zI b)), some (.int (zI (i : Int))), none, none]) (fun i => mputs (mput M 40) (sq c (spl c l) l b i)) 0 rfl rfl (by omega) (fun i hi ih2 => ?_)
    have hqi := hql i
    have hle := hlen i
    have hmul : i * slen l ≤ 4 * slen l := Nat.mul_le_mul_right _ hi
    have hs1 : 1 ≤ slen l := by cases l <;> simp [slen] <;> omega
    have hmul1 : i < 4 → i * slen l + slen l ≤ 4 * slen l := fun h => by have := Nat.mul_le_mul_right (slen l) (show i + 1 ≤ 4 by omega); rw [Nat.add_mul, Nat.one_mul] at this; exact this
    have hsq : sq c (spl c l) l b (i + 1) = sq c (spl c l) l b i ++ (if qcode c l b i = 2 then spl c l (4 * b + i) else [if qcode c l b i = 0 then 45 else if qcode c l b i = 1 then 43 else 61]) := rfl
    have hqc := qcode_in c l b i
    have o44 : mputs (mput M 40) (sq c (spl c l) l b i) 44 = M 44 := by rw [mputs_o (by decide) (by decide), mput_o (by decide) (by decide)]
    have o42 : mputs (mput M 40) (sq c (spl c l) l b i) 42 = M 42 := by rw [mputs_o (by decide) (by decide), mput_o (by decide) (by decide)]
    have o9 : mputs (mput M 40) (sq c (spl c l) l b i) 37 9 = (L : Int) := by rw [mputs_37 (by decide), mput_37 (by decide), h9]
    generalize hW : mputs (mput M 40) (sq c (spl c l) l b i) = W at hle o44 o42 o9
    refine q_iload_n dX8_saysTree_23 rfl ?_
    refine q_iconst dX8_saysTree_24 ?_
    refine q_icmp_ge (tgt := 102) dX8_saysTree_25 rfl (by (first | (unfold zR; omega) | (unfold zLR; omega) | omega | (simp only [zR, qup] at *; omega) | (simp [zR, qup]; omega) | (simp [zR, qup]; done))) (by (first | (unfold zR; omega) | (unfold zLR; omega) | omega | (simp only [zR, qup] at *; omega) | (simp [zR, qup]; omega) | (simp [zR, qup]; done))) (fun h25 => ?_) (fun h25 => ?_)
    rotate_left
    ·
      refine q_iconst dX8_saysTree_28 ?_
      refine q_iload_n dX8_saysTree_29 rfl ?_
      refine q_imul dX8_saysTree_30 ?_
      refine q_iload_n dX8_saysTree_31 rfl ?_
      refine q_iadd dX8_saysTree_32 ?_
      refine q_istore dX8_saysTree_33 (Nat.le_of_ble_eq_true rfl) rfl ?_
      refine q_aload_n dX8_saysTree_35 rfl ?_
      refine q_getr dX8_saysTree_36 fl_8_29 rfl rfl ?_
      refine q_aload_n dX8_saysTree_39 rfl ?_
      refine q_iload_n dX8_saysTree_40 rfl ?_
      refine q_iconst dX8_saysTree_41 ?_
      refine q_isub dX8_saysTree_42 ?_
      refine q_iload dX8_saysTree_43 rfl ?_
      rw [show ((l + 1 : Nat) : Int) - 1 = l by omega]
      have hk := hkd i (by omega)
      have hk2 := hkid i (by omega)
      have hm1 := hmul1 (by omega)
      have hoi := off_in (d := L - l) (by omega) hk
      refine q_V2 dX8_saysTree_45 ml_8_97 md_X8_spot (m_spot (l := l) (L := L) o9 hL (by omega) hk) rfl rfl rfl (by first | decide | omega) (Nat.le_of_ble_eq_true rfl) (Nat.le_of_ble_eq_true rfl) (qk_e ?_)
      refine q_iald dX8_saysTree_48 rfl (by (first | (unfold zR; omega) | (unfold zLR; omega) | omega | (simp only [zR, qup] at *; omega) | (simp [zR, qup]; omega) | (simp [zR, qup]; done))) (Nat.le_of_ble_eq_true rfl) ?_
      rw [show W 44 (off (L - l) + (4 * b + (i : Int))) = qcode c l b i by rw [o44, hK (L - l) _ (by omega) hk.1 hk.2]; exact bcode_q (by omega) ht (by omega)]
      refine q_istore dX8_saysTree_49 (Nat.le_of_ble_eq_true rfl) rfl ?_
      refine q_iload dX8_saysTree_51 rfl ?_
      refine q_iconst dX8_saysTree_53 ?_
      refine q_icmp_ne (tgt := 69) dX8_saysTree_54 rfl (by (first | (unfold zR; omega) | (unfold zLR; omega) | omega | (simp only [zR, qup] at *; omega) | (simp [zR, qup]; omega) | (simp [zR, qup]; done))) (by (first | (unfold zR; omega) | (unfold zLR; omega) | omega | (simp only [zR, qup] at *; omega) | (simp [zR, qup]; omega) | (simp [zR, qup]; done))) (fun h54 => ?_) (fun h54 => ?_)
      ·
        refine q_aload_n dX8_saysTree_69 rfl ?_
        refine q_iload dX8_saysTree_70 rfl ?_
        refine q_if_ne (tgt := 80) dX8_saysTree_72 rfl (by (first | (unfold zR; omega) | (unfold zLR; omega) | omega | (simp only [zR, qup] at *; omega) | (simp [zR, qup]; omega) | (simp [zR, qup]; done))) (fun h72 => ?_) (fun h72 => ?_)
        ·
          refine q_iload dX8_saysTree_80 rfl ?_
          refine q_iconst dX8_saysTree_82 ?_
          refine q_icmp_ne (tgt := 91) dX8_saysTree_83 rfl (by (first | (unfold zR; omega) | (unfold zLR; omega) | omega | (simp only [zR, qup] at *; omega) | (simp [zR, qup]; omega) | (simp [zR, qup]; done))) (by (first | (unfold zR; omega) | (unfold zLR; omega) | omega | (simp only [zR, qup] at *; omega) | (simp [zR, qup]; omega) | (simp [zR, qup]; done))) (fun h83 => ?_) (fun h83 => ?_)
          ·
            refine q_bipush dX8_saysTree_91 rfl ?_
            refine q_V1 dX8_saysTree_93 ml_8_375 md_X8_says (m_says (by omega)) rfl rfl rfl (by first | decide | omega) (Nat.le_of_ble_eq_true rfl) (Nat.le_of_ble_eq_true rfl) (qk_v ?_)
            refine q_iinc dX8_saysTree_96 rfl (Nat.le_of_ble_eq_true rfl) rfl ?_
            refine q_goto (tgt := 23) dX8_saysTree_99 rfl ?_
            refine q_wk _ ?_ (ih2 (i + 1) _ _ (by omega) (by omega) rfl (by rw [hsq, if_neg h54, mputs_app, hW, if_neg h72, if_neg h83]; rfl))
            rw [show (i : Int) + 1 = ((i + 1 : Nat) : Int) by omega]
            simp only [wkB]
            (repeat (first | exact rfl | exact trivial | refine ⟨rfl, ?_⟩))
          ·
            refine q_bipush dX8_saysTree_86 rfl ?_
            refine q_goto (tgt := 93) dX8_saysTree_88 rfl ?_
            refine q_V1 dX8_saysTree_93 ml_8_375 md_X8_says (m_says (by omega)) rfl rfl rfl (by first | decide | omega) (Nat.le_of_ble_eq_true rfl) (Nat.le_of_ble_eq_true rfl) (qk_v ?_)
            refine q_iinc dX8_saysTree_96 rfl (Nat.le_of_ble_eq_true rfl) rfl ?_
            refine q_goto (tgt := 23) dX8_saysTree_99 rfl ?_
            refine q_wk _ ?_ (ih2 (i + 1) _ _ (by omega) (by omega) rfl (by rw [hsq, if_neg h54, mputs_app, hW, if_neg h72, if_pos (by omega)]; rfl))
            rw [show (i : Int) + 1 = ((i + 1 : Nat) : Int) by omega]
            simp only [wkB]
            (repeat (first | exact rfl | exact trivial | refine ⟨rfl, ?_⟩))
        ·
          refine q_bipush dX8_saysTree_75 rfl ?_
          refine q_goto (tgt := 93) dX8_saysTree_77 rfl ?_
          refine q_V1 dX8_saysTree_93 ml_8_375 md_X8_says (m_says (by omega)) rfl rfl rfl (by first | decide | omega) (Nat.le_of_ble_eq_true rfl) (Nat.le_of_ble_eq_true rfl) (qk_v ?_)
          refine q_iinc dX8_saysTree_96 rfl (Nat.le_of_ble_eq_true rfl) rfl ?_
          refine q_goto (tgt := 23) dX8_saysTree_99 rfl ?_
          refine q_wk _ ?_ (ih2 (i + 1) _ _ (by omega) (by omega) rfl (by rw [hsq, if_neg h54, mputs_app, hW, if_pos h72]; rfl))
          rw [show (i : Int) + 1 = ((i + 1 : Nat) : Int) by omega]
          simp only [wkB]
          (repeat (first | exact rfl | exact trivial | refine ⟨rfl, ?_⟩))
      ·
        refine q_aload_n dX8_saysTree_57 rfl ?_
        refine q_iload_n dX8_saysTree_58 rfl ?_
        refine q_iconst dX8_saysTree_59 ?_
        refine q_isub dX8_saysTree_60 ?_
        refine q_iload dX8_saysTree_61 rfl ?_
        rw [show ((l + 1 : Nat) : Int) - 1 = l by omega]
        refine q_V2 dX8_saysTree_63 ml_8_384 md_X8_saysTree (ih (by omega) (4 * b + (i : Int)) W hk.1 hk2.2 (sr_kid (by omega) ht (by omega) h54) o9 (fun d x d0 x0 x1 => by rw [o44]; exact hK d x d0 x0 x1) (fun j j0 j1 => by rw [o42]; exact hR j j0 j1) (by omega)) rfl rfl rfl (by first | decide | omega) (Nat.le_of_ble_eq_true rfl) (Nat.le_of_ble_eq_true rfl) (qk_v ?_)
        refine q_goto (tgt := 96) dX8_saysTree_66 rfl ?_
        refine q_iinc dX8_saysTree_96 rfl (Nat.le_of_ble_eq_true rfl) rfl ?_
        refine q_goto (tgt := 23) dX8_saysTree_99 rfl ?_
        refine q_wk _ ?_ (ih2 (i + 1) _ _ (by omega) (by omega) rfl (by rw [hsq, if_pos (by omega), mputs_app, hW]))
        rw [show (i : Int) + 1 = ((i + 1 : Nat) : Int) by omega]
        simp only [wkB]
        (repeat (first | exact rfl | exact trivial | refine ⟨rfl, ?_⟩))
    refine q_aload_n dX8_saysTree_102 rfl ?_
    refine q_bipush dX8_saysTree_103 rfl ?_
    have hi4 : i = 4 := by omega
    subst hi4
    refine q_V1 dX8_saysTree_105 ml_8_375 md_X8_says (m_says (by omega)) rfl rfl rfl (by first | decide | omega) (Nat.le_of_ble_eq_true rfl) (Nat.le_of_ble_eq_true rfl) (qk_v ?_)
    refine q_return dX8_saysTree_108 ?_
    exact ⟨rfl, by show _ = mputs (mput M 40) (sq c (spl c l) l b 4 ++ [41]); rw [mputs_app, hW]; rfl⟩
set_option maxHeartbeats 1500000 in
theorem o_writeTree (hM : MI M) (hL : M 37 2 = (L : Int)) (hk : zR k) : qCt mX8_writeTree 0 9 [.ref 37, .int (zI k)] M (mpx (gG M k) (fun z M' => z = (spl (scl M k) L 0).length ∧ MS (mputs (qup (qup M 37 0 0) 37 35 0) (spl (scl M k) L 0)) M') M) := by
  have hL4 : L ≤ 4 := by have := hM.2.1; omega
  have hsl : slen L ≤ 682 := by
    have e : L = 0 ∨ L = 1 ∨ L = 2 ∨ L = 3 ∨ L = 4 := by omega
    rcases e with rfl | rfl | rfl | rfl | rfl <;> decide
  refine q_intro (own := 8) (L := [some (.ref 37), some (.int (zI k))]) md_X8_writeTree rfl rfl rfl (Nat.le_of_ble_eq_true rfl) (fun X => ?_)
  refine q_aload_n dX8_writeTree_0 rfl ?_
  refine q_iload_n dX8_writeTree_1 rfl ?_
  refine q_V1 dX8_writeTree_2 ml_8_292 md_X8_noMap (m_noMap hM.1 hM.2.2.2.1 hk) rfl rfl rfl (by first | decide | omega) (Nat.le_of_ble_eq_true rfl) (Nat.le_of_ble_eq_true rfl) (qk_e ?_)
  refine q_if_eq (tgt := 10) dX8_writeTree_5 rfl (by exact zb_R _) (fun h5 => ?_) (fun h5 => ?_)
  ·
    have hg : gG M k = 0 := zbz h5
    have hgk := gG_0 hM hg
    rw [show gor (mT M) (mMp M k) = 0 from hg]
    refine q_aload_n dX8_writeTree_10 rfl ?_
    refine q_iload_n dX8_writeTree_11 rfl ?_
    refine q_V1 dX8_writeTree_12 ml_8_286 md_X8_fetchesTree (m_fetchesTree hM hL (by omega)) rfl rfl rfl (by first | decide | omega) (Nat.le_of_ble_eq_true rfl) (Nat.le_of_ble_eq_true rfl) (qk_h (fun N12 hq12 => ?_))
    obtain ⟨Tq, Kq, Fq, Sq, rfl, hm⟩ := hq12
    refine q_aload_n dX8_writeTree_15 rfl ?_
    refine q_iconst dX8_writeTree_16 ?_
    refine q_puti (j := 35) dX8_writeTree_17 fl_8_372 rfl rfl rfl rfl rfl ?_
    refine q_aload_n dX8_writeTree_20 rfl ?_
    refine q_aload_n dX8_writeTree_21 rfl ?_
    refine q_geti (j := 9) dX8_writeTree_22 fl_8_83 rfl rfl rfl ?_
    refine q_iconst dX8_writeTree_25 ?_
    rw [show qup (mtw (fW M 0 L k) Tq Kq Fq Sq (tsz (scl M k) L 0)) 37 35 0 37 9 = (L : Int) by rw [qup_k _ _ _ (by decide), mtw_9]; exact fW_9]
    refine q_V2 dX8_writeTree_26 ml_8_384 md_X8_saysTree (m_saysTree (c := scl M k) hL4 (fun j j0 j1 => scl_b hM (by omega) ⟨j0, by have := p4_in (L : Int); omega⟩) L (Nat.le_refl L) 0 _ (Int.le_refl 0) (by rw [show (L : Int) - L = 0 by omega]; decide) (by rw [Nat.sub_self, sr_0]; decide) (by rw [qup_k _ _ _ (by decide), mtw_9]; exact fW_9) (fun d x d0 x0 x1 => by rw [qup_o _ _ _ _ (by decide)]; exact (hm.2.1 d x d0 x0 x1).1) (fun j j0 j1 => by rw [qup_o _ _ _ _ (by decide), mtw_42]; exact fW_42 ⟨j0, j1⟩) (by rw [qup_s]; omega)) rfl rfl rfl (by first | decide | omega) (Nat.le_of_ble_eq_true rfl) (Nat.le_of_ble_eq_true rfl) (qk_v ?_)
    refine q_aload_n dX8_writeTree_29 rfl ?_
    refine q_geti (j := 35) dX8_writeTree_30 fl_8_372 rfl rfl rfl ?_
    refine q_ireturn dX8_writeTree_33 ?_
    exact mpx_k hg ⟨by rw [mputs_len, qup_s]; omega, MS_mputs _ (MS_35 (MS_tr (fW_MS M 0 L k) (mtw_MS _ _ _ _ _ _)) 0)⟩
  ·
    refine q_iconst dX8_writeTree_8 ?_
    refine q_ireturn dX8_writeTree_9 ?_
    exact mpx_g (zbn h5)
set_option maxHeartbeats 1500000 in
theorem o_writeBytes (hM : MI M) (hL : M 37 2 = (L : Int)) (hk : zR k) : qCt mX8_writeBytes 0 9 [.ref 37, .int (zI k)] M (mpx (gG M k) (fun z M' => z = 3 * tsz (scl M k) L 0 - 1 ∧ ∃ N, lay (scl M k) L 0 N 0 ∧ MS (mputs (qup (qup M 37 0 0) 37 35 0) (byl N (tsz (scl M k) L 0).toNat)) M') M) := by
  have hL4 : L ≤ 4 := by have := hM.2.1; omega
  have ht1 := tsz_in (scl M k) L 0
  have ht2 := tmax_in L hL4
  refine q_intro (own := 8) (L := [some (.ref 37), some (.int (zI k)), none]) md_X8_writeBytes rfl rfl rfl (Nat.le_of_ble_eq_true rfl) (fun X => ?_)
  refine q_aload_n dX8_writeBytes_0 rfl ?_
  refine q_iload_n dX8_writeBytes_1 rfl ?_
  refine q_V1 dX8_writeBytes_2 ml_8_292 md_X8_noMap (m_noMap hM.1 hM.2.2.2.1 hk) rfl rfl rfl (by first | decide | omega) (Nat.le_of_ble_eq_true rfl) (Nat.le_of_ble_eq_true rfl) (qk_e ?_)
  refine q_if_eq (tgt := 10) dX8_writeBytes_5 rfl (by exact zb_R _) (fun h5 => ?_) (fun h5 => ?_)
  ·
    have hg : gG M k = 0 := zbz h5
    have hgk := gG_0 hM hg
    rw [show gor (mT M) (mMp M k) = 0 from hg]
    refine q_aload_n dX8_writeBytes_10 rfl ?_
    refine q_iload_n dX8_writeBytes_11 rfl ?_
    refine q_V1 dX8_writeBytes_12 ml_8_286 md_X8_fetchesTree (m_fetchesTree hM hL (by omega)) rfl rfl rfl (by first | decide | omega) (Nat.le_of_ble_eq_true rfl) (Nat.le_of_ble_eq_true rfl) (qk_h (fun N12 hq12 => ?_))
    obtain ⟨Tq, Kq, Fq, Sq, rfl, hm⟩ := hq12
    have hNi := lay_in (c := scl M k) (fun j h0 h1 => scl_b hM (by omega) ⟨h0, h1⟩) L 0 Tq 0 hL4 (Int.le_refl 0) (by have := p4_in (L : Int); omega) hm.1
    have hMS := MS_35 (MS_tr (fW_MS M 0 L k) (mtw_MS (fW M 0 L k) Tq Kq Fq Sq (tsz (scl M k) L 0))) 0
    have w43 : qup (mtw (fW M 0 L k) Tq Kq Fq Sq (tsz (scl M k) L 0)) 37 35 0 43 = Tq := by funext j; exact qup_o _ _ _ _ (by decide)
    have w12 : qup (mtw (fW M 0 L k) Tq Kq Fq Sq (tsz (scl M k) L 0)) 37 35 0 37 12 = tsz (scl M k) L 0 := by rw [qup_k _ _ _ (by decide), mtw_12]
    have w35 : qup (mtw (fW M 0 L k) Tq Kq Fq Sq (tsz (scl M k) L 0)) 37 35 0 37 35 = 0 := qup_s _ _ _ _
    refine q_aload_n dX8_writeBytes_15 rfl ?_
    refine q_iconst dX8_writeBytes_16 ?_
    refine q_puti (j := 35) dX8_writeBytes_17 fl_8_372 rfl rfl rfl rfl rfl ?_
    refine q_iconst dX8_writeBytes_20 ?_
    refine q_istore_n dX8_writeBytes_21 (Nat.le_of_ble_eq_true rfl) rfl ?_
    generalize qup (mtw (fW M 0 L k) Tq Kq Fq Sq (tsz (scl M k) L 0)) 37 35 0 = W at hMS w43 w12 w35
    refine q_lp (fun n : Nat => (tsz (scl M k) L 0).toNat - n) (fun n => (n : Int) ≤ tsz (scl M k) L 0) (fun n => [some (.ref 37), some (.int (zI k)), some (.int (zI (n : Int)))]) (fun n => mputs W (byl Tq n)) 0 rfl rfl (by omega) (fun n hn ih => ?_)
    have hln := mputs_len (byl Tq n) W
    rw [byl_len, w35] at hln
    have b43 : mputs W (byl Tq n) 43 = Tq := by rw [mputs_o (by decide) (by decide), w43]
    have b12 : mputs W (byl Tq n) 37 12 = tsz (scl M k) L 0 := by rw [mputs_37 (by decide), w12]
    have hbs : mputs W (byl Tq (n + 1)) = mputs (mputs W (byl Tq n)) ((if n = 0 then [] else [32]) ++ [hexV (Tq n / 16), hexV (Tq n % 16)]) := by rw [byl_s, mputs_app]
    generalize hB : mputs W (byl Tq n) = B at hln b43 b12 hbs
    have hN : (n : Int) < tsz (scl M k) L 0 → 0 ≤ Tq n ∧ Tq n < 256 := fun h => by
      have e := hNi n (by omega) h
      rw [Int.zero_add] at e
      exact e
    refine q_iload_n dX8_writeBytes_22 rfl ?_
    refine q_aload_n dX8_writeBytes_23 rfl ?_
    refine q_geti (j := 12) dX8_writeBytes_24 fl_8_101 rfl rfl rfl ?_
    rw [b12]
    refine q_icmp_ge (tgt := 56) dX8_writeBytes_27 rfl (by (first | (unfold zR; omega) | (unfold zLR; omega) | omega | (simp only [zR, qup] at *; omega) | (simp [zR, qup]; omega) | (simp [zR, qup]; done))) (by (first | (unfold zR; omega) | (unfold zLR; omega) | omega | (simp only [zR, qup] at *; omega) | (simp [zR, qup]; omega) | (simp [zR, qup]; done))) (fun h27 => ?_) (fun h27 => ?_)
    rotate_left
    ·
      refine q_iload_n dX8_writeBytes_30 rfl ?_
      refine q_if_le (tgt := 40) dX8_writeBytes_31 rfl (by (first | (unfold zR; omega) | (unfold zLR; omega) | omega | (simp only [zR, qup] at *; omega) | (simp [zR, qup]; omega) | (simp [zR, qup]; done))) (fun h31 => ?_) (fun h31 => ?_)
      ·
        refine q_aload_n dX8_writeBytes_40 rfl ?_
        refine q_aload_n dX8_writeBytes_41 rfl ?_
        refine q_getr dX8_writeBytes_42 fl_8_26 rfl rfl ?_
        refine q_iload_n dX8_writeBytes_45 rfl ?_
        refine q_iald dX8_writeBytes_46 rfl (by (first | (unfold zR; omega) | (unfold zLR; omega) | omega | (simp only [zR, qup] at *; omega) | (simp [zR, qup]; omega) | (simp [zR, qup]; done))) (Nat.le_of_ble_eq_true rfl) ?_
        rw [b43]
        refine q_V1 dX8_writeBytes_47 ml_8_381 md_X8_saysByte (m_saysByte (by first | omega | (rw [mput_len]; omega)) (hN (by omega))) rfl rfl rfl (by first | decide | omega) (Nat.le_of_ble_eq_true rfl) (Nat.le_of_ble_eq_true rfl) (qk_v ?_)
        refine q_iinc dX8_writeBytes_50 rfl (Nat.le_of_ble_eq_true rfl) rfl ?_
        refine q_goto (tgt := 22) dX8_writeBytes_53 rfl ?_
        exact ih (n + 1) _ _ (by omega) (by omega) rfl (by rw [hbs, if_pos (by omega)]; rfl)
      ·
        refine q_aload_n dX8_writeBytes_34 rfl ?_
        refine q_bipush dX8_writeBytes_35 rfl ?_
        refine q_V1 dX8_writeBytes_37 ml_8_375 md_X8_says (m_says (by omega)) rfl rfl rfl (by first | decide | omega) (Nat.le_of_ble_eq_true rfl) (Nat.le_of_ble_eq_true rfl) (qk_v ?_)
        refine q_aload_n dX8_writeBytes_40 rfl ?_
        refine q_aload_n dX8_writeBytes_41 rfl ?_
        refine q_getr dX8_writeBytes_42 fl_8_26 rfl rfl ?_
        refine q_iload_n dX8_writeBytes_45 rfl ?_
        refine q_iald dX8_writeBytes_46 rfl (by (first | (unfold zR; omega) | (unfold zLR; omega) | omega | (simp only [zR, qup] at *; omega) | (simp [zR, qup]; omega) | (simp [zR, qup]; done))) (Nat.le_of_ble_eq_true rfl) ?_
        rw [mput_o (by decide) (by decide), b43]
        refine q_V1 dX8_writeBytes_47 ml_8_381 md_X8_saysByte (m_saysByte (by first | omega | (rw [mput_len]; omega)) (hN (by omega))) rfl rfl rfl (by first | decide | omega) (Nat.le_of_ble_eq_true rfl) (Nat.le_of_ble_eq_true rfl) (qk_v ?_)
        refine q_iinc dX8_writeBytes_50 rfl (Nat.le_of_ble_eq_true rfl) rfl ?_
        refine q_goto (tgt := 22) dX8_writeBytes_53 rfl ?_
        exact ih (n + 1) _ _ (by omega) (by omega) rfl (by rw [hbs, if_neg (by omega)]; rfl)
    refine q_aload_n dX8_writeBytes_56 rfl ?_
    refine q_geti (j := 35) dX8_writeBytes_57 fl_8_372 rfl rfl rfl ?_
    refine q_ireturn dX8_writeBytes_60 ?_
    exact mpx_k hg ⟨by omega, Tq, hm.1, by rw [← hB, show (tsz (scl M k) L 0).toNat = n by omega]; exact MS_mputs _ hMS⟩
  ·
    refine q_iconst dX8_writeBytes_8 ?_
    refine q_ireturn dX8_writeBytes_9 ?_
    exact mpx_g (zbn h5)
set_option maxHeartbeats 1500000 in
theorem o_writeBits (hM : MI M) (hL : M 37 2 = (L : Int)) (hk : zR k) (hf : zR f) (ht : zR t) : qCt mX8_writeBits 0 4 [.ref 37, .int (zI k), .int (zI f), .int (zI t)] M (mpx (gor (gor (gG M k) (mRg M f t)) (if t - f < 200 then 0 else 3)) (fun z M' => z = t - f + 1 ∧ MS (mputs (qup (qup M 37 0 0) 37 35 0) (bil (scl M k) f (t - f + 1).toNat)) M') M) := by
  have hL4 : L ≤ 4 := by have := hM.2.1; omega
  have hpL := p4_in (L : Int)
  refine q_intro (own := 8) (L := [some (.ref 37), some (.int (zI k)), some (.int (zI f)), some (.int (zI t)), none]) md_X8_writeBits rfl rfl rfl (Nat.le_of_ble_eq_true rfl) (fun X => ?_)
  refine q_aload_n dX8_writeBits_0 rfl ?_
  refine q_iload_n dX8_writeBits_1 rfl ?_
  refine q_iload_n dX8_writeBits_2 rfl ?_
  refine q_iload_n dX8_writeBits_3 rfl ?_
  refine q_V3 dX8_writeBits_4 ml_8_302 md_X8_noRange (m_noRange hM hk hf ht) rfl rfl rfl (by first | decide | omega) (Nat.le_of_ble_eq_true rfl) (Nat.le_of_ble_eq_true rfl) (qk_e ?_)
  refine q_if_ne (tgt := 32) dX8_writeBits_7 rfl (by exact zb_R _) (fun h7 => ?_) (fun h7 => ?_)
  ·
    refine q_iconst dX8_writeBits_32 ?_
    refine q_ireturn dX8_writeBits_33 ?_
    exact mpx_g2 (zbn h7)
  ·
    have hg2 := gor_00.1 (zbz h7)
    have hgk := gG_0 hM hg2.1
    have hps := mRg_0 hL hg2.2
    refine q_aload_n dX8_writeBits_10 rfl ?_
    refine q_iload_n dX8_writeBits_11 rfl ?_
    refine q_iload_n dX8_writeBits_12 rfl ?_
    refine q_isub dX8_writeBits_13 ?_
    refine q_sipush dX8_writeBits_14 rfl ?_
    refine q_icmp_lt (tgt := 24) dX8_writeBits_17 rfl (by (first | (unfold zR; omega) | (unfold zLR; omega) | omega | (simp only [zR, qup] at *; omega) | (simp [zR, qup]; omega) | (simp [zR, qup]; done))) (by (first | (unfold zR; omega) | (unfold zLR; omega) | omega | (simp only [zR, qup] at *; omega) | (simp [zR, qup]; omega) | (simp [zR, qup]; done))) (fun h17 => ?_) (fun h17 => ?_)
    ·
      refine q_iconst dX8_writeBits_24 ?_
      refine q_iconst dX8_writeBits_25 ?_
      have hgb : (if (0 : Int) = 1 then (3 : Int) else 0) = (if t - f < 200 then 0 else 3) := (if_pos (by omega)).symm
      refine q_V2 dX8_writeBits_26 ml_8_64 md_X8_refuse (m_refH (by omega) (gor_R (gor_R (mT_R M) mMp_R) (ite_R (by unfold zR; omega) (by unfold zR; omega))) (by (first | (unfold zR; omega) | (unfold zLR; omega) | omega | (simp only [zR, qup] at *; omega) | (simp [zR, qup]; omega) | (simp [zR, qup]; done))) hgb) rfl rfl rfl (by first | decide | omega) (Nat.le_of_ble_eq_true rfl) (Nat.le_of_ble_eq_true rfl) (qk_e ?_)
      refine q_if_eq (tgt := 34) dX8_writeBits_29 rfl (by exact zb_R _) (fun h29 => ?_) (fun h29 => ?_)
      ·
        have hg := zbz h29
        have hg2 := gor_00.1 hg
        rw [hg]
        refine q_aload_n dX8_writeBits_34 rfl ?_
        refine q_iload_n dX8_writeBits_35 rfl ?_
        refine q_V1 dX8_writeBits_36 ml_8_117 md_X8_fetches (m_fetchG hM hL (by omega)) rfl rfl rfl (by first | decide | omega) (Nat.le_of_ble_eq_true rfl) (Nat.le_of_ble_eq_true rfl) (qk_v ?_)
        refine q_aload_n dX8_writeBits_39 rfl ?_
        refine q_iconst dX8_writeBits_40 ?_
        refine q_puti (j := 35) dX8_writeBits_41 fl_8_372 rfl rfl rfl rfl rfl ?_
        refine q_iload_n dX8_writeBits_44 rfl ?_
        refine q_istore dX8_writeBits_45 (Nat.le_of_ble_eq_true rfl) rfl ?_
        have w42 : qup (fW M 0 L k) 37 35 0 42 = fW M 0 L k 42 := by funext j; exact qup_o _ _ _ _ (by decide)
        have w35 : qup (fW M 0 L k) 37 35 0 37 35 = 0 := qup_s _ _ _ _
        have hMS := MS_35 (fW_MS M 0 L k) 0
        generalize qup (fW M 0 L k) 37 35 0 = W at hMS w42 w35
        refine q_lp (fun n : Nat => (t - f + 2).toNat - n) (fun n => (n : Int) ≤ t - f + 1) (fun n => [some (.ref 37), some (.int (zI k)), some (.int (zI f)), some (.int (zI t)), some (.int (zI (f + (n : Int))))]) (fun n => mputs W (bil (scl M k) f n)) 0 (by rw [show f + ((0 : Nat) : Int) = f by omega]; rfl) rfl (by omega) (fun n hn ih => ?_)
        have hln := mputs_len (bil (scl M k) f n) W
        rw [bil_len, w35] at hln
        have b42 : mputs W (bil (scl M k) f n) 42 = fW M 0 L k 42 := by rw [mputs_o (by decide) (by decide), w42]
        have hbs : mputs W (bil (scl M k) f (n + 1)) = mput (mputs W (bil (scl M k) f n)) (48 + bitP (scl M k) (f + n)) := by
          rw [bil, mputs_app]; rfl
        generalize hB : mputs W (bil (scl M k) f n) = B at hln b42 hbs
        refine q_iload dX8_writeBits_47 rfl ?_
        refine q_iload_n dX8_writeBits_49 rfl ?_
        refine q_icmp_gt (tgt := 72) dX8_writeBits_50 rfl (by (first | (unfold zR; omega) | (unfold zLR; omega) | omega | (simp only [zR, qup] at *; omega) | (simp [zR, qup]; omega) | (simp [zR, qup]; done))) (by (first | (unfold zR; omega) | (unfold zLR; omega) | omega | (simp only [zR, qup] at *; omega) | (simp [zR, qup]; omega) | (simp [zR, qup]; done))) (fun h50 => ?_) (fun h50 => ?_)
        rotate_left
        ·
          refine q_aload_n dX8_writeBits_53 rfl ?_
          refine q_bipush dX8_writeBits_54 rfl ?_
          refine q_aload_n dX8_writeBits_56 rfl ?_
          refine q_iload dX8_writeBits_57 rfl ?_
          refine q_V1 dX8_writeBits_59 ml_8_234 md_X8_bitOf (m_bitOf ⟨by omega, by omega⟩ (by rw [b42]; exact fW_b hM (by omega) ⟨by omega, by omega⟩)) rfl rfl rfl (by first | decide | omega) (Nat.le_of_ble_eq_true rfl) (Nat.le_of_ble_eq_true rfl) (qk_e ?_)
          refine q_iadd dX8_writeBits_62 ?_
          rw [b42, fW_bit ⟨by omega, by omega⟩]
          refine q_V1 dX8_writeBits_63 ml_8_375 md_X8_says (m_says (by omega)) rfl rfl rfl (by first | decide | omega) (Nat.le_of_ble_eq_true rfl) (Nat.le_of_ble_eq_true rfl) (qk_v ?_)
          refine q_iinc dX8_writeBits_66 rfl (Nat.le_of_ble_eq_true rfl) rfl ?_
          refine q_goto (tgt := 47) dX8_writeBits_69 rfl ?_
          exact ih (n + 1) _ _ (by omega) (by omega) (by rw [show f + ((n + 1 : Nat) : Int) = f + (n : Int) + 1 by omega]; rfl) hbs.symm
        refine q_aload_n dX8_writeBits_72 rfl ?_
        refine q_geti (j := 35) dX8_writeBits_73 fl_8_372 rfl rfl rfl ?_
        refine q_ireturn dX8_writeBits_76 ?_
        exact mpx_k hg ⟨by omega, by rw [← hB, show (t - f + 1).toNat = n by omega]; exact MS_mputs _ hMS⟩
      ·
        refine q_iconst dX8_writeBits_32 ?_
        refine q_ireturn dX8_writeBits_33 ?_
        exact mpx_g (zbn h29)
    ·
      refine q_iconst dX8_writeBits_20 ?_
      refine q_goto (tgt := 25) dX8_writeBits_21 rfl ?_
      refine q_iconst dX8_writeBits_25 ?_
      have hgb : (if (1 : Int) = 1 then (3 : Int) else 0) = (if t - f < 200 then 0 else 3) := (if_neg (by omega)).symm
      refine q_V2 dX8_writeBits_26 ml_8_64 md_X8_refuse (m_refH (by omega) (gor_R (gor_R (mT_R M) mMp_R) (ite_R (by unfold zR; omega) (by unfold zR; omega))) (by (first | (unfold zR; omega) | (unfold zLR; omega) | omega | (simp only [zR, qup] at *; omega) | (simp [zR, qup]; omega) | (simp [zR, qup]; done))) hgb) rfl rfl rfl (by first | decide | omega) (Nat.le_of_ble_eq_true rfl) (Nat.le_of_ble_eq_true rfl) (qk_e ?_)
      refine q_if_eq (tgt := 34) dX8_writeBits_29 rfl (by exact zb_R _) (fun h29 => ?_) (fun h29 => ?_)
      ·
        have hg := zbz h29
        have hg2 := gor_00.1 hg
        rw [hg]
        refine q_aload_n dX8_writeBits_34 rfl ?_
        refine q_iload_n dX8_writeBits_35 rfl ?_
        refine q_V1 dX8_writeBits_36 ml_8_117 md_X8_fetches (m_fetchG hM hL (by omega)) rfl rfl rfl (by first | decide | omega) (Nat.le_of_ble_eq_true rfl) (Nat.le_of_ble_eq_true rfl) (qk_v ?_)
        refine q_aload_n dX8_writeBits_39 rfl ?_
        refine q_iconst dX8_writeBits_40 ?_
        refine q_puti (j := 35) dX8_writeBits_41 fl_8_372 rfl rfl rfl rfl rfl ?_
        refine q_iload_n dX8_writeBits_44 rfl ?_
        refine q_istore dX8_writeBits_45 (Nat.le_of_ble_eq_true rfl) rfl ?_
        have w42 : qup (fW M 0 L k) 37 35 0 42 = fW M 0 L k 42 := by funext j; exact qup_o _ _ _ _ (by decide)
        have w35 : qup (fW M 0 L k) 37 35 0 37 35 = 0 := qup_s _ _ _ _
        have hMS := MS_35 (fW_MS M 0 L k) 0
        generalize qup (fW M 0 L k) 37 35 0 = W at hMS w42 w35
        refine q_lp (fun n : Nat => (t - f + 2).toNat - n) (fun n => (n : Int) ≤ t - f + 1) (fun n => [some (.ref 37), some (.int (zI k)), some (.int (zI f)), some (.int (zI t)), some (.int (zI (f + (n : Int))))]) (fun n => mputs W (bil (scl M k) f n)) 0 (by rw [show f + ((0 : Nat) : Int) = f by omega]; rfl) rfl (by omega) (fun n hn ih => ?_)
        have hln := mputs_len (bil (scl M k) f n) W
        rw [bil_len, w35] at hln
        have b42 : mputs W (bil (scl M k) f n) 42 = fW M 0 L k 42 := by rw [mputs_o (by decide) (by decide), w42]
        have hbs : mputs W (bil (scl M k) f (n + 1)) = mput (mputs W (bil (scl M k) f n)) (48 + bitP (scl M k) (f + n)) := by
          rw [bil, mputs_app]; rfl
        generalize hB : mputs W (bil (scl M k) f n) = B at hln b42 hbs
        refine q_iload dX8_writeBits_47 rfl ?_
        refine q_iload_n dX8_writeBits_49 rfl ?_
        refine q_icmp_gt (tgt := 72) dX8_writeBits_50 rfl (by (first | (unfold zR; omega) | (unfold zLR; omega) | omega | (simp only [zR, qup] at *; omega) | (simp [zR, qup]; omega) | (simp [zR, qup]; done))) (by (first | (unfold zR; omega) | (unfold zLR; omega) | omega | (simp only [zR, qup] at *; omega) | (simp [zR, qup]; omega) | (simp [zR, qup]; done))) (fun h50 => ?_) (fun h50 => ?_)
        rotate_left
        ·
          refine q_aload_n dX8_writeBits_53 rfl ?_
          refine q_bipush dX8_writeBits_54 rfl ?_
          refine q_aload_n dX8_writeBits_56 rfl ?_
          refine q_iload dX8_writeBits_57 rfl ?_
          refine q_V1 dX8_writeBits_59 ml_8_234 md_X8_bitOf (m_bitOf ⟨by omega, by omega⟩ (by rw [b42]; exact fW_b hM (by omega) ⟨by omega, by omega⟩)) rfl rfl rfl (by first | decide | omega) (Nat.le_of_ble_eq_true rfl) (Nat.le_of_ble_eq_true rfl) (qk_e ?_)
          refine q_iadd dX8_writeBits_62 ?_
          rw [b42, fW_bit ⟨by omega, by omega⟩]
          refine q_V1 dX8_writeBits_63 ml_8_375 md_X8_says (m_says (by omega)) rfl rfl rfl (by first | decide | omega) (Nat.le_of_ble_eq_true rfl) (Nat.le_of_ble_eq_true rfl) (qk_v ?_)
          refine q_iinc dX8_writeBits_66 rfl (Nat.le_of_ble_eq_true rfl) rfl ?_
          refine q_goto (tgt := 47) dX8_writeBits_69 rfl ?_
          exact ih (n + 1) _ _ (by omega) (by omega) (by rw [show f + ((n + 1 : Nat) : Int) = f + (n : Int) + 1 by omega]; rfl) hbs.symm
        refine q_aload_n dX8_writeBits_72 rfl ?_
        refine q_geti (j := 35) dX8_writeBits_73 fl_8_372 rfl rfl rfl ?_
        refine q_ireturn dX8_writeBits_76 ?_
        exact mpx_k hg ⟨by omega, by rw [← hB, show (t - f + 1).toNat = n by omega]; exact MS_mputs _ hMS⟩
      ·
        refine q_iconst dX8_writeBits_32 ?_
        refine q_ireturn dX8_writeBits_33 ?_
        exact mpx_g (zbn h29)
end MW2


/-! The class: its text. -/
theorem lay_in {c : Int → Int} (hc : ∀ k, 0 ≤ k → k < 256 → 0 ≤ c k ∧ c k < 256) : ∀ (l : Nat) (b : Int) (T : Int → Int) (a : Int), l ≤ 4 → 0 ≤ b → p4 l * b + p4 l ≤ 256 → lay c l b T a → ∀ j, 0 ≤ j → j < tsz c l b → 0 ≤ T (a + j) ∧ T (a + j) < 256 := by
  intro l
  induction l with
  | zero =>
    intro b T a _ hb hb2 h j j0 j1
    rw [tsz] at j1
    rw [show j = 0 by omega, Int.add_zero, show T a = c b from h]
    rw [show p4 ((0 : Nat) : Int) = 1 from rfl] at hb2
    exact hc b hb (by omega)
  | succ l ih =>
    intro b T a hl hb hb2 h j j0 j1
    by_cases e : j = 0
    · rw [e, Int.add_zero, h.1]; exact thd_byte _ _ _
    · have hps := p4_s (l := (l : Int)) (by omega)
      have hpl := p4_in (l : Int)
      rw [show ((l + 1 : Nat) : Int) = (l : Int) + 1 by omega, hps] at hb2
      have hmb : 4 * p4 (l : Int) * b = 4 * (p4 (l : Int) * b) := Int.mul_assoc _ _ _
      have key : ∀ i : Nat, i ≤ 4 → j < 1 + tsum c (tsz c l) l b i → 0 ≤ T (a + j) ∧ T (a + j) < 256 := by
        intro i
        induction i with
        | zero => intro _ hj; simp [tsum] at hj; omega
        | succ i ih2 =>
          intro hi hj
          by_cases o : j < 1 + tsum c (tsz c l) l b i
          · exact ih2 (by omega) o
          · by_cases q : qcode c l b i = 2
            · have hmi : p4 (l : Int) * (i : Int) ≤ p4 (l : Int) * 3 := Int.mul_le_mul_of_nonneg_left (by omega) (by omega)
              have hmx : p4 (l : Int) * (4 * b + i) = 4 * (p4 (l : Int) * b) + p4 (l : Int) * i := by rw [Int.mul_add, Int.mul_left_comm]
              have r := ih (4 * b + i) T _ (by omega) (by omega) (by omega) (h.2 i (by omega) q) (j - 1 - tsum c (tsz c l) l b i) (by omega) (by rw [tsum, if_pos q] at hj; omega)
              rw [show a + 1 + tsum c (tsz c l) l b i + (j - 1 - tsum c (tsz c l) l b i) = a + j by omega] at r
              exact r
            · rw [tsum, if_neg q] at hj
              exact absurd hj (by omega)
      rw [tsz] at j1
      exact key 4 (by omega) j1
theorem bputs_o {o r o' : Nat} (h : o' ≠ o) (h2 : o' ≠ r) : ∀ (l : List Int) (M : qM) (k : Int), bputs M o r l o' k = M o' k := by
  intro l
  induction l with
  | nil => intro M k; rfl
  | cons v t ih => intro M k; rw [bputs, ih]; simp [bput, qup, h, h2]
theorem bputs_cg : ∀ (l : List Int) (M M' : qM), M 31 = M' 31 → M 32 = M' 32 → bputs M 31 32 l 31 = bputs M' 31 32 l 31 ∧ bputs M 31 32 l 32 = bputs M' 31 32 l 32 := by
  intro l
  induction l with
  | nil => intro M M' h h'; exact ⟨h, h'⟩
  | cons v t ih =>
    intro M M' h h'
    rw [bputs, bputs]
    have e1 : M 31 1 = M' 31 1 := by rw [h]
    refine ih _ _ ?_ ?_
    · funext k; simp [bput, qup, h, e1]
    · funext k; simp [bput, qup, h', e1]
theorem bputs_zl {M : qM} (l : List Int) : bputs (qup M 31 1 0) 31 32 l 31 1 = l.length := by rw [bputs_len, qup_s]; omega
theorem CI_text {M : qM} (h : CI M) {l : List Int} (hl : l.length ≤ 1023) : CI (bputs (qup M 31 1 0) 31 32 l) := by
  have e : ∀ o, o ≠ 31 → o ≠ 32 → bputs (qup M 31 1 0) 31 32 l o = M o := fun o h1 h2 => by
    funext k
    rw [bputs_o h1 h2]
    simp [qup, h1]
  unfold CI
  rw [e 4 (by decide) (by decide), e 13 (by decide) (by decide), e 18 (by decide) (by decide), e 1 (by decide) (by decide), e 2 (by decide) (by decide), e 0 (by decide) (by decide), e 28 (by decide) (by decide), e 30 (by decide) (by decide), e 34 (by decide) (by decide), e 36 (by decide) (by decide), bputs_zl]
  obtain ⟨a1, a2, a3, a4, a5, a6, a7, a8, a9, a10, a11, a12, a13, a14⟩ := h
  exact ⟨a1, a2, a3, a4, a5, a6, a7, a8, a9, a10, a11, ⟨by omega, by omega⟩, a13, a14⟩
theorem Scr_text {M : qM} {r lv : Int} {K Y S C T N : Int → Int} (h : CI M) (hY : ∀ j, zR (Y j)) (l : List Int) : Scr (bputs (qup M 31 1 0) 31 32 l) (tw (bputs (qup (qup (qup M 5 7 r) 5 8 lv) 31 1 0) 31 32 l) K Y S C T N) := by
  have e : ∀ o, o ≠ 5 → (o < 12 ∨ 17 < o) → tw (bputs (qup (qup (qup M 5 7 r) 5 8 lv) 31 1 0) 31 32 l) K Y S C T N o = bputs (qup M 31 1 0) 31 32 l o := by
    intro o h5 ho
    have et : tw (bputs (qup (qup (qup M 5 7 r) 5 8 lv) 31 1 0) 31 32 l) K Y S C T N o = bputs (qup (qup (qup M 5 7 r) 5 8 lv) 31 1 0) 31 32 l o := by
      funext k
      unfold tw
      rw [if_neg (by omega), if_neg (by omega), if_neg (by omega), if_neg (by omega), if_neg (by omega), if_neg (by omega)]
    rw [et]
    have hc := bputs_cg l (qup (qup (qup M 5 7 r) 5 8 lv) 31 1 0) (qup M 31 1 0) (by funext k; simp [qup]) (by funext k; simp [qup])
    by_cases e1 : o = 31
    · subst e1; exact hc.1
    · by_cases e2 : o = 32
      · subst e2; exact hc.2
      · funext k
        rw [bputs_o e1 e2, bputs_o e1 e2]
        simp [qup, h5]
  have b4 : ∀ k, bputs (qup M 31 1 0) 31 32 l 4 k = M 4 k := fun k => by rw [bputs_o (by decide) (by decide)]; simp [qup]
  have b18 : ∀ k, bputs (qup M 31 1 0) 31 32 l 18 k = M 18 k := fun k => by rw [bputs_o (by decide) (by decide)]; simp [qup]
  refine ⟨fun o ho => ?_, fun k _ => by rw [e 4 (by decide) (by omega)], fun i h0 h1 => by rw [e 4 (by decide) (by omega), b4]; exact h.1 i h0 h1, hY, by rw [e 18 (by decide) (by omega), b18]; exact h.2.2.1⟩
  obtain ⟨o4, o5, o12, o13, o14, o15, o16, o17, -⟩ := ho
  exact e o o5 (by omega)
def bil (c : Int → Int) (f : Int) : Nat → List Int
  | 0 => []
  | n + 1 => bil c f n ++ [48 + bitP c (f + n)]
theorem bil_len (c : Int → Int) (f : Int) : ∀ n, (bil c f n).length = n := by
  intro n
  induction n with
  | zero => rfl
  | succ n ih => rw [bil, List.length_append, ih]; rfl
def byl (N : Int → Int) : Nat → List Int
  | 0 => []
  | n + 1 => byl N n ++ ((if n = 0 then [] else [32]) ++ [hexV (N n / 16), hexV (N n % 16)])
theorem byl_len (N : Int → Int) : ∀ n, (byl N n).length = 3 * n - 1 := by
  intro n
  induction n with
  | zero => rfl
  | succ n ih =>
    rw [byl, List.length_append, List.length_append, ih]
    by_cases e : n = 0
    · rw [if_pos e]; simp only [List.length_nil, List.length_cons]; omega
    · rw [if_neg e]; simp only [List.length_nil, List.length_cons]; omega
theorem byl_s (N : Int → Int) (n : Nat) : byl N (n + 1) = byl N n ++ ((if n = 0 then [] else [32]) ++ [hexV (N n / 16), hexV (N n % 16)]) := rfl
section GI
variable {M : qM} {L : Nat} {k f t i : Int}
set_option maxHeartbeats 2000000 in
theorem k_writeBits (hC : CI M) (hL : M 0 10 = (L : Int)) (hk : zR k) (hf : zR f) (ht : zR t) : qCt mX7_writeBits 6 9 [.ref 0, .int (zI k), .int (zI f), .int (zI t)] M (qpx (gor (gText M) (gor (gMap M k) (gor (gRng M f t) (gor (if t - f < 200 then 0 else 3) 0)))) (fun z M' => z = t - f + 1 ∧ M' = bputs (qup M 31 1 0) 31 32 (bil (rowc M k) f (t - f + 1).toNat)) (Scr M)) := by
  refine q_intro (own := 7) (L := [some (.ref 0), some (.int (zI k)), some (.int (zI f)), some (.int (zI t)), none]) md_X7_writeBits rfl rfl rfl (Nat.le_of_ble_eq_true rfl) (fun X => ?_)
  refine q_aload_n dX7_writeBits_0 rfl ?_
  refine q_V0 dX7_writeBits_1 ml_7_141 md_X7_requireText (c_requireText hC) rfl rfl rfl (by first | decide | omega) (Nat.le_of_ble_eq_true rfl) (Nat.le_of_ble_eq_true rfl) (qk_G (fun hq1 => ?_) (Scr_rf hC))
  have hLv := CI_lv hC hL hq1
  refine q_aload_n dX7_writeBits_4 rfl ?_
  refine q_iload_n dX7_writeBits_5 rfl ?_
  refine q_V1 dX7_writeBits_6 ml_7_172 md_X7_requireMap (c_requireMap hC hk) rfl rfl rfl (by first | decide | omega) (Nat.le_of_ble_eq_true rfl) (Nat.le_of_ble_eq_true rfl) (qk_G (fun hq6 => ?_) (Scr_rf hC))
  refine q_aload_n dX7_writeBits_9 rfl ?_
  refine q_iload_n dX7_writeBits_10 rfl ?_
  refine q_iload_n dX7_writeBits_11 rfl ?_
  refine q_V2 dX7_writeBits_12 ml_7_182 md_X7_requireRange (c_requireRange hL hLv hf ht) rfl rfl rfl (by first | decide | omega) (Nat.le_of_ble_eq_true rfl) (Nat.le_of_ble_eq_true rfl) (qk_G (fun hq12 => ?_) (Scr_rf hC))
  have hmk := CI_mp hC hq6
  have hps := CI_rg hL hq12
  refine q_iload_n dX7_writeBits_15 rfl ?_
  refine q_iload_n dX7_writeBits_16 rfl ?_
  refine q_isub dX7_writeBits_17 ?_
  refine q_sipush dX7_writeBits_18 rfl ?_
  refine q_icmp_lt (tgt := 35) dX7_writeBits_21 rfl (by (first | (unfold zR; omega) | (unfold zLR; omega) | omega | (simp only [zR, qup] at *; omega) | (simp [zR, qup]; omega) | (simp [zR, qup]; done))) (by (first | (unfold zR; omega) | (unfold zLR; omega) | omega | (simp only [zR, qup] at *; omega) | (simp [zR, qup]; omega) | (simp [zR, qup]; done))) (fun h21 => ?_) (fun h21 => ?_)
  ·
    refine q_G0 (if_pos (by omega)) ?_
    refine q_aload_n dX7_writeBits_35 rfl ?_
    refine q_getr dX7_writeBits_36 fl_7_57 rfl rfl ?_
    refine q_V0 dX7_writeBits_39 ml_7_91 md_X1_clear (c_bclear (o := 31) (r := 32) rfl) rfl rfl rfl (by first | decide | omega) (Nat.le_of_ble_eq_true rfl) (Nat.le_of_ble_eq_true rfl) (qk_v ?_)
    refine q_iload_n dX7_writeBits_42 rfl ?_
    refine q_istore dX7_writeBits_43 (Nat.le_of_ble_eq_true rfl) rfl ?_
    refine q_lp (fun n : Nat => (t - f + 2).toNat - n) (fun n => (n : Int) ≤ t - f + 1) (fun n => [some (.ref 0), some (.int (zI k)), some (.int (zI f)), some (.int (zI t)), some (.int (zI (f + n)))]) (fun n => bputs (qup M 31 1 0) 31 32 (bil (rowc M k) f n)) 0 (by rw [show f + ((0 : Nat) : Int) = f by omega]; rfl) rfl (by omega) (fun n hn ih => ?_)
    have hok : rowOk (bputs (qup M 31 1 0) 31 32 (bil (rowc M k) f n)) k := fun i h0 h1 => by
      rw [bputs_o (by decide) (by decide)]
      simp only [qup]
      exact CI_ok hC (by omega) i h0 h1
    have hrc : rowc (bputs (qup M 31 1 0) 31 32 (bil (rowc M k) f n)) k = rowc M k := by
      funext i
      unfold rowc
      rw [bputs_o (by decide) (by decide)]
      simp [qup]
    have hln := bputs_zl (M := M) (bil (rowc M k) f n)
    rw [bil_len] at hln
    have hb01 := bitP_01 (rowc M k) (f + n)
    have hbp : ∀ v, v = 48 + bitP (rowc M k) (f + n) → bput (bputs (qup M 31 1 0) 31 32 (bil (rowc M k) f n)) 31 32 v = bputs (qup M 31 1 0) 31 32 (bil (rowc M k) f (n + 1)) := fun v e => by
      rw [e, bil, bputs_app]
      rfl
    refine q_iload dX7_writeBits_45 rfl ?_
    refine q_iload_n dX7_writeBits_47 rfl ?_
    refine q_icmp_gt (tgt := 85) dX7_writeBits_48 rfl (by (first | (unfold zR; omega) | (unfold zLR; omega) | omega | (simp only [zR, qup] at *; omega) | (simp [zR, qup]; omega) | (simp [zR, qup]; done))) (by (first | (unfold zR; omega) | (unfold zLR; omega) | omega | (simp only [zR, qup] at *; omega) | (simp [zR, qup]; omega) | (simp [zR, qup]; done))) (fun h48 => ?_) (fun h48 => ?_)
    rotate_left
    ·
      refine q_aload_n dX7_writeBits_51 rfl ?_
      refine q_getr dX7_writeBits_52 fl_7_57 rfl rfl ?_
      refine q_aload_n dX7_writeBits_55 rfl ?_
      refine q_getr dX7_writeBits_56 fl_7_26 rfl rfl ?_
      refine q_iload_n dX7_writeBits_59 rfl ?_
      refine q_iload dX7_writeBits_60 rfl ?_
      refine q_V2 dX7_writeBits_62 ml_7_178 md_X0_bitAt (c_bitAt (by omega) (by omega) hok) rfl rfl rfl (by first | decide | omega) (Nat.le_of_ble_eq_true rfl) (Nat.le_of_ble_eq_true rfl) (qk_e ?_)
      rw [hrc]
      refine q_iconst dX7_writeBits_65 ?_
      refine q_icmp_ne (tgt := 74) dX7_writeBits_66 rfl (by (first | (unfold zR; omega) | (unfold zLR; omega) | omega | (simp only [zR, qup] at *; omega) | (simp [zR, qup]; omega) | (simp [zR, qup]; done))) (by (first | (unfold zR; omega) | (unfold zLR; omega) | omega | (simp only [zR, qup] at *; omega) | (simp [zR, qup]; omega) | (simp [zR, qup]; done))) (fun h66 => ?_) (fun h66 => ?_)
      ·
        refine q_bipush dX7_writeBits_74 rfl ?_
        refine q_V1 dX7_writeBits_76 ml_7_283 md_X1_add (c_badd (o := 31) (r := 32) (n := 1023) rfl rfl (by decide) (by decide) (by omega)) rfl rfl rfl (by first | decide | omega) (Nat.le_of_ble_eq_true rfl) (Nat.le_of_ble_eq_true rfl) (qk_v ?_)
        refine q_iinc dX7_writeBits_79 rfl (Nat.le_of_ble_eq_true rfl) rfl ?_
        refine q_goto (tgt := 45) dX7_writeBits_82 rfl ?_
        exact ih (n + 1) _ _ (by omega) (by omega) (by rw [show f + ((n + 1 : Nat) : Int) = f + (n : Int) + 1 by omega]; rfl) (hbp _ (by omega))
      ·
        refine q_bipush dX7_writeBits_69 rfl ?_
        refine q_goto (tgt := 76) dX7_writeBits_71 rfl ?_
        refine q_V1 dX7_writeBits_76 ml_7_283 md_X1_add (c_badd (o := 31) (r := 32) (n := 1023) rfl rfl (by decide) (by decide) (by omega)) rfl rfl rfl (by first | decide | omega) (Nat.le_of_ble_eq_true rfl) (Nat.le_of_ble_eq_true rfl) (qk_v ?_)
        refine q_iinc dX7_writeBits_79 rfl (Nat.le_of_ble_eq_true rfl) rfl ?_
        refine q_goto (tgt := 45) dX7_writeBits_82 rfl ?_
        exact ih (n + 1) _ _ (by omega) (by omega) (by rw [show f + ((n + 1 : Nat) : Int) = f + (n : Int) + 1 by omega]; rfl) (hbp _ (by omega))
    refine q_aload_n dX7_writeBits_85 rfl ?_
    refine q_getr dX7_writeBits_86 fl_7_57 rfl rfl ?_
    refine q_V0 dX7_writeBits_89 ml_7_81 md_X1_length (c_blength (o := 31) (r := 32) rfl) rfl rfl rfl (by first | decide | omega) (Nat.le_of_ble_eq_true rfl) (Nat.le_of_ble_eq_true rfl) (qk_e ?_)
    refine q_ireturn dX7_writeBits_92 ?_
    exact gxk rfl ⟨by omega, by rw [show (t - f + 1).toNat = n by omega]⟩
  ·
    refine qt_X7_writeBits_24 (Nat.le_of_ble_eq_true rfl) ?_
    exact gxt3 (by rw [if_neg (by omega)]; rfl) (Scr_rf hC)
set_option maxHeartbeats 2000000 in
theorem k_writeTree (hC : CI M) (hL : M 0 10 = (L : Int)) (hk : zR k) : qCt mX7_writeTree 2 9 [.ref 0, .int (zI k)] M (qpx (gor (gText M) (gor (gMap M k) 0)) (fun z M' => z = (spl (rowc M k) L 0).length ∧ Scr (bputs (qup M 31 1 0) 31 32 (spl (rowc M k) L 0)) M') (Scr M)) := by
  refine q_intro (own := 7) (L := [some (.ref 0), some (.int (zI k))]) md_X7_writeTree rfl rfl rfl (Nat.le_of_ble_eq_true rfl) (fun X => ?_)
  refine q_aload_n dX7_writeTree_0 rfl ?_
  refine q_V0 dX7_writeTree_1 ml_7_141 md_X7_requireText (c_requireText hC) rfl rfl rfl (by first | decide | omega) (Nat.le_of_ble_eq_true rfl) (Nat.le_of_ble_eq_true rfl) (qk_G (fun hq1 => ?_) (Scr_rf hC))
  have hLv := CI_lv hC hL hq1
  refine q_aload_n dX7_writeTree_4 rfl ?_
  refine q_iload_n dX7_writeTree_5 rfl ?_
  refine q_V1 dX7_writeTree_6 ml_7_172 md_X7_requireMap (c_requireMap hC hk) rfl rfl rfl (by first | decide | omega) (Nat.le_of_ble_eq_true rfl) (Nat.le_of_ble_eq_true rfl) (qk_G (fun hq6 => ?_) (Scr_rf hC))
  have hmk := CI_mp hC hq6
  refine q_aload_n dX7_writeTree_9 rfl ?_
  refine q_getr dX7_writeTree_10 fl_7_37 rfl rfl ?_
  refine q_iload_n dX7_writeTree_13 rfl ?_
  refine q_aload_n dX7_writeTree_14 rfl ?_
  refine q_geti (j := 10) dX7_writeTree_15 fl_7_121 rfl rfl rfl ?_
  rw [hL]
  refine q_V2 dX7_writeTree_18 ml_7_213 md_X6_measure (c_mea hC hLv (by omega)) rfl rfl rfl (by first | decide | omega) (Nat.le_of_ble_eq_true rfl) (Nat.le_of_ble_eq_true rfl) (qk_h (fun N18 hq18 => ?_))
  obtain ⟨Kq, Yq, Sq, Cq, Tq, Nq, rfl, hTq⟩ := hq18
  refine q_aload_n dX7_writeTree_21 rfl ?_
  refine q_getr dX7_writeTree_22 fl_7_57 rfl rfl ?_
  refine q_V0 dX7_writeTree_25 ml_7_91 md_X1_clear (c_bclear (o := 31) (r := 32) rfl) rfl rfl rfl (by first | decide | omega) (Nat.le_of_ble_eq_true rfl) (Nat.le_of_ble_eq_true rfl) (qk_v ?_)
  rw [show qup (tw (qup (qup M 5 7 k) 5 8 (L : Int)) Kq Yq Sq Cq Tq Nq) 31 1 0 = tw (qup (qup (qup M 5 7 k) 5 8 (L : Int)) 31 1 0) Kq Yq Sq Cq Tq Nq by rw [tw_up]; rfl]
  refine q_aload_n dX7_writeTree_28 rfl ?_
  refine q_getr dX7_writeTree_29 fl_7_37 rfl rfl ?_
  refine q_aload_n dX7_writeTree_32 rfl ?_
  refine q_getr dX7_writeTree_33 fl_7_57 rfl rfl ?_
  refine q_V1 dX7_writeTree_36 ml_7_291 md_X6_spell (c_spell hLv (by rw [qup_o _ _ _ _ (by decide)]; exact (h87 M k L).1) hTq (CI_ok2 hC (by omega)) (qup_s _ _ _ _)) rfl rfl rfl (by first | decide | omega) (Nat.le_of_ble_eq_true rfl) (Nat.le_of_ble_eq_true rfl) (qk_v ?_)
  refine q_aload_n dX7_writeTree_39 rfl ?_
  refine q_getr dX7_writeTree_40 fl_7_57 rfl rfl ?_
  refine q_V0 dX7_writeTree_43 ml_7_81 md_X1_length (c_blength (o := 31) (r := 32) rfl) rfl rfl rfl (by first | decide | omega) (Nat.le_of_ble_eq_true rfl) (Nat.le_of_ble_eq_true rfl) (qk_e ?_)
  refine q_ireturn dX7_writeTree_46 ?_
  exact gxk rfl ⟨by show bputs _ 31 32 _ 31 1 = _; rw [bputs_zl], Scr_text hC hTq.2.2.2 _⟩
set_option maxHeartbeats 4000000 in
theorem k_writeBytes (hC : CI M) (hL : M 0 10 = (L : Int)) (hk : zR k) : qCt mX7_writeBytes 2 9 [.ref 0, .int (zI k)] M (qpx (gor (gText M) (gor (gMap M k) 0)) (fun z M' => z = 3 * tsz (rowc M k) L 0 - 1 ∧ ∃ N, lay (rowc M k) L 0 N 0 ∧ Scr (bputs (qup M 31 1 0) 31 32 (byl N (tsz (rowc M k) L 0).toNat)) M') (Scr M)) := by
  have ht1 := tsz_in (rowc M k) L 0
  refine q_intro (own := 7) (L := [some (.ref 0), some (.int (zI k)), none]) md_X7_writeBytes rfl rfl rfl (Nat.le_of_ble_eq_true rfl) (fun X => ?_)
  refine q_aload_n dX7_writeBytes_0 rfl ?_
  refine q_V0 dX7_writeBytes_1 ml_7_141 md_X7_requireText (c_requireText hC) rfl rfl rfl (by first | decide | omega) (Nat.le_of_ble_eq_true rfl) (Nat.le_of_ble_eq_true rfl) (qk_G (fun hq1 => ?_) (Scr_rf hC))
  have hLv := CI_lv hC hL hq1
  have ht2 := tmax_in L hLv.2
  refine q_aload_n dX7_writeBytes_4 rfl ?_
  refine q_iload_n dX7_writeBytes_5 rfl ?_
  refine q_V1 dX7_writeBytes_6 ml_7_172 md_X7_requireMap (c_requireMap hC hk) rfl rfl rfl (by first | decide | omega) (Nat.le_of_ble_eq_true rfl) (Nat.le_of_ble_eq_true rfl) (qk_G (fun hq6 => ?_) (Scr_rf hC))
  have hmk := CI_mp hC hq6
  refine q_aload_n dX7_writeBytes_9 rfl ?_
  refine q_getr dX7_writeBytes_10 fl_7_37 rfl rfl ?_
  refine q_iload_n dX7_writeBytes_13 rfl ?_
  refine q_aload_n dX7_writeBytes_14 rfl ?_
  refine q_geti (j := 10) dX7_writeBytes_15 fl_7_121 rfl rfl rfl ?_
  rw [hL]
  refine q_V2 dX7_writeBytes_18 ml_7_213 md_X6_measure (c_mea hC hLv (by omega)) rfl rfl rfl (by first | decide | omega) (Nat.le_of_ble_eq_true rfl) (Nat.le_of_ble_eq_true rfl) (qk_h (fun N18 hq18 => ?_))
  obtain ⟨Kq, Yq, Sq, Cq, Tq, Nq, rfl, hTq⟩ := hq18
  have hNi := lay_in (c := rowc M k) (CI_ok hC (show 0 ≤ k ∧ k < 33 by omega)) L 0 Nq 0 hLv.2 (Int.le_refl 0) (by have := p4_in (L : Int); omega) hTq.2.2.1
  refine q_aload_n dX7_writeBytes_21 rfl ?_
  refine q_getr dX7_writeBytes_22 fl_7_57 rfl rfl ?_
  refine q_V0 dX7_writeBytes_25 ml_7_91 md_X1_clear (c_bclear (o := 31) (r := 32) rfl) rfl rfl rfl (by first | decide | omega) (Nat.le_of_ble_eq_true rfl) (Nat.le_of_ble_eq_true rfl) (qk_v ?_)
  refine q_iconst dX7_writeBytes_28 ?_
  refine q_istore_n dX7_writeBytes_29 (Nat.le_of_ble_eq_true rfl) rfl ?_
  refine q_lp (fun n : Nat => (tsz (rowc M k) L 0).toNat - n) (fun n => (n : Int) ≤ tsz (rowc M k) L 0) (fun n => [some (.ref 0), some (.int (zI k)), some (.int (zI (n : Int)))]) (fun n => tw (bputs (qup (qup (qup M 5 7 k) 5 8 (L : Int)) 31 1 0) 31 32 (byl Nq n)) Kq Yq Sq Cq Tq Nq) 0 rfl (by rw [tw_up]; rfl) (by omega) (fun n hn ih => ?_)
  have h8 : bputs (qup (qup (qup M 5 7 k) 5 8 (L : Int)) 31 1 0) 31 32 (byl Nq n) 5 8 = (L : Int) := by rw [bputs_o (by decide) (by decide), qup_o _ _ _ _ (by decide)]; exact (h87 M k L).1
  have hln := bputs_zl (M := qup (qup M 5 7 k) 5 8 (L : Int)) (byl Nq n)
  rw [byl_len] at hln
  generalize hB : bputs (qup (qup (qup M 5 7 k) 5 8 (L : Int)) 31 1 0) 31 32 (byl Nq n) = B at h8 hln
  have htl : ∀ (B : qM), tw B Kq Yq Sq Cq Tq Nq 31 1 = B 31 1 := fun _ => rfl
  have hBh : ∀ (B : qM) v, bhex (tw B Kq Yq Sq Cq Tq Nq) 31 32 v = tw (bputs B 31 32 [hexV (v / 16), hexV (v % 16)]) Kq Yq Sq Cq Tq Nq := fun B v => by
    unfold bhex
    rw [tw_bput, tw_bput]
    rfl
  have hbs : bputs (qup (qup (qup M 5 7 k) 5 8 (L : Int)) 31 1 0) 31 32 (byl Nq (n + 1)) = bputs B 31 32 ((if n = 0 then [] else [32]) ++ [hexV (Nq n / 16), hexV (Nq n % 16)]) := by rw [byl_s, bputs_app, hB]
  refine q_iload_n dX7_writeBytes_30 rfl ?_
  refine q_aload_n dX7_writeBytes_31 rfl ?_
  refine q_getr dX7_writeBytes_32 fl_7_37 rfl rfl ?_
  refine q_V0 dX7_writeBytes_35 ml_7_219 md_X6_size (c_tsize hLv h8 hTq) rfl rfl rfl (by first | decide | omega) (Nat.le_of_ble_eq_true rfl) (Nat.le_of_ble_eq_true rfl) (qk_e ?_)
  refine q_icmp_ge (tgt := 75) dX7_writeBytes_38 rfl (by (first | (unfold zR; omega) | (unfold zLR; omega) | omega | (simp only [zR, qup] at *; omega) | (simp [zR, qup]; omega) | (simp [zR, qup]; done))) (by (first | (unfold zR; omega) | (unfold zLR; omega) | omega | (simp only [zR, qup] at *; omega) | (simp [zR, qup]; omega) | (simp [zR, qup]; done))) (fun h38 => ?_) (fun h38 => ?_)
  rotate_left
  ·
    refine q_iload_n dX7_writeBytes_41 rfl ?_
    refine q_if_le (tgt := 54) dX7_writeBytes_42 rfl (by (first | (unfold zR; omega) | (unfold zLR; omega) | omega | (simp only [zR, qup] at *; omega) | (simp [zR, qup]; omega) | (simp [zR, qup]; done))) (fun h42 => ?_) (fun h42 => ?_)
    ·
      have hN := hNi n (by omega) (by omega)
      rw [Int.zero_add] at hN
      refine q_aload_n dX7_writeBytes_54 rfl ?_
      refine q_getr dX7_writeBytes_55 fl_7_57 rfl rfl ?_
      refine q_aload_n dX7_writeBytes_58 rfl ?_
      refine q_getr dX7_writeBytes_59 fl_7_37 rfl rfl ?_
      refine q_iload_n dX7_writeBytes_62 rfl ?_
      refine q_V1 dX7_writeBytes_63 ml_7_208 md_X6_byteOf (c_byteOf (by omega)) rfl rfl rfl (by first | decide | omega) (Nat.le_of_ble_eq_true rfl) (Nat.le_of_ble_eq_true rfl) (qk_e ?_)
      refine q_V1 dX7_writeBytes_66 ml_7_286 md_X1_addHex (c_addHex (o := 31) (r := 32) (n := 1023) rfl rfl (by decide) (by decide) (by first | (rw [htl]; omega) | (rw [htl, bput_len]; omega)) hN) rfl rfl rfl (by first | decide | omega) (Nat.le_of_ble_eq_true rfl) (Nat.le_of_ble_eq_true rfl) (qk_v ?_)
      refine q_iinc dX7_writeBytes_69 rfl (Nat.le_of_ble_eq_true rfl) rfl ?_
      refine q_goto (tgt := 30) dX7_writeBytes_72 rfl ?_
      rw [hBh]
      exact ih (n + 1) _ _ (by omega) (by omega) rfl (by rw [hbs, if_pos (by omega)]; rfl)
    ·
      refine q_aload_n dX7_writeBytes_45 rfl ?_
      refine q_getr dX7_writeBytes_46 fl_7_57 rfl rfl ?_
      refine q_bipush dX7_writeBytes_49 rfl ?_
      refine q_V1 dX7_writeBytes_51 ml_7_283 md_X1_add (c_badd (o := 31) (r := 32) (n := 1023) rfl rfl (by decide) (by decide) (by rw [htl]; omega)) rfl rfl rfl (by first | decide | omega) (Nat.le_of_ble_eq_true rfl) (Nat.le_of_ble_eq_true rfl) (qk_v ?_)
      have hN := hNi n (by omega) (by omega)
      rw [Int.zero_add] at hN
      rw [tw_bput]
      refine q_aload_n dX7_writeBytes_54 rfl ?_
      refine q_getr dX7_writeBytes_55 fl_7_57 rfl rfl ?_
      refine q_aload_n dX7_writeBytes_58 rfl ?_
      refine q_getr dX7_writeBytes_59 fl_7_37 rfl rfl ?_
      refine q_iload_n dX7_writeBytes_62 rfl ?_
      refine q_V1 dX7_writeBytes_63 ml_7_208 md_X6_byteOf (c_byteOf (by omega)) rfl rfl rfl (by first | decide | omega) (Nat.le_of_ble_eq_true rfl) (Nat.le_of_ble_eq_true rfl) (qk_e ?_)
      refine q_V1 dX7_writeBytes_66 ml_7_286 md_X1_addHex (c_addHex (o := 31) (r := 32) (n := 1023) rfl rfl (by decide) (by decide) (by first | (rw [htl]; omega) | (rw [htl, bput_len]; omega)) hN) rfl rfl rfl (by first | decide | omega) (Nat.le_of_ble_eq_true rfl) (Nat.le_of_ble_eq_true rfl) (qk_v ?_)
      refine q_iinc dX7_writeBytes_69 rfl (Nat.le_of_ble_eq_true rfl) rfl ?_
      refine q_goto (tgt := 30) dX7_writeBytes_72 rfl ?_
      rw [hBh]
      exact ih (n + 1) _ _ (by omega) (by omega) rfl (by rw [hbs, if_neg (by omega)]; rfl)
  refine q_aload_n dX7_writeBytes_75 rfl ?_
  refine q_getr dX7_writeBytes_76 fl_7_57 rfl rfl ?_
  refine q_V0 dX7_writeBytes_79 ml_7_81 md_X1_length (c_blength (o := 31) (r := 32) rfl) rfl rfl rfl (by first | decide | omega) (Nat.le_of_ble_eq_true rfl) (Nat.le_of_ble_eq_true rfl) (qk_e ?_)
  refine q_ireturn dX7_writeBytes_82 ?_
  exact gxk rfl ⟨by rw [htl]; omega, Nq, hTq.2.2.1, by rw [← hB, show (tsz (rowc M k) L 0).toNat = n by omega]; exact Scr_text hC hTq.2.2.2 _⟩
set_option maxHeartbeats 1000000 in
theorem k_textByte (hC : CI M) (hi : zR i) : qCt mX7_textByte 1 9 [.ref 0, .int (zI i)] M (qpx (gor (gByte (M 31 1) i) 0) (fun z M' => z = M 32 i ∧ M' = M) (Scr M)) := by
  have hl := hC.2.2.2.2.2.2.2.2.2.2.2.1
  refine q_intro (own := 7) (L := [some (.ref 0), some (.int (zI i))]) md_X7_textByte rfl rfl rfl (Nat.le_of_ble_eq_true rfl) (fun X => ?_)
  refine q_iload_n dX7_textByte_0 rfl ?_
  refine q_if_lt (tgt := 15) dX7_textByte_1 rfl (by (first | (unfold zR; omega) | (unfold zLR; omega) | omega | (simp only [zR, qup] at *; omega) | (simp [zR, qup]; omega) | (simp [zR, qup]; done))) (fun h1 => ?_) (fun h1 => ?_)
  ·
    refine qt_X7_textByte_15 (Nat.le_of_ble_eq_true rfl) ?_
    exact gxt2 (by unfold gByte; rw [if_neg (by omega)]; rfl) (Scr_rf hC)
  ·
    refine q_iload_n dX7_textByte_4 rfl ?_
    refine q_aload_n dX7_textByte_5 rfl ?_
    refine q_getr dX7_textByte_6 fl_7_57 rfl rfl ?_
    refine q_V0 dX7_textByte_9 ml_7_81 md_X1_length (c_blength (o := 31) (r := 32) rfl) rfl rfl rfl (by first | decide | omega) (Nat.le_of_ble_eq_true rfl) (Nat.le_of_ble_eq_true rfl) (qk_e ?_)
    refine q_icmp_lt (tgt := 26) dX7_textByte_12 rfl (by (first | (unfold zR; omega) | (unfold zLR; omega) | omega | (simp only [zR, qup] at *; omega) | (simp [zR, qup]; omega) | (simp [zR, qup]; done))) (by (first | (unfold zR; omega) | (unfold zLR; omega) | omega | (simp only [zR, qup] at *; omega) | (simp [zR, qup]; omega) | (simp [zR, qup]; done))) (fun h12 => ?_) (fun h12 => ?_)
    ·
      refine q_G0 (if_pos (by omega)) ?_
      refine q_aload_n dX7_textByte_26 rfl ?_
      refine q_getr dX7_textByte_27 fl_7_57 rfl rfl ?_
      refine q_iload_n dX7_textByte_30 rfl ?_
      refine q_V1 dX7_textByte_31 ml_7_156 md_X1_get (c_bget (o := 31) (r := 32) (n := 1023) rfl rfl (by decide) (by omega) hi) rfl rfl rfl (by first | decide | omega) (Nat.le_of_ble_eq_true rfl) (Nat.le_of_ble_eq_true rfl) (qk_e ?_)
      refine q_ireturn dX7_textByte_34 ?_
      exact gxk rfl ⟨if_pos (by omega), rfl⟩
    ·
      refine qt_X7_textByte_15 (Nat.le_of_ble_eq_true rfl) ?_
      exact gxt2 (by unfold gByte; rw [if_neg (by omega)]; rfl) (Scr_rf hC)
end GI


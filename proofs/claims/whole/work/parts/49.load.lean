/-! The class: append, load. -/
def wl (w : Int) : List Int := [zand (zshr w 24) 255, zand (zshr w 16) 255, zand (zshr w 8) 255, zand (zshr w 0) 255]
theorem bword_wl (M : qM) (o r : Nat) (w : Int) : bword M o r w 4 = bputs M o r (wl w) := rfl
def wl5 (a b c d e : Int) : List Int := wl a ++ (wl b ++ (wl c ++ (wl d ++ wl e)))
section GK
variable {M : qM} {L : Nat} {n a b c d e : Int}
set_option maxHeartbeats 2000000 in
theorem k_append (hC : CI M) : qCt mX7_append 0 9 [.ref 0, .int (zI a), .int (zI b), .int (zI c), .int (zI d), .int (zI e)] M (qpg (fun z M' => (M 1 1 + 20 ≤ 700 ∧ z = M 1 1 + 20 ∧ M' = bputs M 1 2 (wl5 a b c d e)) ∨ (¬ M 1 1 + 20 ≤ 700 ∧ z = -1 ∧ M' = M))) := by
  have hlen := CI_len hC
  have h01 := zb_01 (M 1 1 + 20 ≤ 700)
  refine q_intro (own := 7) (L := [some (.ref 0), some (.int (zI a)), some (.int (zI b)), some (.int (zI c)), some (.int (zI d)), some (.int (zI e))]) md_X7_append rfl rfl rfl (Nat.le_of_ble_eq_true rfl) (fun X => ?_)
  refine q_aload_n dX7_append_0 rfl ?_
  refine q_getr dX7_append_1 fl_7_22 rfl rfl ?_
  refine q_bipush dX7_append_4 rfl ?_
  refine q_V1 dX7_append_6 ml_7_74 md_X1_hasRoom (c_hasRoom (o := 1) (r := 2) (n := 700) rfl rfl (by decide) (by omega) (by omega)) rfl rfl rfl (by first | decide | omega) (Nat.le_of_ble_eq_true rfl) (Nat.le_of_ble_eq_true rfl) (qk_e ?_)
  rw [show ((700 : Nat) : Int) = 700 from rfl]
  refine q_if_ne (tgt := 14) dX7_append_9 rfl (by (first | (unfold zR; omega) | (unfold zLR; omega) | omega | (simp only [zR, qup] at *; omega) | (simp [zR, qup]; omega) | (simp [zR, qup]; done))) (fun h9 => ?_) (fun h9 => ?_)
  rotate_left
  ·
    refine q_iconst dX7_append_12 ?_
    refine q_ireturn dX7_append_13 ?_
    exact ⟨-1, rfl, Or.inr ⟨fun q => by rw [zb_t q] at h9; omega, rfl, rfl⟩⟩
  have hr := zb_1.1 (show zb (M 1 1 + 20 ≤ 700) = 1 by omega)
  refine q_aload_n dX7_append_14 rfl ?_
  refine q_getr dX7_append_15 fl_7_22 rfl rfl ?_
  refine q_iload_n dX7_append_18 rfl ?_
  refine q_V1 dX7_append_19 ml_7_78 md_X1_addWord (c_addWord (o := 1) (r := 2) (n := 700) rfl rfl (by decide) (by decide) (by omega)) rfl rfl rfl (by first | decide | omega) (Nat.le_of_ble_eq_true rfl) (Nat.le_of_ble_eq_true rfl) (qk_v ?_)
  have e1 := bword_len (M := M) (o := 1) (r := 2) (w := a) 4
  refine q_aload_n dX7_append_22 rfl ?_
  refine q_getr dX7_append_23 fl_7_22 rfl rfl ?_
  refine q_iload_n dX7_append_26 rfl ?_
  refine q_V1 dX7_append_27 ml_7_78 md_X1_addWord (c_addWord (o := 1) (r := 2) (n := 700) rfl rfl (by decide) (by decide) (by omega)) rfl rfl rfl (by first | decide | omega) (Nat.le_of_ble_eq_true rfl) (Nat.le_of_ble_eq_true rfl) (qk_v ?_)
  have e2 := bword_len (M := bword M 1 2 a 4) (o := 1) (r := 2) (w := b) 4
  refine q_aload_n dX7_append_30 rfl ?_
  refine q_getr dX7_append_31 fl_7_22 rfl rfl ?_
  refine q_iload_n dX7_append_34 rfl ?_
  refine q_V1 dX7_append_35 ml_7_78 md_X1_addWord (c_addWord (o := 1) (r := 2) (n := 700) rfl rfl (by decide) (by decide) (by omega)) rfl rfl rfl (by first | decide | omega) (Nat.le_of_ble_eq_true rfl) (Nat.le_of_ble_eq_true rfl) (qk_v ?_)
  have e3 := bword_len (M := bword (bword M 1 2 a 4) 1 2 b 4) (o := 1) (r := 2) (w := c) 4
  refine q_aload_n dX7_append_38 rfl ?_
  refine q_getr dX7_append_39 fl_7_22 rfl rfl ?_
  refine q_iload dX7_append_42 rfl ?_
  refine q_V1 dX7_append_44 ml_7_78 md_X1_addWord (c_addWord (o := 1) (r := 2) (n := 700) rfl rfl (by decide) (by decide) (by omega)) rfl rfl rfl (by first | decide | omega) (Nat.le_of_ble_eq_true rfl) (Nat.le_of_ble_eq_true rfl) (qk_v ?_)
  have e4 := bword_len (M := bword (bword (bword M 1 2 a 4) 1 2 b 4) 1 2 c 4) (o := 1) (r := 2) (w := d) 4
  refine q_aload_n dX7_append_47 rfl ?_
  refine q_getr dX7_append_48 fl_7_22 rfl rfl ?_
  refine q_iload dX7_append_51 rfl ?_
  refine q_V1 dX7_append_53 ml_7_78 md_X1_addWord (c_addWord (o := 1) (r := 2) (n := 700) rfl rfl (by decide) (by decide) (by omega)) rfl rfl rfl (by first | decide | omega) (Nat.le_of_ble_eq_true rfl) (Nat.le_of_ble_eq_true rfl) (qk_v ?_)
  have e5 := bword_len (M := bword (bword (bword (bword M 1 2 a 4) 1 2 b 4) 1 2 c 4) 1 2 d 4) (o := 1) (r := 2) (w := e) 4
  refine q_aload_n dX7_append_56 rfl ?_
  refine q_getr dX7_append_57 fl_7_22 rfl rfl ?_
  refine q_V0 dX7_append_60 ml_7_81 md_X1_length (c_blength (o := 1) (r := 2) rfl) rfl rfl rfl (by first | decide | omega) (Nat.le_of_ble_eq_true rfl) (Nat.le_of_ble_eq_true rfl) (qk_e ?_)
  refine q_ireturn dX7_append_63 ?_
  exact ⟨_, rfl, Or.inl ⟨hr, by omega, by unfold wl5; rw [bword_wl, bword_wl, bword_wl, bword_wl, bword_wl, bputs_app, bputs_app, bputs_app, bputs_app]⟩⟩
/-- what was read is taken over: the world then -/
def adW (M : qM) : qM := fun o k => if o = 0 ∧ k = 9 then 1 else if o = 0 ∧ k = 10 then M 25 9 else if o = 0 ∧ k = 11 then M 25 10 else if o = 34 ∧ 0 ≤ k ∧ k < 6 then M 27 k else if o = 4 ∧ 0 ≤ k ∧ k < 1536 then M 4 (k + 1536) else if o = 28 ∧ k = 3 then 0 else if o = 36 ∧ 0 ≤ k ∧ k < 2 then 0 else M o k
def adJ (M : qM) (j : Int) : qM := fun o k => if o = 0 ∧ k = 9 then 1 else if o = 0 ∧ k = 10 then M 25 9 else if o = 0 ∧ k = 11 then M 25 10 else if o = 34 ∧ 0 ≤ k ∧ k < j then M 27 k else if o = 4 ∧ 0 ≤ k ∧ k < j * 256 then M 4 (k + 1536) else M o k
def adS (M : qM) (j : Int) : qM := fun o k => if o = 0 ∧ k = 9 then 1 else if o = 0 ∧ k = 10 then M 25 9 else if o = 0 ∧ k = 11 then M 25 10 else if o = 34 ∧ 0 ≤ k ∧ k < 6 then M 27 k else if o = 4 ∧ 0 ≤ k ∧ k < 1536 then M 4 (k + 1536) else if o = 28 ∧ k = 3 then 0 else if o = 36 ∧ 0 ≤ k ∧ k < j then 0 else M o k
theorem adJ_4 (M : qM) (j k : Int) : adJ M j 4 k = if 0 ≤ k ∧ k < j * 256 then M 4 (k + 1536) else M 4 k := by simp [adJ]
theorem adJ_34 (M : qM) (j k : Int) : adJ M j 34 k = if 0 ≤ k ∧ k < j then M 27 k else M 34 k := by simp [adJ]
theorem adJ_o (M : qM) {o : Nat} (j j' k : Int) (h4 : o ≠ 4) (h34 : o ≠ 34) : adJ M j o k = adJ M j' o k := by simp [adJ, h4, h34]
theorem adS_36 (M : qM) (j k : Int) : adS M j 36 k = if 0 ≤ k ∧ k < j then 0 else M 36 k := by simp [adS]
theorem adS_o (M : qM) {o : Nat} (j j' k : Int) (h : o ≠ 36) : adS M j o k = adS M j' o k := by simp [adS, h]
theorem adJ_0 (M : qM) : qup (qup (qup M 0 9 1) 0 10 (M 25 9)) 0 11 (M 25 10) = adJ M 0 := by
  funext o k
  by_cases h0 : o = 0
  · subst h0
    by_cases h1 : k = 11
    · subst h1; simp [qup, adJ]
    · by_cases h2 : k = 10
      · subst h2; simp [qup, adJ]
      · by_cases h3 : k = 9
        · subst h3; simp [qup, adJ]
        · simp [qup, adJ, h1, h2, h3]
  · rw [qup_o _ _ _ _ h0, qup_o _ _ _ _ h0, qup_o _ _ _ _ h0]
    by_cases h4 : o = 4
    · subst h4; rw [adJ_4, if_neg (by omega)]
    · by_cases h34 : o = 34
      · subst h34; rw [adJ_34, if_neg (by omega)]
      · simp [adJ, h0, h4, h34]
theorem adJ_s (M : qM) {j : Int} (hj : 0 ≤ j ∧ j < 6) : qrow (qup (adJ M j) 34 j (M 27 j)) j (rowc (qup (adJ M j) 34 j (M 27 j)) (6 + j)) = adJ M (j + 1) := by
  funext o k
  have hr : ∀ i, 0 ≤ i → i < 256 → rowc (qup (adJ M j) 34 j (M 27 j)) (6 + j) i = M 4 ((6 + j) * 256 + i) := fun i h0 h1 => by
    unfold rowc
    rw [qup_o _ _ _ _ (by decide), adJ_4, if_neg (by omega)]
  by_cases h4 : o = 4
  · subst h4
    rw [adJ_4]
    simp only [qrow]
    by_cases g : j * 256 ≤ k ∧ k < j * 256 + 256
    · rw [if_pos ⟨trivial, g⟩, hr _ (by omega) (by omega), if_pos ⟨by omega, by omega⟩, show (6 + j) * 256 + (k - j * 256) = k + 1536 by omega]
    · rw [if_neg (fun q => g q.2), qup_o _ _ _ _ (by decide), adJ_4]
      by_cases g2 : 0 ≤ k ∧ k < j * 256
      · rw [if_pos g2, if_pos ⟨g2.1, by omega⟩]
      · rw [if_neg g2, if_neg (by omega)]
  · rw [qrow_o _ _ h4]
    by_cases h34 : o = 34
    · subst h34
      rw [adJ_34]
      by_cases g : k = j
      · subst g; rw [qup_s, if_pos ⟨by omega, by omega⟩]
      · rw [qup_k _ _ _ g, adJ_34]
        by_cases g2 : 0 ≤ k ∧ k < j
        · rw [if_pos g2, if_pos ⟨g2.1, by omega⟩]
        · rw [if_neg g2, if_neg (by omega)]
    · rw [qup_o _ _ _ _ h34]; exact adJ_o M _ _ k h4 h34
theorem adJ_6 (M : qM) : qup (adJ M 6) 28 3 0 = adS M 0 := by
  funext o k
  by_cases h28 : o = 28
  · subst h28
    by_cases h3 : k = 3
    · subst h3; rw [qup_s]; simp [adS]
    · rw [qup_k _ _ _ h3]; simp [adJ, adS, h3]
  · rw [qup_o _ _ _ _ h28]
    by_cases h36 : o = 36
    · subst h36; rw [adS_36, if_neg (by omega)]; simp [adJ]
    · simp [adJ, adS, h28, h36]
theorem adS_s (M : qM) {j : Int} (hj : 0 ≤ j) : qup (adS M j) 36 j 0 = adS M (j + 1) := by
  funext o k
  by_cases h36 : o = 36
  · subst h36
    rw [adS_36]
    by_cases g : k = j
    · subst g; rw [qup_s, if_pos ⟨by omega, by omega⟩]
    · rw [qup_k _ _ _ g, adS_36]
      by_cases g2 : 0 ≤ k ∧ k < j
      · rw [if_pos g2, if_pos ⟨g2.1, by omega⟩]
      · rw [if_neg g2, if_neg (by omega)]
  · rw [qup_o _ _ _ _ h36]; exact adS_o M _ _ k h36
set_option maxHeartbeats 4000000 in
theorem c_adoptParsed : qCt mX7_adoptParsed 0 2 [.ref 0] M (qpv (adW M)) := by
  refine q_intro (own := 7) (L := [some (.ref 0), none]) md_X7_adoptParsed rfl rfl rfl (Nat.le_of_ble_eq_true rfl) (fun X => ?_)
  refine q_aload_n dX7_adoptParsed_0 rfl ?_
  refine q_iconst dX7_adoptParsed_1 ?_
  refine q_putz (j := 9) dX7_adoptParsed_2 fl_7_114 rfl rfl rfl rfl (by (first | (unfold zR; omega) | (unfold zLR; omega) | omega | (simp only [zR, qup] at *; omega) | (simp [zR, qup]; omega) | (simp [zR, qup]; done))) rfl ?_
  refine q_aload_n dX7_adoptParsed_5 rfl ?_
  refine q_aload_n dX7_adoptParsed_6 rfl ?_
  refine q_getr dX7_adoptParsed_7 fl_7_46 rfl rfl ?_
  refine q_V0 dX7_adoptParsed_10 ml_7_118 md_X3_parsedLevel c_parsedLevel rfl rfl rfl (by first | decide | omega) (Nat.le_of_ble_eq_true rfl) (Nat.le_of_ble_eq_true rfl) (qk_e ?_)
  refine q_puti (j := 10) dX7_adoptParsed_13 fl_7_121 rfl rfl rfl rfl rfl ?_
  refine q_aload_n dX7_adoptParsed_16 rfl ?_
  refine q_aload_n dX7_adoptParsed_17 rfl ?_
  refine q_getr dX7_adoptParsed_18 fl_7_46 rfl rfl ?_
  refine q_V0 dX7_adoptParsed_21 ml_7_124 md_X3_parsedMaps c_parsedMaps rfl rfl rfl (by first | decide | omega) (Nat.le_of_ble_eq_true rfl) (Nat.le_of_ble_eq_true rfl) (qk_e ?_)
  refine q_puti (j := 11) dX7_adoptParsed_24 fl_7_111 rfl rfl rfl rfl rfl ?_
  refine q_iconst dX7_adoptParsed_27 ?_
  refine q_istore_n dX7_adoptParsed_28 (Nat.le_of_ble_eq_true rfl) rfl ?_
  refine q_lp (fun j : Int => (6 - j).toNat) (fun j => 0 ≤ j ∧ j ≤ 6) (fun j => [some (.ref 0), some (.int (zI j))]) (fun j => adJ M j) 0 rfl (by rw [← adJ_0]; simp [qup]) ⟨by omega, by omega⟩ (fun j hj ih => ?_)
  refine q_iload_n dX7_adoptParsed_29 rfl ?_
  refine q_bipush dX7_adoptParsed_30 rfl ?_
  refine q_icmp_ge (tgt := 69) dX7_adoptParsed_32 rfl (by (first | (unfold zR; omega) | (unfold zLR; omega) | omega | (simp only [zR, qup] at *; omega) | (simp [zR, qup]; omega) | (simp [zR, qup]; done))) (by (first | (unfold zR; omega) | (unfold zLR; omega) | omega | (simp only [zR, qup] at *; omega) | (simp [zR, qup]; omega) | (simp [zR, qup]; done))) (fun h32 => ?_) (fun h32 => ?_)
  rotate_left
  ·
    refine q_aload_n dX7_adoptParsed_35 rfl ?_
    refine q_getr dX7_adoptParsed_36 fl_7_63 rfl rfl ?_
    refine q_iload_n dX7_adoptParsed_39 rfl ?_
    refine q_aload_n dX7_adoptParsed_40 rfl ?_
    refine q_getr dX7_adoptParsed_41 fl_7_46 rfl rfl ?_
    refine q_iload_n dX7_adoptParsed_44 rfl ?_
    refine q_V1 dX7_adoptParsed_45 ml_7_127 md_X3_parsedName (c_parsedName (by omega)) rfl rfl rfl (by first | decide | omega) (Nat.le_of_ble_eq_true rfl) (Nat.le_of_ble_eq_true rfl) (qk_e ?_)
    rw [show adJ M j 27 j = M 27 j from rfl]
    refine q_V2 dX7_adoptParsed_48 ml_7_131 md_X5_set (c_rset (o := 33) (r := 34) (n := 6) rfl rfl (by decide) (by omega)) rfl rfl rfl (by first | decide | omega) (Nat.le_of_ble_eq_true rfl) (Nat.le_of_ble_eq_true rfl) (qk_v ?_)
    refine q_aload_n dX7_adoptParsed_51 rfl ?_
    refine q_getr dX7_adoptParsed_52 fl_7_26 rfl rfl ?_
    refine q_bipush dX7_adoptParsed_55 rfl ?_
    refine q_iload_n dX7_adoptParsed_57 rfl ?_
    refine q_iadd dX7_adoptParsed_58 ?_
    refine q_iload_n dX7_adoptParsed_59 rfl ?_
    refine q_V2 dX7_adoptParsed_60 ml_7_135 md_X0_copyRow (c_copyRow (by omega) (by omega)) rfl rfl rfl (by first | decide | omega) (Nat.le_of_ble_eq_true rfl) (Nat.le_of_ble_eq_true rfl) (qk_v ?_)
    refine q_iinc dX7_adoptParsed_63 rfl (Nat.le_of_ble_eq_true rfl) rfl ?_
    refine q_goto (tgt := 29) dX7_adoptParsed_66 rfl ?_
    exact ih (j + 1) _ _ ⟨by omega, by omega⟩ (by omega) rfl (adJ_s M ⟨hj.1, h32⟩)
  refine q_aload_n dX7_adoptParsed_69 rfl ?_
  refine q_getr dX7_adoptParsed_70 fl_7_53 rfl rfl ?_
  refine q_V0 dX7_adoptParsed_73 ml_7_138 md_X2_forget c_forget rfl rfl rfl (by first | decide | omega) (Nat.le_of_ble_eq_true rfl) (Nat.le_of_ble_eq_true rfl) (qk_v ?_)
  rw [show j = 6 by omega, adJ_6]
  refine q_iconst dX7_adoptParsed_76 ?_
  refine q_istore_n dX7_adoptParsed_77 (Nat.le_of_ble_eq_true rfl) rfl ?_
  refine q_lp (fun j : Int => (2 - j).toNat) (fun j => 0 ≤ j ∧ j ≤ 2) (fun j => [some (.ref 0), some (.int (zI j))]) (fun j => adS M j) 0 rfl rfl ⟨by omega, by omega⟩ (fun i hi ih2 => ?_)
  refine q_iload_n dX7_adoptParsed_78 rfl ?_
  refine q_iconst dX7_adoptParsed_79 ?_
  refine q_icmp_ge (tgt := 98) dX7_adoptParsed_80 rfl (by (first | (unfold zR; omega) | (unfold zLR; omega) | omega | (simp only [zR, qup] at *; omega) | (simp [zR, qup]; omega) | (simp [zR, qup]; done))) (by (first | (unfold zR; omega) | (unfold zLR; omega) | omega | (simp only [zR, qup] at *; omega) | (simp [zR, qup]; omega) | (simp [zR, qup]; done))) (fun h80 => ?_) (fun h80 => ?_)
  rotate_left
  ·
    refine q_aload_n dX7_adoptParsed_83 rfl ?_
    refine q_getr dX7_adoptParsed_84 fl_7_67 rfl rfl ?_
    refine q_iload_n dX7_adoptParsed_87 rfl ?_
    refine q_iconst dX7_adoptParsed_88 ?_
    refine q_V2 dX7_adoptParsed_89 ml_7_131 md_X5_set (c_rset (o := 35) (r := 36) (n := 2) rfl rfl (by decide) (by omega)) rfl rfl rfl (by first | decide | omega) (Nat.le_of_ble_eq_true rfl) (Nat.le_of_ble_eq_true rfl) (qk_v ?_)
    refine q_iinc dX7_adoptParsed_92 rfl (Nat.le_of_ble_eq_true rfl) rfl ?_
    refine q_goto (tgt := 78) dX7_adoptParsed_95 rfl ?_
    exact ih2 (i + 1) _ _ ⟨by omega, by omega⟩ (by omega) rfl (adS_s M hi.1)
  refine q_return dX7_adoptParsed_98 ?_
  exact ⟨rfl, by rw [show i = 2 by omega]; rfl⟩
end GK


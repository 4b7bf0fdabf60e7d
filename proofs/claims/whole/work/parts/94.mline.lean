/-! The model: isWord, line. -/
theorem q_ldcwS {X : qX} {own : Nat} {cc : ByteArray} {nL : Nat} {ret : Option FieldType} {u d : Nat} {P : qP} {b pc : Nat} {L : List (Option Value)} {st : List Value} {M : qM} {idx o : Nat} {tx : String} (dd : decode cc pc = .ok (.ldc_w idx, 3)) (hw : (own, idx, tx, o) ∈ qWs) (k : QW X (own, cc, nL, ret, u, d) P b (pc + 3) L (.ref o :: st) M) : QW X (own, cc, nL, ret, u, d) P b pc L st M := by
  obtain ⟨p, l, e, s, m, args, below, meth, c, dC, dI, cyI, cyZ, ad⟩ := X
  intro ok H locs cells slots ls hP hS hl h1 h2
  obtain ⟨hx, hb, hml, hown, hts, hret, hlocks, hex, hK, hinj, henv, hst⟩ := id ok
  obtain ⟨-, -, -, hv, -⟩ := henv
  have hv2 : vk_R (qNm own) idx tx (ad o) s := hv (own, idx, tx, o) hw
  have hk := k ok H locs cells slots ls hP hS hl h1 h2
  intro T hT XX
  obtain ⟨t, a1, b1⟩ := hk T hT XX
  exact ⟨t, XX.ldcStringW hx hown (text := tx) (a := ad o) hv2.1 hv2.2 (g := F0 m pc ls _) rfl (by rw [hb]; exact dd) t a1, b1⟩
theorem wcw_wc (i : Nat) : ∀ k : Nat, wcw i k = wc (fun j => chW i j.toNat) 0 k := by
  intro k
  induction k with
  | zero => rfl
  | succ k ih =>
    show zor (zshl (wcw i k) 5) (chW i k - 97 + 1) = zor (zshl (wc (fun j => chW i j.toNat) 0 k) 5) (chW i (0 + (k : Int)).toNat - 97 + 1)
    rw [ih, Int.zero_add, Int.toNat_natCast]
section MLI
variable {M M0 : qM} {I : Int → Int} {n Lq c q b z : Int} {L : Nat} {σ : qσ} {e : Int × Int}
set_option maxHeartbeats 1500000 in
theorem m_isWordF {i : Nat} (h : FS M0 Lq e M) : qCt mX8_isWord 0 4 [.ref 37, .ref (100 + i)] M (qpe 0 M) := by
  obtain ⟨a1, a2, a3, a4, a5, a6⟩ := h
  refine q_intro (own := 8) (L := [some (.ref 37), some (.ref (100 + i)), none]) md_X8_isWord rfl rfl rfl (Nat.le_of_ble_eq_true rfl) (fun X => ?_)
  refine q_aload_n dX8_isWord_0 rfl ?_
  refine q_geti (j := 29) dX8_isWord_1 fl_8_182 rfl rfl rfl ?_
  rw [a3]
  refine q_if_ne (tgt := 31) dX8_isWord_4 rfl (by (first | (unfold zR; omega) | (unfold zLR; omega) | omega | (simp only [zR, qup] at *; omega) | (simp [zR, qup]; omega) | (simp [zR, qup]; done))) (fun h4 => ?_) (fun h4 => absurd h4 (by exact a4))
  refine q_iconst dX8_isWord_31 ?_
  refine q_zreturn (by first | exact Or.inl rfl | exact Or.inr rfl) dX8_isWord_32 ?_
  exact ⟨rfl, rfl⟩
set_option maxHeartbeats 1500000 in
theorem m_isWord {i : Nat} (hi : i < 7) (h : PS M0 I n Lq σ M) : qCt mX8_isWord 0 4 [.ref 37, .ref (100 + i)] M (qpe (zb (isW I n σ.1 i)) M) := by
  obtain ⟨b1, b2, b3, b4, b5, b6, b7, b8, b9, b10, b11, b12⟩ := id h
  have hE := tE_in (I := I) b6.2
  have hS := tS_in (I := I) b6.2
  have hk := tK_in I n σ.1
  have hw := wl_in ⟨i, hi⟩
  simp only at hw
  have hn7 : n ≤ 700 := b2.2.1
  refine q_intro (own := 8) (L := [some (.ref 37), some (.ref (100 + i)), none]) md_X8_isWord rfl rfl rfl (Nat.le_of_ble_eq_true rfl) (fun X => ?_)
  refine q_aload_n dX8_isWord_0 rfl ?_
  refine q_geti (j := 29) dX8_isWord_1 fl_8_182 rfl rfl rfl ?_
  rw [b5]
  refine q_if_ne (tgt := 31) dX8_isWord_4 rfl (by (first | (unfold zR; omega) | (unfold zLR; omega) | omega | (simp only [zR, qup] at *; omega) | (simp [zR, qup]; omega) | (simp [zR, qup]; done))) (fun h4 => absurd h4 (by exact fun g => g rfl)) (fun h4 => ?_)
  refine q_aload_n dX8_isWord_7 rfl ?_
  refine q_geti (j := 27) dX8_isWord_8 fl_8_170 rfl rfl rfl ?_
  rw [b9]
  refine q_iconst dX8_isWord_11 ?_
  refine q_icmp_ne (tgt := 31) dX8_isWord_12 rfl (by (first | (unfold zR; omega) | (unfold zLR; omega) | omega | (simp only [zR, qup] at *; omega) | (simp [zR, qup]; omega) | (simp [zR, qup]; done))) (by (first | (unfold zR; omega) | (unfold zLR; omega) | omega | (simp only [zR, qup] at *; omega) | (simp [zR, qup]; omega) | (simp [zR, qup]; done))) (fun h12 => ?_) (fun h12 => ?_)
  ·
    refine q_iconst dX8_isWord_31 ?_
    refine q_zreturn (by first | exact Or.inl rfl | exact Or.inr rfl) dX8_isWord_32 ?_
    exact ⟨by rw [zb_f (fun g => h12 g.1)], rfl⟩
  ·
    refine q_aload_n dX8_isWord_15 rfl ?_
    refine q_geti (j := 25) dX8_isWord_16 fl_8_161 rfl rfl rfl ?_
    rw [b7]
    refine q_aload_n dX8_isWord_19 rfl ?_
    refine q_geti (j := 26) dX8_isWord_20 fl_8_167 rfl rfl rfl ?_
    rw [b8]
    refine q_isub dX8_isWord_23 ?_
    obtain ⟨w1, w2, w3⟩ := word_tok b6.2 h12
    have hwv : wordV i = wc (fun j => chW i j.toNat) 0 (qWl.getD i 0) := wcw_wc i _
    have hJ : ∀ j : Nat, j < qWl.getD i 0 → 97 ≤ (fun j : Int => chW i j.toNat) (0 + (j : Int)) ∧ (fun j : Int => chW i j.toNat) (0 + (j : Int)) ≤ 122 := fun j hj => by
      dsimp only
      rw [Int.zero_add, Int.toNat_natCast]
      exact ch_in2 hi hj
    have hI2 : ∀ j : Nat, j < (tE I n σ.1 - tS I n σ.1).toNat → 97 ≤ I (tS I n σ.1 + j) ∧ I (tS I n σ.1 + j) ≤ 122 := fun j hj => w2 _ (by omega) (by omega)
    have hiff : isW I n σ.1 i → (tE I n σ.1 - tS I n σ.1).toNat = qWl.getD i 0 ∧ ∀ j : Nat, j < (tE I n σ.1 - tS I n σ.1).toNat → I (tS I n σ.1 + j) = chW i j := fun g => by
      have h2 := g.2
      rw [w3, hwv] at h2
      obtain ⟨q1, q2⟩ := wc_inj _ _ (by omega) (by omega) hI2 hJ h2
      refine ⟨q1, fun j hj => ?_⟩
      have := q2 j hj
      rw [Int.zero_add, Int.toNat_natCast] at this
      exact this
    refine q_aload_n dX8_isWord_24 rfl ?_
    refine q_callVS (av := []) dX8_isWord_25 ml_8_194 md_J0_length_8abf5 (c_strlen hi) rfl rfl hi rfl rfl (by decide) (by decide) (Nat.le_of_ble_eq_true rfl) (qk_e ?_)
    refine q_icmp_eq (tgt := 33) dX8_isWord_28 rfl (by (first | (unfold zR; omega) | (unfold zLR; omega) | omega | (simp only [zR, qup] at *; omega) | (simp [zR, qup]; omega) | (simp [zR, qup]; done))) (by (first | (unfold zR; omega) | (unfold zLR; omega) | omega | (simp only [zR, qup] at *; omega) | (simp [zR, qup]; omega) | (simp [zR, qup]; done))) (fun h28 => ?_) (fun h28 => ?_)
    ·
      refine q_iconst dX8_isWord_33 ?_
      refine q_istore_n dX8_isWord_34 (Nat.le_of_ble_eq_true rfl) rfl ?_
      refine q_lp (fun k : Nat => 7 - k) (fun k => k ≤ qWl.getD i 0 ∧ ∀ j : Nat, j < k → I (tS I n σ.1 + j) = chW i j) (fun k => [some (.ref 37), some (.ref (100 + i)), some (.int (zI (k : Int)))]) (fun _ => M) 0 rfl rfl ⟨by omega, fun j hj => absurd hj (Nat.not_lt_zero j)⟩ (fun k hk2 ih => ?_)
      obtain ⟨hk3, hk4⟩ := hk2
      refine q_iload_n dX8_isWord_35 rfl ?_
      refine q_aload_n dX8_isWord_36 rfl ?_
      refine q_callVS (av := []) dX8_isWord_37 ml_8_194 md_J0_length_8abf5 (c_strlen hi) rfl rfl hi rfl rfl (by decide) (by decide) (Nat.le_of_ble_eq_true rfl) (qk_e ?_)
      refine q_icmp_ge (tgt := 69) dX8_isWord_40 rfl (by (first | (unfold zR; omega) | (unfold zLR; omega) | omega | (simp only [zR, qup] at *; omega) | (simp [zR, qup]; omega) | (simp [zR, qup]; done))) (by (first | (unfold zR; omega) | (unfold zLR; omega) | omega | (simp only [zR, qup] at *; omega) | (simp [zR, qup]; omega) | (simp [zR, qup]; done))) (fun h40 => ?_) (fun h40 => ?_)
      rotate_left
      ·
        have hsq := seen_in (p := tS I n σ.1 + (k : Int)) b2 (by omega)
        have hch := ch_in2 (i := i) (k := k) hi (by omega)
        have hsk : seenF I n (tS I n σ.1 + (k : Int)) = I (tS I n σ.1 + k) := if_pos (by omega)
        refine q_aload_n dX8_isWord_43 rfl ?_
        refine q_aload_n dX8_isWord_44 rfl ?_
        refine q_geti (j := 26) dX8_isWord_45 fl_8_167 rfl rfl rfl ?_
        rw [b8]
        refine q_iload_n dX8_isWord_48 rfl ?_
        refine q_iadd dX8_isWord_49 ?_
        refine q_V1 dX8_isWord_50 ml_8_164 md_X8_seen (m_seen b2 b3 ⟨by omega, by omega⟩) rfl rfl rfl (by first | decide | omega) (Nat.le_of_ble_eq_true rfl) (Nat.le_of_ble_eq_true rfl) (qk_e ?_)
        refine q_aload_n dX8_isWord_53 rfl ?_
        refine q_iload_n dX8_isWord_54 rfl ?_
        refine q_callVS (av := [.int (zI (k : Int))]) dX8_isWord_55 ml_8_198 md_J0_charAt_5068e (c_strchar hi (by omega)) rfl rfl hi rfl rfl (by decide) (by decide) (Nat.le_of_ble_eq_true rfl) (qk_e ?_)
        refine q_icmp_eq (tgt := 63) dX8_isWord_58 rfl (by (first | (unfold zR; omega) | (unfold zLR; omega) | omega | (simp only [zR, qup] at *; omega) | (simp [zR, qup]; omega) | (simp [zR, qup]; done))) (by (first | (unfold zR; omega) | (unfold zLR; omega) | omega | (simp only [zR, qup] at *; omega) | (simp [zR, qup]; omega) | (simp [zR, qup]; done))) (fun h58 => ?_) (fun h58 => ?_)
        ·
          refine q_iinc dX8_isWord_63 rfl (Nat.le_of_ble_eq_true rfl) rfl ?_
          refine q_goto (tgt := 35) dX8_isWord_66 rfl ?_
          exact ih (k + 1) _ _ ⟨by omega, fun j hj => by
            by_cases g : j = k
            · subst g; rw [← hsk]; exact h58
            · exact hk4 j (by omega)⟩ (by omega) rfl rfl
        ·
          refine q_iconst dX8_isWord_61 ?_
          refine q_zreturn (by first | exact Or.inl rfl | exact Or.inr rfl) dX8_isWord_62 ?_
          exact ⟨by rw [zb_f (fun g => h58 (by rw [hsk]; exact (hiff g).2 k (by omega)))], rfl⟩
      refine q_iconst dX8_isWord_69 ?_
      refine q_zreturn (by first | exact Or.inl rfl | exact Or.inr rfl) dX8_isWord_70 ?_
      have hkk : k = qWl.getD i 0 := by omega
      subst hkk
      have hyes : isW I n σ.1 i := ⟨h12, by
        rw [w3, hwv, show (tE I n σ.1 - tS I n σ.1).toNat = qWl.getD i 0 by omega]
        refine wc_cg _ (fun j hj => ?_)
        rw [Int.zero_add, Int.toNat_natCast]
        exact hk4 j hj⟩
      exact ⟨by rw [zb_t hyes], rfl⟩
    ·
      refine q_iconst dX8_isWord_31 ?_
      refine q_zreturn (by first | exact Or.inl rfl | exact Or.inr rfl) dX8_isWord_32 ?_
      exact ⟨by rw [zb_f (fun g => h28 (by have := (hiff g).1; omega))], rfl⟩
set_option maxHeartbeats 1500000 in
theorem m_line (hL : L ≤ 4) (h : PS M0 I n (L : Int) σ M) : qCt mX8_line 0 12 [.ref 37] M (qph (YS M0 I n (L : Int) (lineS I n L σ))) := by
  refine q_intro (own := 8) (L := [some (.ref 37)]) md_X8_line rfl rfl rfl (Nat.le_of_ble_eq_true rfl) (fun X => ?_)
  refine q_aload_n dX8_line_0 rfl ?_
  refine q_ldcS (o := 101) (tx := "map") dX8_line_1 (by decide +kernel) ?_
  refine q_V1 dX8_line_3 ml_8_248 md_X8_isWord (m_isWord (i := 1) (by omega) h) rfl rfl rfl (by first | decide | omega) (Nat.le_of_ble_eq_true rfl) (Nat.le_of_ble_eq_true rfl) (qk_e ?_)
  refine q_if_eq (tgt := 16) dX8_line_6 rfl (by exact zb_R _) (fun h6 => ?_) (fun h6 => ?_)
  rotate_left
  ·
    refine q_aload_n dX8_line_9 rfl ?_
    refine q_V0 dX8_line_10 ml_8_252 md_X8_mapLine (m_mapLine h) rfl rfl rfl (by first | decide | omega) (Nat.le_of_ble_eq_true rfl) (Nat.le_of_ble_eq_true rfl) (qk_h (fun N10 hq10 => ?_))
    refine q_goto (tgt := 108) dX8_line_13 rfl ?_
    refine q_return dX8_line_108 ?_
    exact ⟨rfl, Or.inl (by unfold lineS; rw [rif_t (zbp h6)]; exact hq10)⟩
  refine q_aload_n dX8_line_16 rfl ?_
  refine q_ldcS (o := 102) (tx := "fill") dX8_line_17 (by decide +kernel) ?_
  refine q_V1 dX8_line_19 ml_8_248 md_X8_isWord (m_isWord (i := 2) (by omega) h) rfl rfl rfl (by first | decide | omega) (Nat.le_of_ble_eq_true rfl) (Nat.le_of_ble_eq_true rfl) (qk_e ?_)
  refine q_if_eq (tgt := 33) dX8_line_22 rfl (by exact zb_R _) (fun h22 => ?_) (fun h22 => ?_)
  rotate_left
  ·
    refine q_aload_n dX8_line_25 rfl ?_
    refine q_iconst dX8_line_26 ?_
    refine q_V1 dX8_line_27 ml_8_257 md_X8_rangeLine (m_rangeLine hL h (Or.inr (Or.inl rfl))) rfl rfl rfl (by first | decide | omega) (Nat.le_of_ble_eq_true rfl) (Nat.le_of_ble_eq_true rfl) (qk_h (fun N27 hq27 => ?_))
    refine q_goto (tgt := 108) dX8_line_30 rfl ?_
    refine q_return dX8_line_108 ?_
    exact ⟨rfl, Or.inl (by unfold lineS; rw [rif_f (zb_0.1 h6), rif_t (zbp h22)]; exact hq27)⟩
  refine q_aload_n dX8_line_33 rfl ?_
  refine q_ldcwS (o := 103) (tx := "clear") dX8_line_34 (by decide +kernel) ?_
  refine q_V1 dX8_line_37 ml_8_248 md_X8_isWord (m_isWord (i := 3) (by omega) h) rfl rfl rfl (by first | decide | omega) (Nat.le_of_ble_eq_true rfl) (Nat.le_of_ble_eq_true rfl) (qk_e ?_)
  refine q_if_eq (tgt := 51) dX8_line_40 rfl (by exact zb_R _) (fun h40 => ?_) (fun h40 => ?_)
  rotate_left
  ·
    refine q_aload_n dX8_line_43 rfl ?_
    refine q_iconst dX8_line_44 ?_
    refine q_V1 dX8_line_45 ml_8_257 md_X8_rangeLine (m_rangeLine hL h (Or.inl rfl)) rfl rfl rfl (by first | decide | omega) (Nat.le_of_ble_eq_true rfl) (Nat.le_of_ble_eq_true rfl) (qk_h (fun N45 hq45 => ?_))
    refine q_goto (tgt := 108) dX8_line_48 rfl ?_
    refine q_return dX8_line_108 ?_
    exact ⟨rfl, Or.inl (by unfold lineS; rw [rif_f (zb_0.1 h6), rif_f (zb_0.1 h22), rif_t (zbp h40)]; exact hq45)⟩
  refine q_aload_n dX8_line_51 rfl ?_
  refine q_ldcwS (o := 104) (tx := "flip") dX8_line_52 (by decide +kernel) ?_
  refine q_V1 dX8_line_55 ml_8_248 md_X8_isWord (m_isWord (i := 4) (by omega) h) rfl rfl rfl (by first | decide | omega) (Nat.le_of_ble_eq_true rfl) (Nat.le_of_ble_eq_true rfl) (qk_e ?_)
  refine q_if_eq (tgt := 69) dX8_line_58 rfl (by exact zb_R _) (fun h58 => ?_) (fun h58 => ?_)
  rotate_left
  ·
    refine q_aload_n dX8_line_61 rfl ?_
    refine q_iconst dX8_line_62 ?_
    refine q_V1 dX8_line_63 ml_8_257 md_X8_rangeLine (m_rangeLine hL h (Or.inr (Or.inr rfl))) rfl rfl rfl (by first | decide | omega) (Nat.le_of_ble_eq_true rfl) (Nat.le_of_ble_eq_true rfl) (qk_h (fun N63 hq63 => ?_))
    refine q_goto (tgt := 108) dX8_line_66 rfl ?_
    refine q_return dX8_line_108 ?_
    exact ⟨rfl, Or.inl (by unfold lineS; rw [rif_f (zb_0.1 h6), rif_f (zb_0.1 h22), rif_f (zb_0.1 h40), rif_t (zbp h58)]; exact hq63)⟩
  refine q_aload_n dX8_line_69 rfl ?_
  refine q_ldcwS (o := 105) (tx := "or") dX8_line_70 (by decide +kernel) ?_
  refine q_V1 dX8_line_73 ml_8_248 md_X8_isWord (m_isWord (i := 5) (by omega) h) rfl rfl rfl (by first | decide | omega) (Nat.le_of_ble_eq_true rfl) (Nat.le_of_ble_eq_true rfl) (qk_e ?_)
  refine q_if_eq (tgt := 86) dX8_line_76 rfl (by exact zb_R _) (fun h76 => ?_) (fun h76 => ?_)
  rotate_left
  ·
    refine q_aload_n dX8_line_79 rfl ?_
    refine q_V0 dX8_line_80 ml_8_266 md_X8_orLine (m_orLine hL h) rfl rfl rfl (by first | decide | omega) (Nat.le_of_ble_eq_true rfl) (Nat.le_of_ble_eq_true rfl) (qk_h (fun N80 hq80 => ?_))
    refine q_goto (tgt := 108) dX8_line_83 rfl ?_
    refine q_return dX8_line_108 ?_
    exact ⟨rfl, Or.inl (by unfold lineS; rw [rif_f (zb_0.1 h6), rif_f (zb_0.1 h22), rif_f (zb_0.1 h40), rif_f (zb_0.1 h58), rif_t (zbp h76)]; exact hq80)⟩
  refine q_aload_n dX8_line_86 rfl ?_
  refine q_ldcwS (o := 106) (tx := "tree") dX8_line_87 (by decide +kernel) ?_
  refine q_V1 dX8_line_90 ml_8_248 md_X8_isWord (m_isWord (i := 6) (by omega) h) rfl rfl rfl (by first | decide | omega) (Nat.le_of_ble_eq_true rfl) (Nat.le_of_ble_eq_true rfl) (qk_e ?_)
  refine q_if_eq (tgt := 103) dX8_line_93 rfl (by exact zb_R _) (fun h93 => ?_) (fun h93 => ?_)
  rotate_left
  ·
    refine q_aload_n dX8_line_96 rfl ?_
    refine q_V0 dX8_line_97 ml_8_270 md_X8_treeLine (m_treeLine hL h) rfl rfl rfl (by first | decide | omega) (Nat.le_of_ble_eq_true rfl) (Nat.le_of_ble_eq_true rfl) (qk_h (fun N97 hq97 => ?_))
    refine q_goto (tgt := 108) dX8_line_100 rfl ?_
    refine q_return dX8_line_108 ?_
    exact ⟨rfl, by unfold lineS; rw [rif_f (zb_0.1 h6), rif_f (zb_0.1 h22), rif_f (zb_0.1 h40), rif_f (zb_0.1 h58), rif_f (zb_0.1 h76), rif_t (zbp h93)]; exact hq97⟩
  refine q_aload_n dX8_line_103 rfl ?_
  refine q_iconst dX8_line_104 ?_
  refine q_V1 dX8_line_105 ml_8_188 md_X8_fails (m_failsP h (by decide) (by (first | (unfold zR; omega) | (unfold zLR; omega) | omega | (simp only [zR, qup] at *; omega) | (simp [zR, qup]; omega) | (simp [zR, qup]; done)))) rfl rfl rfl (by first | decide | omega) (Nat.le_of_ble_eq_true rfl) (Nat.le_of_ble_eq_true rfl) (qk_h (fun N105 hq105 => ?_))
  refine q_return dX8_line_108 ?_
  exact ⟨rfl, Or.inl (by unfold lineS; rw [rif_f (zb_0.1 h6), rif_f (zb_0.1 h22), rif_f (zb_0.1 h40), rif_f (zb_0.1 h58), rif_f (zb_0.1 h76), rif_f (zb_0.1 h93)]; exact hq105)⟩
end MLI


/-! The model: its least methods. -/
def rfW (M : qM) (q code : Int) : qM := if M 37 0 = 0 ∧ q = 1 then qup M 37 0 code else M
section MA
variable {M : qM} {L l : Nat} {k o x y a b v p q code : Int}
set_option maxHeartbeats 1000000 in
theorem m_thrown : qCt mX8_thrown 0 0 [.ref 37] M (qpe (M 37 0) M) := by
  refine q_intro (own := 8) (L := [some (.ref 37)]) md_X8_thrown rfl rfl rfl (Nat.le_of_ble_eq_true rfl) (fun X => ?_)
  refine q_aload_n dX8_thrown_0 rfl ?_
  refine q_geti (j := 0) dX8_thrown_1 fl_8_57 rfl rfl rfl ?_
  refine q_ireturn dX8_thrown_4 ?_
  exact ⟨rfl, rfl⟩
set_option maxHeartbeats 1000000 in
theorem m_in (hv : zR v) (ha : zR a) (hb : zR b) : qCt mX8_in 0 0 [.int (zI v), .int (zI a), .int (zI b)] M (qpe (zb (a ≤ v ∧ v ≤ b)) M) := by
  refine q_intro (own := 8) (L := [some (.int (zI v)), some (.int (zI a)), some (.int (zI b))]) md_X8_in rfl rfl rfl (Nat.le_of_ble_eq_true rfl) (fun X => ?_)
  refine q_iload_n dX8_in_0 rfl ?_
  refine q_iload_n dX8_in_1 rfl ?_
  refine q_icmp_lt (tgt := 14) dX8_in_2 rfl (by (first | (unfold zR; omega) | (unfold zLR; omega) | omega | (simp only [zR, qup] at *; omega) | (simp [zR, qup]; omega) | (simp [zR, qup]; done))) (by (first | (unfold zR; omega) | (unfold zLR; omega) | omega | (simp only [zR, qup] at *; omega) | (simp [zR, qup]; omega) | (simp [zR, qup]; done))) (fun h2 => ?_) (fun h2 => ?_)
  ·
    refine q_iconst dX8_in_14 ?_
    refine q_zreturn (by first | exact Or.inl rfl | exact Or.inr rfl) dX8_in_15 ?_
    first | exact ⟨by rw [zb_f (by omega)], rfl⟩ | exact ⟨by rw [zb_t (by omega)], rfl⟩
  ·
    refine q_iload_n dX8_in_5 rfl ?_
    refine q_iload_n dX8_in_6 rfl ?_
    refine q_icmp_gt (tgt := 14) dX8_in_7 rfl (by (first | (unfold zR; omega) | (unfold zLR; omega) | omega | (simp only [zR, qup] at *; omega) | (simp [zR, qup]; omega) | (simp [zR, qup]; done))) (by (first | (unfold zR; omega) | (unfold zLR; omega) | omega | (simp only [zR, qup] at *; omega) | (simp [zR, qup]; omega) | (simp [zR, qup]; done))) (fun h7 => ?_) (fun h7 => ?_)
    ·
      refine q_iconst dX8_in_14 ?_
      refine q_zreturn (by first | exact Or.inl rfl | exact Or.inr rfl) dX8_in_15 ?_
      first | exact ⟨by rw [zb_f (by omega)], rfl⟩ | exact ⟨by rw [zb_t (by omega)], rfl⟩
    ·
      refine q_iconst dX8_in_10 ?_
      refine q_goto (tgt := 15) dX8_in_11 rfl ?_
      refine q_zreturn (by first | exact Or.inl rfl | exact Or.inr rfl) dX8_in_15 ?_
      first | exact ⟨by rw [zb_f (by omega)], rfl⟩ | exact ⟨by rw [zb_t (by omega)], rfl⟩
set_option maxHeartbeats 1000000 in
theorem m_flag (hq : q = 0 ∨ q = 1) : qCt mX8_flag 0 0 [.int (zI q)] M (qpe q M) := by
  refine q_intro (own := 8) (L := [some (.int (zI q))]) md_X8_flag rfl rfl rfl (Nat.le_of_ble_eq_true rfl) (fun X => ?_)
  refine q_iload_n dX8_flag_0 rfl ?_
  refine q_if_eq (tgt := 8) dX8_flag_1 rfl (by (first | (unfold zR; omega) | (unfold zLR; omega) | omega | (simp only [zR, qup] at *; omega) | (simp [zR, qup]; omega) | (simp [zR, qup]; done))) (fun h1 => ?_) (fun h1 => ?_)
  ·
    refine q_iconst dX8_flag_8 ?_
    refine q_ireturn dX8_flag_9 ?_
    first | exact ⟨by rw [show q = 0 by omega], rfl⟩ | exact ⟨by rw [show q = 1 by omega], rfl⟩
  ·
    refine q_iconst dX8_flag_4 ?_
    refine q_goto (tgt := 9) dX8_flag_5 rfl ?_
    refine q_ireturn dX8_flag_9 ?_
    first | exact ⟨by rw [show q = 0 by omega], rfl⟩ | exact ⟨by rw [show q = 1 by omega], rfl⟩
set_option maxHeartbeats 1000000 in
theorem m_refuse (hq : q = 0 ∨ q = 1) (h0 : zR (M 37 0)) (hc : zR code) : qCt mX8_refuse 0 0 [.ref 37, .int (zI q), .int (zI code)] M (qpe (zb (rfW M q code 37 0 ≠ 0)) (rfW M q code)) := by
  refine q_intro (own := 8) (L := [some (.ref 37), some (.int (zI q)), some (.int (zI code))]) md_X8_refuse rfl rfl rfl (Nat.le_of_ble_eq_true rfl) (fun X => ?_)
  refine q_aload_n dX8_refuse_0 rfl ?_
  refine q_geti (j := 0) dX8_refuse_1 fl_8_57 rfl rfl rfl ?_
  refine q_if_ne (tgt := 16) dX8_refuse_4 rfl (by (first | (unfold zR; omega) | (unfold zLR; omega) | omega | (simp only [zR, qup] at *; omega) | (simp [zR, qup]; omega) | (simp [zR, qup]; done))) (fun h4 => ?_) (fun h4 => ?_)
  ·
    have e1 : rfW M q code = M := if_neg (fun w => h4 w.1)
    rw [e1]
    refine q_aload_n dX8_refuse_16 rfl ?_
    refine q_geti (j := 0) dX8_refuse_17 fl_8_57 rfl rfl rfl ?_
    refine q_if_eq (tgt := 27) dX8_refuse_20 rfl (by (first | (unfold zR; omega) | (unfold zLR; omega) | omega | (simp only [zR, qup] at *; omega) | (simp [zR, qup]; omega) | (simp [zR, qup]; done))) (fun h20 => ?_) (fun h20 => ?_)
    ·
      refine q_iconst dX8_refuse_27 ?_
      refine q_zreturn (by first | exact Or.inl rfl | exact Or.inr rfl) dX8_refuse_28 ?_
      first | (exfalso; omega) | exact ⟨by rw [zb_f (by omega)], rfl⟩ | exact ⟨by rw [zb_t (by omega)], rfl⟩
    ·
      refine q_iconst dX8_refuse_23 ?_
      refine q_goto (tgt := 28) dX8_refuse_24 rfl ?_
      refine q_zreturn (by first | exact Or.inl rfl | exact Or.inr rfl) dX8_refuse_28 ?_
      first | (exfalso; omega) | exact ⟨by rw [zb_f (by omega)], rfl⟩ | exact ⟨by rw [zb_t (by omega)], rfl⟩
  ·
    refine q_iload_n dX8_refuse_7 rfl ?_
    refine q_if_eq (tgt := 16) dX8_refuse_8 rfl (by (first | (unfold zR; omega) | (unfold zLR; omega) | omega | (simp only [zR, qup] at *; omega) | (simp [zR, qup]; omega) | (simp [zR, qup]; done))) (fun h8 => ?_) (fun h8 => ?_)
    ·
      have e1 : rfW M q code = M := if_neg (fun w => by omega)
      rw [e1]
      refine q_aload_n dX8_refuse_16 rfl ?_
      refine q_geti (j := 0) dX8_refuse_17 fl_8_57 rfl rfl rfl ?_
      refine q_if_eq (tgt := 27) dX8_refuse_20 rfl (by (first | (unfold zR; omega) | (unfold zLR; omega) | omega | (simp only [zR, qup] at *; omega) | (simp [zR, qup]; omega) | (simp [zR, qup]; done))) (fun h20 => ?_) (fun h20 => ?_)
      ·
        refine q_iconst dX8_refuse_27 ?_
        refine q_zreturn (by first | exact Or.inl rfl | exact Or.inr rfl) dX8_refuse_28 ?_
        first | (exfalso; omega) | exact ⟨by rw [zb_f (by omega)], rfl⟩ | exact ⟨by rw [zb_t (by omega)], rfl⟩
      ·
        refine q_iconst dX8_refuse_23 ?_
        refine q_goto (tgt := 28) dX8_refuse_24 rfl ?_
        refine q_zreturn (by first | exact Or.inl rfl | exact Or.inr rfl) dX8_refuse_28 ?_
        first | (exfalso; omega) | exact ⟨by rw [zb_f (by omega)], rfl⟩ | exact ⟨by rw [zb_t (by omega)], rfl⟩
    ·
      refine q_aload_n dX8_refuse_11 rfl ?_
      refine q_iload_n dX8_refuse_12 rfl ?_
      refine q_puti (j := 0) dX8_refuse_13 fl_8_57 rfl rfl rfl rfl rfl ?_
      have e1 : rfW M q code = qup M 37 0 code := if_pos ⟨by omega, by omega⟩
      rw [e1]
      refine q_aload_n dX8_refuse_16 rfl ?_
      refine q_geti (j := 0) dX8_refuse_17 fl_8_57 rfl rfl rfl ?_
      rw [qup_s]
      refine q_if_eq (tgt := 27) dX8_refuse_20 rfl (by (first | (unfold zR; omega) | (unfold zLR; omega) | omega | (simp only [zR, qup] at *; omega) | (simp [zR, qup]; omega) | (simp [zR, qup]; done))) (fun h20 => ?_) (fun h20 => ?_)
      ·
        refine q_iconst dX8_refuse_27 ?_
        refine q_zreturn (by first | exact Or.inl rfl | exact Or.inr rfl) dX8_refuse_28 ?_
        first | (exfalso; omega) | exact ⟨by rw [zb_f (by omega)], rfl⟩ | exact ⟨by rw [zb_t (by omega)], rfl⟩
      ·
        refine q_iconst dX8_refuse_23 ?_
        refine q_goto (tgt := 28) dX8_refuse_24 rfl ?_
        refine q_zreturn (by first | exact Or.inl rfl | exact Or.inr rfl) dX8_refuse_28 ?_
        first | (exfalso; omega) | exact ⟨by rw [zb_f (by omega)], rfl⟩ | exact ⟨by rw [zb_t (by omega)], rfl⟩
set_option maxHeartbeats 1000000 in
theorem m_noMaps (h1 : M 37 1 = 0 ∨ M 37 1 = 1) : qCt mX8_noMaps 0 1 [.ref 37] M (qpe (zb (M 37 1 ≠ 1)) (qup M 37 0 (if M 37 1 = 1 then 0 else 1))) := by
  refine q_intro (own := 8) (L := [some (.ref 37)]) md_X8_noMaps rfl rfl rfl (Nat.le_of_ble_eq_true rfl) (fun X => ?_)
  refine q_aload_n dX8_noMaps_0 rfl ?_
  refine q_iconst dX8_noMaps_1 ?_
  refine q_puti (j := 0) dX8_noMaps_2 fl_8_57 rfl rfl rfl rfl rfl ?_
  refine q_aload_n dX8_noMaps_5 rfl ?_
  refine q_aload_n dX8_noMaps_6 rfl ?_
  refine q_geti (j := 1) dX8_noMaps_7 fl_8_60 rfl rfl rfl ?_
  rw [show qup M 37 0 0 37 1 = M 37 1 by simp [qup]]
  refine q_if_ne (tgt := 17) dX8_noMaps_10 rfl (by (first | (unfold zR; omega) | (unfold zLR; omega) | omega | (simp only [zR, qup] at *; omega) | (simp [zR, qup]; omega) | (simp [zR, qup]; done))) (fun h10 => ?_) (fun h10 => ?_)
  ·
    refine q_iconst dX8_noMaps_17 ?_
    refine q_iconst dX8_noMaps_18 ?_
    refine q_V2 dX8_noMaps_19 ml_8_64 md_X8_refuse (m_refuse (by omega) (by rw [qup_s]; unfold zR; omega) (by (first | (unfold zR; omega) | (unfold zLR; omega) | omega | (simp only [zR, qup] at *; omega) | (simp [zR, qup]; omega) | (simp [zR, qup]; done)))) rfl rfl rfl (by first | decide | omega) (Nat.le_of_ble_eq_true rfl) (Nat.le_of_ble_eq_true rfl) (qk_e ?_)
    refine q_zreturn (by have := zb_01 (rfW (qup M 37 0 0) 1 1 37 0 ≠ 0); have := zb_01 (rfW (qup M 37 0 0) 0 1 37 0 ≠ 0); omega) dX8_noMaps_22 ?_
    have e : rfW (qup M 37 0 0) 0 1 = qup M 37 0 0 := if_neg (fun w => by have := w.2; omega)
    exact ⟨by rw [e, qup_s, zb_f (fun w => w rfl), zb_f (fun w => w (by omega))], by rw [e, if_pos (by omega)]⟩
  ·
    refine q_iconst dX8_noMaps_13 ?_
    refine q_goto (tgt := 18) dX8_noMaps_14 rfl ?_
    refine q_iconst dX8_noMaps_18 ?_
    refine q_V2 dX8_noMaps_19 ml_8_64 md_X8_refuse (m_refuse (by omega) (by rw [qup_s]; unfold zR; omega) (by (first | (unfold zR; omega) | (unfold zLR; omega) | omega | (simp only [zR, qup] at *; omega) | (simp [zR, qup]; omega) | (simp [zR, qup]; done)))) rfl rfl rfl (by first | decide | omega) (Nat.le_of_ble_eq_true rfl) (Nat.le_of_ble_eq_true rfl) (qk_e ?_)
    refine q_zreturn (by have := zb_01 (rfW (qup M 37 0 0) 1 1 37 0 ≠ 0); have := zb_01 (rfW (qup M 37 0 0) 0 1 37 0 ≠ 0); omega) dX8_noMaps_22 ?_
    have e : rfW (qup M 37 0 0) 1 1 = qup (qup M 37 0 0) 37 0 1 := if_pos ⟨qup_s _ _ _ _, rfl⟩
    have e2 : qup (qup M 37 0 0) 37 0 1 = qup M 37 0 1 := by funext o j; by_cases g : o = 37 ∧ j = 0 <;> simp [qup, g]
    exact ⟨by rw [e, qup_s, zb_t (by omega), zb_t (by omega)], by rw [e, e2, if_neg (by omega)]⟩
set_option maxHeartbeats 1000000 in
theorem m_isMap (h3 : 0 ≤ M 37 3 ∧ M 37 3 ≤ 6) (hk : zR k) : qCt mX8_isMap 0 1 [.ref 37, .int (zI k)] M (qpe (zb (0 ≤ k ∧ k < M 37 3)) M) := by
  refine q_intro (own := 8) (L := [some (.ref 37), some (.int (zI k))]) md_X8_isMap rfl rfl rfl (Nat.le_of_ble_eq_true rfl) (fun X => ?_)
  refine q_iload_n dX8_isMap_0 rfl ?_
  refine q_iconst dX8_isMap_1 ?_
  refine q_aload_n dX8_isMap_2 rfl ?_
  refine q_geti (j := 3) dX8_isMap_3 fl_8_68 rfl rfl rfl ?_
  refine q_iconst dX8_isMap_6 ?_
  refine q_isub dX8_isMap_7 ?_
  refine q_S3 dX8_isMap_8 ml_8_71 md_X8_in (m_in hk (by (first | (unfold zR; omega) | (unfold zLR; omega) | omega | (simp only [zR, qup] at *; omega) | (simp [zR, qup]; omega) | (simp [zR, qup]; done))) (by (first | (unfold zR; omega) | (unfold zLR; omega) | omega | (simp only [zR, qup] at *; omega) | (simp [zR, qup]; omega) | (simp [zR, qup]; done)))) rfl (by first | decide | omega) (Nat.le_of_ble_eq_true rfl) (Nat.le_of_ble_eq_true rfl) (qk_e ?_)
  refine q_zreturn (by exact zb_01 _) dX8_isMap_11 ?_
  exact ⟨by rw [zb_c (show (0 ≤ k ∧ k < M 37 3) ↔ (0 ≤ k ∧ k ≤ M 37 3 - 1) by omega)], rfl⟩
set_option maxHeartbeats 1000000 in
theorem m_blocks (h9 : M 37 9 = (L : Int)) (hl : 0 ≤ x ∧ x ≤ L ∧ L ≤ 4) : qCt mX8_blocks 0 0 [.ref 37, .int (zI x)] M (qpe (p4 ((L : Int) - x)) M) := by
  refine q_intro (own := 8) (L := [some (.ref 37), some (.int (zI x))]) md_X8_blocks rfl rfl rfl (Nat.le_of_ble_eq_true rfl) (fun X => ?_)
  refine q_iconst dX8_blocks_0 ?_
  refine q_iconst dX8_blocks_1 ?_
  refine q_aload_n dX8_blocks_2 rfl ?_
  refine q_geti (j := 9) dX8_blocks_3 fl_8_83 rfl rfl rfl ?_
  rw [h9]
  refine q_iload_n dX8_blocks_6 rfl ?_
  refine q_isub dX8_blocks_7 ?_
  refine q_imul dX8_blocks_8 ?_
  refine q_ishl dX8_blocks_9 ?_
  refine q_ireturn dX8_blocks_10 ?_
  exact ⟨by rw [p4_shl (by omega)], rfl⟩
set_option maxHeartbeats 1000000 in
theorem m_span (hl : 0 ≤ x ∧ x ≤ 4) : qCt mX8_span 0 0 [.int (zI x)] M (qpe (p4 x) M) := by
  refine q_intro (own := 8) (L := [some (.int (zI x))]) md_X8_span rfl rfl rfl (Nat.le_of_ble_eq_true rfl) (fun X => ?_)
  refine q_iconst dX8_span_0 ?_
  refine q_iconst dX8_span_1 ?_
  refine q_iload_n dX8_span_2 rfl ?_
  refine q_imul dX8_span_3 ?_
  refine q_ishl dX8_span_4 ?_
  refine q_ireturn dX8_span_5 ?_
  exact ⟨by rw [p4_shl (by omega)], rfl⟩
set_option maxHeartbeats 1000000 in
theorem m_bytesOfMap (h9 : M 37 9 = (L : Int)) (hl : L ≤ 4) : qCt mX8_bytesOfMap 0 0 [.ref 37] M (qpe (p4 L) M) := by
  refine q_intro (own := 8) (L := [some (.ref 37)]) md_X8_bytesOfMap rfl rfl rfl (Nat.le_of_ble_eq_true rfl) (fun X => ?_)
  refine q_iconst dX8_bytesOfMap_0 ?_
  refine q_iconst dX8_bytesOfMap_1 ?_
  refine q_aload_n dX8_bytesOfMap_2 rfl ?_
  refine q_geti (j := 9) dX8_bytesOfMap_3 fl_8_83 rfl rfl rfl ?_
  rw [h9]
  refine q_imul dX8_bytesOfMap_6 ?_
  refine q_ishl dX8_bytesOfMap_7 ?_
  refine q_ireturn dX8_bytesOfMap_8 ?_
  exact ⟨by rw [p4_shl (by omega)], rfl⟩
set_option maxHeartbeats 1000000 in
theorem m_bits (h9 : M 37 9 = (L : Int)) (hl : L ≤ 4) : qCt mX8_bits 0 1 [.ref 37] M (qpe (8 * p4 L) M) := by
  refine q_intro (own := 8) (L := [some (.ref 37)]) md_X8_bits rfl rfl rfl (Nat.le_of_ble_eq_true rfl) (fun X => ?_)
  refine q_bipush dX8_bits_0 rfl ?_
  refine q_aload_n dX8_bits_2 rfl ?_
  refine q_V0 dX8_bits_3 ml_8_86 md_X8_bytesOfMap (m_bytesOfMap h9 hl) rfl rfl rfl (by first | decide | omega) (Nat.le_of_ble_eq_true rfl) (Nat.le_of_ble_eq_true rfl) (qk_e ?_)
  refine q_imul dX8_bits_6 ?_
  refine q_ireturn dX8_bits_7 ?_
  exact ⟨rfl, rfl⟩
/-- where the blocks of a depth stand -/
def off : Nat → Int
  | 0 => 0
  | d + 1 => off d + p4 d
theorem off_in {d : Nat} (hd : d ≤ 4) {x : Int} (hx : 0 ≤ x ∧ x < p4 d) : 0 ≤ off d + x ∧ off d + x < 341 := by
  have : d = 0 ∨ d = 1 ∨ d = 2 ∨ d = 3 ∨ d = 4 := by omega
  rcases this with e | e | e | e | e <;> subst e <;> simp only [off, p4] at hx ⊢ <;> simp at hx ⊢ <;> omega
theorem off_inj {d d' : Nat} (hd : d ≤ 4) (hd' : d' ≤ 4) {x x' : Int} (hx : 0 ≤ x ∧ x < p4 d) (hx' : 0 ≤ x' ∧ x' < p4 d') (h : off d + x = off d' + x') : d = d' ∧ x = x' := by
  have : d = 0 ∨ d = 1 ∨ d = 2 ∨ d = 3 ∨ d = 4 := by omega
  have : d' = 0 ∨ d' = 1 ∨ d' = 2 ∨ d' = 3 ∨ d' = 4 := by omega
  have o1 : off 1 = 1 := by decide
  have o2 : off 2 = 5 := by decide
  have o3 : off 3 = 21 := by decide
  have o4 : off 4 = 85 := by decide
  have o0 : off 0 = 0 := rfl
  have q0 : p4 ((0 : Nat) : Int) = 1 := by decide
  have q1 : p4 ((1 : Nat) : Int) = 4 := by decide
  have q2 : p4 ((2 : Nat) : Int) = 16 := by decide
  have q3 : p4 ((3 : Nat) : Int) = 64 := by decide
  have q4 : p4 ((4 : Nat) : Int) = 256 := by decide
  rcases ‹d = 0 ∨ d = 1 ∨ d = 2 ∨ d = 3 ∨ d = 4› with e | e | e | e | e <;> rcases ‹d' = 0 ∨ d' = 1 ∨ d' = 2 ∨ d' = 3 ∨ d' = 4› with e' | e' | e' | e' | e' <;> subst e <;> subst e' <;> omega
theorem off_up : ∀ (n : Nat) (k : Nat), off (k + n) = off k + zsum (fun i => p4 i) k n := by
  intro n
  induction n with
  | zero => intro k; simp [zsum]
  | succ n ih =>
    intro k
    rw [show k + (n + 1) = (k + n) + 1 by omega, off, ih, zsum, show ((k + n : Nat) : Int) = (k : Int) + n by omega]
    omega
set_option maxHeartbeats 2000000 in
theorem m_spot (h9 : M 37 9 = (L : Int)) (hL : L ≤ 4) (hl : l ≤ L) (hx : 0 ≤ x ∧ x < p4 ((L - l : Nat) : Int)) : qCt mX8_spot 0 1 [.ref 37, .int (zI (l : Int)), .int (zI x)] M (qpe (off (L - l) + x) M) := by
  have hoi := off_in (d := L - l) (by omega) hx
  refine q_intro (own := 8) (L := [some (.ref 37), some (.int (zI (l : Int))), some (.int (zI x)), none, none]) md_X8_spot rfl rfl rfl (Nat.le_of_ble_eq_true rfl) (fun X => ?_)
  refine q_iload_n dX8_spot_0 rfl ?_
  refine q_istore_n dX8_spot_1 (Nat.le_of_ble_eq_true rfl) rfl ?_
  refine q_aload_n dX8_spot_2 rfl ?_
  refine q_geti (j := 9) dX8_spot_3 fl_8_83 rfl rfl rfl ?_
  rw [h9]
  refine q_istore dX8_spot_6 (Nat.le_of_ble_eq_true rfl) rfl ?_
  refine q_lp (fun i : Nat => L - l - i) (fun i => i ≤ L - l) (fun i => [some (.ref 37), some (.int (zI (l : Int))), some (.int (zI x)), some (.int (zI (off i + x))), some (.int (zI ((L : Int) - i)))]) (fun _ => M) 0 (by rw [show off 0 = 0 from rfl, Int.zero_add, show (L : Int) - ((0 : Nat) : Int) = L by omega]; rfl) rfl (by omega) (fun i hi ih => ?_)
  refine q_iload dX8_spot_8 rfl ?_
  refine q_iload_n dX8_spot_10 rfl ?_
  refine q_icmp_le (tgt := 29) dX8_spot_11 rfl (by (first | (unfold zR; omega) | (unfold zLR; omega) | omega | (simp only [zR, qup] at *; omega) | (simp [zR, qup]; omega) | (simp [zR, qup]; done))) (by (first | (unfold zR; omega) | (unfold zLR; omega) | omega | (simp only [zR, qup] at *; omega) | (simp [zR, qup]; omega) | (simp [zR, qup]; done))) (fun h11 => ?_) (fun h11 => ?_)
  rotate_left
  ·
    refine q_iload_n dX8_spot_14 rfl ?_
    refine q_aload_n dX8_spot_15 rfl ?_
    refine q_iload dX8_spot_16 rfl ?_
    refine q_V1 dX8_spot_18 ml_8_90 md_X8_blocks (m_blocks h9 (by omega)) rfl rfl rfl (by first | decide | omega) (Nat.le_of_ble_eq_true rfl) (Nat.le_of_ble_eq_true rfl) (qk_e ?_)
    rw [show (L : Int) - ((L : Int) - i) = i by omega]
    refine q_iadd dX8_spot_21 ?_
    refine q_istore_n dX8_spot_22 (Nat.le_of_ble_eq_true rfl) rfl ?_
    refine q_iinc dX8_spot_23 rfl (Nat.le_of_ble_eq_true rfl) rfl ?_
    refine q_goto (tgt := 8) dX8_spot_26 rfl ?_
    exact ih (i + 1) _ _ (by omega) (by omega) (by rw [show (L : Int) - ((i + 1 : Nat) : Int) = (L : Int) - i + -1 by omega, off, show off i + p4 i + x = off i + x + p4 i by omega]; rfl) rfl
  refine q_iload_n dX8_spot_29 rfl ?_
  refine q_ireturn dX8_spot_30 ?_
  exact ⟨by rw [show L - l = i by omega], rfl⟩
set_option maxHeartbeats 2000000 in
theorem m_isAll (hL : L ≤ 4) (hl : 0 ≤ y ∧ y ≤ L) (hx : 0 ≤ x ∧ x < p4 ((L : Int) - y)) (hv : zR v) (hc : ∀ k, 0 ≤ k → k < p4 L → zR (M 42 k)) : qCt mX8_isAll 0 1 [.ref 37, .int (zI y), .int (zI x), .int (zI v)] M (qpe (zb (allv (M 42) y x v)) M) := by
  have hbi := blk_in hL hl hx
  have hpin := p4_in (L : Int)
  have hpy := p4_in y
  refine q_intro (own := 8) (L := [some (.ref 37), some (.int (zI y)), some (.int (zI x)), some (.int (zI v)), none]) md_X8_isAll rfl rfl rfl (Nat.le_of_ble_eq_true rfl) (fun X => ?_)
  refine q_iconst dX8_isAll_0 ?_
  refine q_istore dX8_isAll_1 (Nat.le_of_ble_eq_true rfl) rfl ?_
  refine q_lp (fun i : Int => (p4 y - i).toNat) (fun i => 0 ≤ i ∧ i ≤ p4 y ∧ ∀ j, 0 ≤ j → j < i → M 42 (p4 y * x + j) = v) (fun i => [some (.ref 37), some (.int (zI y)), some (.int (zI x)), some (.int (zI v)), some (.int (zI i))]) (fun _ => M) 0 rfl rfl ⟨by omega, by omega, fun j q1 q2 => by omega⟩ (fun i hi ih => ?_)
  refine q_iload dX8_isAll_3 rfl ?_
  refine q_iload_n dX8_isAll_5 rfl ?_
  refine q_S1 dX8_isAll_6 ml_8_94 md_X8_span (m_span (by omega)) rfl (by first | decide | omega) (Nat.le_of_ble_eq_true rfl) (Nat.le_of_ble_eq_true rfl) (qk_e ?_)
  refine q_icmp_ge (tgt := 38) dX8_isAll_9 rfl (by (first | (unfold zR; omega) | (unfold zLR; omega) | omega | (simp only [zR, qup] at *; omega) | (simp [zR, qup]; omega) | (simp [zR, qup]; done))) (by (first | (unfold zR; omega) | (unfold zLR; omega) | omega | (simp only [zR, qup] at *; omega) | (simp [zR, qup]; omega) | (simp [zR, qup]; done))) (fun h9 => ?_) (fun h9 => ?_)
  rotate_left
  ·
    refine q_aload_n dX8_isAll_12 rfl ?_
    refine q_getr dX8_isAll_13 fl_8_23 rfl rfl ?_
    refine q_iload_n dX8_isAll_16 rfl ?_
    refine q_S1 dX8_isAll_17 ml_8_94 md_X8_span (m_span (by omega)) rfl (by first | decide | omega) (Nat.le_of_ble_eq_true rfl) (Nat.le_of_ble_eq_true rfl) (qk_e ?_)
    refine q_iload_n dX8_isAll_20 rfl ?_
    refine q_imul dX8_isAll_21 ?_
    refine q_iload dX8_isAll_22 rfl ?_
    refine q_iadd dX8_isAll_24 ?_
    refine q_iald dX8_isAll_25 rfl (by (first | (unfold zR; omega) | (unfold zLR; omega) | omega | (simp only [zR, qup] at *; omega) | (simp [zR, qup]; omega) | (simp [zR, qup]; done))) (Nat.le_of_ble_eq_true rfl) ?_
    have hz := hc (p4 y * x + i) (by omega) (by omega)
    refine q_iload_n dX8_isAll_26 rfl ?_
    refine q_icmp_eq (tgt := 32) dX8_isAll_27 rfl (by (first | (unfold zR; omega) | (unfold zLR; omega) | omega | (simp only [zR, qup] at *; omega) | (simp [zR, qup]; omega) | (simp [zR, qup]; done))) (by (first | (unfold zR; omega) | (unfold zLR; omega) | omega | (simp only [zR, qup] at *; omega) | (simp [zR, qup]; omega) | (simp [zR, qup]; done))) (fun h27 => ?_) (fun h27 => ?_)
    ·
      refine q_iinc dX8_isAll_32 rfl (Nat.le_of_ble_eq_true rfl) rfl ?_
      refine q_goto (tgt := 3) dX8_isAll_35 rfl ?_
      exact ih (i + 1) _ _ ⟨by omega, by omega, fun j q1 q2 => by
        by_cases q3 : j = i
        · subst q3; exact h27
        · exact hi.2.2 j q1 (by omega)⟩ (by omega) rfl rfl
    ·
      refine q_iconst dX8_isAll_30 ?_
      refine q_zreturn (by first | exact Or.inl rfl | exact Or.inr rfl) dX8_isAll_31 ?_
      exact ⟨by rw [zb_f (fun w => h27 (w i hi.1 h9))], rfl⟩
  refine q_iconst dX8_isAll_38 ?_
  refine q_zreturn (by first | exact Or.inl rfl | exact Or.inr rfl) dX8_isAll_39 ?_
  exact ⟨by rw [zb_t (p := allv (M 42) y x v) (fun j q1 q2 => hi.2.2 j q1 (by omega))], rfl⟩
set_option maxHeartbeats 2000000 in
theorem m_isSame (hL : L ≤ 4) (hl : 0 ≤ y ∧ y ≤ L) (ha : 0 ≤ a ∧ a < p4 ((L : Int) - y)) (hb : 0 ≤ b ∧ b < p4 ((L : Int) - y)) (hc : ∀ k, 0 ≤ k → k < p4 L → zR (M 42 k)) : qCt mX8_isSame 0 1 [.ref 37, .int (zI y), .int (zI a), .int (zI b)] M (qpe (zb (same (M 42) y a b)) M) := by
  have hbi := blk_in hL hl ha
  have hbj := blk_in hL hl hb
  have hpin := p4_in (L : Int)
  have hpy := p4_in y
  refine q_intro (own := 8) (L := [some (.ref 37), some (.int (zI y)), some (.int (zI a)), some (.int (zI b)), none]) md_X8_isSame rfl rfl rfl (Nat.le_of_ble_eq_true rfl) (fun X => ?_)
  refine q_iconst dX8_isSame_0 ?_
  refine q_istore dX8_isSame_1 (Nat.le_of_ble_eq_true rfl) rfl ?_
  refine q_lp (fun i : Int => (p4 y - i).toNat) (fun i => 0 ≤ i ∧ i ≤ p4 y ∧ ∀ j, 0 ≤ j → j < i → M 42 (p4 y * a + j) = M 42 (p4 y * b + j)) (fun i => [some (.ref 37), some (.int (zI y)), some (.int (zI a)), some (.int (zI b)), some (.int (zI i))]) (fun _ => M) 0 rfl rfl ⟨by omega, by omega, fun j q1 q2 => by omega⟩ (fun i hi ih => ?_)
  refine q_iload dX8_isSame_3 rfl ?_
  refine q_iload_n dX8_isSame_5 rfl ?_
  refine q_S1 dX8_isSame_6 ml_8_94 md_X8_span (m_span (by omega)) rfl (by first | decide | omega) (Nat.le_of_ble_eq_true rfl) (Nat.le_of_ble_eq_true rfl) (qk_e ?_)
  refine q_icmp_ge (tgt := 51) dX8_isSame_9 rfl (by (first | (unfold zR; omega) | (unfold zLR; omega) | omega | (simp only [zR, qup] at *; omega) | (simp [zR, qup]; omega) | (simp [zR, qup]; done))) (by (first | (unfold zR; omega) | (unfold zLR; omega) | omega | (simp only [zR, qup] at *; omega) | (simp [zR, qup]; omega) | (simp [zR, qup]; done))) (fun h9 => ?_) (fun h9 => ?_)
  rotate_left
  ·
    refine q_aload_n dX8_isSame_12 rfl ?_
    refine q_getr dX8_isSame_13 fl_8_23 rfl rfl ?_
    refine q_iload_n dX8_isSame_16 rfl ?_
    refine q_S1 dX8_isSame_17 ml_8_94 md_X8_span (m_span (by omega)) rfl (by first | decide | omega) (Nat.le_of_ble_eq_true rfl) (Nat.le_of_ble_eq_true rfl) (qk_e ?_)
    refine q_iload_n dX8_isSame_20 rfl ?_
    refine q_imul dX8_isSame_21 ?_
    refine q_iload dX8_isSame_22 rfl ?_
    refine q_iadd dX8_isSame_24 ?_
    refine q_iald dX8_isSame_25 rfl (by (first | (unfold zR; omega) | (unfold zLR; omega) | omega | (simp only [zR, qup] at *; omega) | (simp [zR, qup]; omega) | (simp [zR, qup]; done))) (Nat.le_of_ble_eq_true rfl) ?_
    refine q_aload_n dX8_isSame_26 rfl ?_
    refine q_getr dX8_isSame_27 fl_8_23 rfl rfl ?_
    refine q_iload_n dX8_isSame_30 rfl ?_
    refine q_S1 dX8_isSame_31 ml_8_94 md_X8_span (m_span (by omega)) rfl (by first | decide | omega) (Nat.le_of_ble_eq_true rfl) (Nat.le_of_ble_eq_true rfl) (qk_e ?_)
    refine q_iload_n dX8_isSame_34 rfl ?_
    refine q_imul dX8_isSame_35 ?_
    refine q_iload dX8_isSame_36 rfl ?_
    refine q_iadd dX8_isSame_38 ?_
    refine q_iald dX8_isSame_39 rfl (by (first | (unfold zR; omega) | (unfold zLR; omega) | omega | (simp only [zR, qup] at *; omega) | (simp [zR, qup]; omega) | (simp [zR, qup]; done))) (Nat.le_of_ble_eq_true rfl) ?_
    have hz1 := hc (p4 y * a + i) (by omega) (by omega)
    have hz2 := hc (p4 y * b + i) (by omega) (by omega)
    refine q_icmp_eq (tgt := 45) dX8_isSame_40 rfl (by (first | (unfold zR; omega) | (unfold zLR; omega) | omega | (simp only [zR, qup] at *; omega) | (simp [zR, qup]; omega) | (simp [zR, qup]; done))) (by (first | (unfold zR; omega) | (unfold zLR; omega) | omega | (simp only [zR, qup] at *; omega) | (simp [zR, qup]; omega) | (simp [zR, qup]; done))) (fun h40 => ?_) (fun h40 => ?_)
    ·
      refine q_iinc dX8_isSame_45 rfl (Nat.le_of_ble_eq_true rfl) rfl ?_
      refine q_goto (tgt := 3) dX8_isSame_48 rfl ?_
      exact ih (i + 1) _ _ ⟨by omega, by omega, fun j q1 q2 => by
        by_cases q3 : j = i
        · subst q3; exact h40
        · exact hi.2.2 j q1 (by omega)⟩ (by omega) rfl rfl
    ·
      refine q_iconst dX8_isSame_43 ?_
      refine q_zreturn (by first | exact Or.inl rfl | exact Or.inr rfl) dX8_isSame_44 ?_
      exact ⟨by rw [zb_f (fun w => h40 (w i hi.1 h9))], rfl⟩
  refine q_iconst dX8_isSame_51 ?_
  refine q_zreturn (by first | exact Or.inl rfl | exact Or.inr rfl) dX8_isSame_52 ?_
  exact ⟨by rw [zb_t (p := same (M 42) y a b) (fun j q1 q2 => hi.2.2 j q1 (by omega))], rfl⟩
end MA


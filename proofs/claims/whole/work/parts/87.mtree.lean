/-! The model: readsTree, readsBuffer; checks, read. -/
theorem MS_ka {A B : qM} (h : MS A B) : MS (kaW A) (kaW B) := by
  have h7 := h.2 7 (by omega)
  have h40 := h.1 40 (by decide) (by decide) (by decide) (by decide) (by decide) (by decide) (by decide) (by decide) (by decide)
  have h39 := h.1 39 (by decide) (by decide) (by decide) (by decide) (by decide) (by decide) (by decide) (by decide) (by decide)
  refine ⟨fun o a1 a2 a3 a4 a5 a6 a7 a8 a9 => ?_, fun k hk => ?_⟩
  · by_cases e : o = 40
    · subst e
      funext j
      rw [kaW_40, kaW_40, h7, h40, h39]
    · rw [kaW_o a1 e, kaW_o a1 e, h.1 o a1 a2 a3 a4 a5 a6 a7 a8 a9]
  · by_cases e : k = 7
    · subst e; rw [kaW_7, kaW_7, h7]
    · rw [kaW_37 e, kaW_37 e, h.2 k hk]
def srW (M : qM) (n : Int) : qM := fun o i => if o = 47 ∧ 0 ≤ i ∧ i < n then M 48 i else M o i
theorem srW_o {M : qM} {n : Int} {o : Nat} (h : o ≠ 47) : srW M n o = M o := by
  funext j
  unfold srW
  rw [if_neg (fun w => h w.1)]
section MRT
variable {M N : qM} {L l : Nat} {n k : Int} {src : Int → Int}
set_option maxHeartbeats 1500000 in
theorem m_readsTree (hL : L ≤ 4) (h9 : M 37 9 = (L : Int)) (h17 : M 37 17 = n) (hn : 0 ≤ n ∧ n ≤ 700) (hsr : ∀ i, 0 ≤ i → i < n → M 47 i = src i ∧ 0 ≤ src i ∧ src i < 256) : qCt mX8_readsTree 0 (2 + 2 * L) [.ref 37] M (qpg (fun z M' => (-1 ≤ z ∧ z ≤ n) ∧ z = (oj src L n).1 ∧ (∃ G P, M' = rdM M G P z) ∧ (z = -1 → ∀ k, 0 ≤ k → k < p4 L → (0 ≤ M' 42 k ∧ M' 42 k < 256) ∧ M' 42 k = (oj src L n).2 k))) := by
  refine q_intro (own := 8) (L := [some (.ref 37)]) md_X8_readsTree rfl rfl rfl (Nat.le_of_ble_eq_true rfl) (fun X => ?_)
  refine q_aload_n dX8_readsTree_0 rfl ?_
  refine q_iconst dX8_readsTree_1 ?_
  refine q_puti (j := 18) dX8_readsTree_2 fl_8_127 rfl rfl rfl rfl rfl ?_
  refine q_aload_n dX8_readsTree_5 rfl ?_
  refine q_iconst dX8_readsTree_6 ?_
  refine q_puti (j := 19) dX8_readsTree_7 fl_8_124 rfl rfl rfl rfl rfl ?_
  rw [show qup (qup M 37 18 0) 37 19 (-1) = rdM M (M 42) 0 (-1) by unfold rdM; rw [rowF_id]]
  refine q_aload_n dX8_readsTree_10 rfl ?_
  refine q_aload_n dX8_readsTree_11 rfl ?_
  refine q_geti (j := 9) dX8_readsTree_12 fl_8_83 rfl rfl rfl ?_
  rw [rdM_37 (by decide) (by decide), h9]
  refine q_iconst dX8_readsTree_15 ?_
  refine q_V2 dX8_readsTree_16 ml_8_149 md_X8_readsBlock (m_readsBlock hL h17 hn hsr L (Nat.le_refl L) 0 0 (M 42) (Int.le_refl 0) (by rw [show (L : Int) - L = 0 by omega]; decide) (Int.le_refl 0) hn.1) rfl rfl rfl (by first | decide | omega) (Nat.le_of_ble_eq_true rfl) (Nat.le_of_ble_eq_true rfl) (qk_h (fun N16 hq16 => ?_))
  obtain ⟨G, P, E, rfl, hR⟩ := hq16
  have hER : zR E ∧ 0 ≤ P ∧ P ≤ n := by rcases hR with h | h <;> (unfold zR; omega)
  rw [Int.mul_zero] at hR
  refine q_aload_n dX8_readsTree_19 rfl ?_
  refine q_geti (j := 18) dX8_readsTree_20 fl_8_127 rfl rfl rfl ?_
  rw [rdM_18]
  refine q_aload_n dX8_readsTree_23 rfl ?_
  refine q_geti (j := 17) dX8_readsTree_24 fl_8_130 rfl rfl rfl ?_
  rw [rdM_37 (by decide) (by decide), h17]
  refine q_icmp_ge (tgt := 38) dX8_readsTree_27 rfl (by (first | (unfold zR; omega) | (unfold zLR; omega) | omega | (simp only [zR, qup] at *; omega) | (simp [zR, qup]; omega) | (simp [zR, qup]; done))) (by (first | (unfold zR; omega) | (unfold zLR; omega) | omega | (simp only [zR, qup] at *; omega) | (simp [zR, qup]; omega) | (simp [zR, qup]; done))) (fun h27 => ?_) (fun h27 => ?_)
  ·
    refine q_aload_n dX8_readsTree_38 rfl ?_
    refine q_geti (j := 19) dX8_readsTree_39 fl_8_124 rfl rfl rfl ?_
    rw [rdM_19]
    refine q_ireturn dX8_readsTree_42 ?_
    refine ⟨E, rfl, ?_, ?_, ⟨G, P, rfl⟩, ?_⟩
    · rcases hR with h | h <;> omega
    · rcases hR with ⟨e1, e2, e3, g, e4, e5, e6⟩ | ⟨e1, e2, e3, e4, e5, e6⟩
      · unfold oj
        rw [e6, rfin, if_neg (by omega)]
        exact e1
      · unfold oj
        rw [e6]
        rfl
    · intro hz k k0 k1
      obtain ⟨e1, e2, e3, g, e4, e5, e6⟩ := hR.resolve_right (fun h => h.1 hz)
      rw [rdM_42, e5, fov_at ⟨k0, by omega⟩]
      refine ⟨e4 k k0 (by omega), ?_⟩
      unfold oj
      rw [e6, rfin, if_neg (by omega)]
      show g k = if 0 ≤ k ∧ k < p4 L then fov 0 (p4 L) g (fun _ => 0) k else 0
      rw [if_pos ⟨k0, k1⟩, fov_at ⟨k0, by omega⟩]
  ·
    refine q_aload_n dX8_readsTree_30 rfl ?_
    refine q_aload_n dX8_readsTree_31 rfl ?_
    refine q_geti (j := 18) dX8_readsTree_32 fl_8_127 rfl rfl rfl ?_
    rw [rdM_18]
    refine q_V1 dX8_readsTree_35 ml_8_133 md_X8_isWrongAt (m_isWrongAt hER.1) rfl rfl rfl (by first | decide | omega) (Nat.le_of_ble_eq_true rfl) (Nat.le_of_ble_eq_true rfl) (qk_v ?_)
    refine q_aload_n dX8_readsTree_38 rfl ?_
    refine q_geti (j := 19) dX8_readsTree_39 fl_8_124 rfl rfl rfl ?_
    rw [rdM_19]
    refine q_ireturn dX8_readsTree_42 ?_
    refine ⟨_, rfl, ?_, ?_, ⟨G, P, rfl⟩, ?_⟩
    · by_cases e : E = -1
      · rw [if_pos e]; omega
      · rw [if_neg e]; rcases hR with h | h <;> omega
    · rcases hR with ⟨e1, e2, e3, g, e4, e5, e6⟩ | ⟨e1, e2, e3, e4, e5, e6⟩
      · unfold oj
        rw [if_pos e1, e6, rfin, if_pos h27]
        rfl
      · unfold oj
        rw [e6, if_neg e1]
        rfl
    · intro hz
      exfalso
      by_cases e : E = -1
      · rw [if_pos e] at hz; omega
      · rw [if_neg e] at hz; exact e hz
set_option maxHeartbeats 1500000 in
theorem m_readsBuffer (hM : MI M) (hL : M 37 2 = (L : Int)) (hn : 0 ≤ n ∧ n ≤ M 37 21) : qCt mX8_readsBuffer 0 (3 + 2 * L) [.ref 37, .int (zI n)] M (qpg (fun z M' => (-1 ≤ z ∧ z ≤ n) ∧ z = (oj (M 48) L n).1 ∧ MS (qup M 37 21 0) M' ∧ M' 37 9 = (L : Int) ∧ (z = -1 → ∀ k, 0 ≤ k → k < p4 L → (0 ≤ M' 42 k ∧ M' 42 k < 256) ∧ M' 42 k = (oj (M 48) L n).2 k))) := by
  have hL4 : L ≤ 4 := by have := hM.2.1; omega
  have hb := hM.2.2.2.2.2.2.2.2.1
  have hbb := hM.2.2.2.2.2.2.2.2.2.1
  refine q_intro (own := 8) (L := [some (.ref 37), some (.int (zI n)), none]) md_X8_readsBuffer rfl rfl rfl (Nat.le_of_ble_eq_true rfl) (fun X => ?_)
  refine q_aload_n dX8_readsBuffer_0 rfl ?_
  refine q_aload_n dX8_readsBuffer_1 rfl ?_
  refine q_geti (j := 2) dX8_readsBuffer_2 fl_8_114 rfl rfl rfl ?_
  rw [hL]
  refine q_puti (j := 9) dX8_readsBuffer_5 fl_8_83 rfl rfl rfl rfl rfl ?_
  refine q_aload_n dX8_readsBuffer_8 rfl ?_
  refine q_iload_n dX8_readsBuffer_9 rfl ?_
  refine q_puti (j := 17) dX8_readsBuffer_10 fl_8_130 rfl rfl rfl rfl rfl ?_
  refine q_iconst dX8_readsBuffer_13 ?_
  refine q_istore_n dX8_readsBuffer_14 (Nat.le_of_ble_eq_true rfl) rfl ?_
  refine q_lp (fun i : Int => (n - i).toNat) (fun i => 0 ≤ i ∧ i ≤ n) (fun i => [some (.ref 37), some (.int (zI n)), some (.int (zI i))]) (fun i => srW (qup (qup M 37 9 (L : Int)) 37 17 n) i) 0 rfl (by funext u j; unfold srW; rw [if_neg (by omega)]) ⟨by omega, by omega⟩ (fun i hi ih => ?_)
  refine q_iload_n dX8_readsBuffer_15 rfl ?_
  refine q_iload_n dX8_readsBuffer_16 rfl ?_
  refine q_icmp_ge (tgt := 38) dX8_readsBuffer_17 rfl (by (first | (unfold zR; omega) | (unfold zLR; omega) | omega | (simp only [zR, qup] at *; omega) | (simp [zR, qup]; omega) | (simp [zR, qup]; done))) (by (first | (unfold zR; omega) | (unfold zLR; omega) | omega | (simp only [zR, qup] at *; omega) | (simp [zR, qup]; omega) | (simp [zR, qup]; done))) (fun h17 => ?_) (fun h17 => ?_)
  rotate_left
  ·
    refine q_aload_n dX8_readsBuffer_20 rfl ?_
    refine q_getr dX8_readsBuffer_21 fl_8_38 rfl rfl ?_
    refine q_iload_n dX8_readsBuffer_24 rfl ?_
    refine q_aload_n dX8_readsBuffer_25 rfl ?_
    refine q_getr dX8_readsBuffer_26 fl_8_41 rfl rfl ?_
    refine q_iload_n dX8_readsBuffer_29 rfl ?_
    refine q_iald dX8_readsBuffer_30 rfl (by (first | (unfold zR; omega) | (unfold zLR; omega) | omega | (simp only [zR, qup] at *; omega) | (simp [zR, qup]; omega) | (simp [zR, qup]; done))) (Nat.le_of_ble_eq_true rfl) ?_
    rw [srW_o (by decide), show qup (qup M 37 9 (L : Int)) 37 17 n 48 i = M 48 i by rw [qup_o _ _ _ _ (by decide), qup_o _ _ _ _ (by decide)]]
    refine q_iast dX8_readsBuffer_31 rfl (by (first | (unfold zR; omega) | (unfold zLR; omega) | omega | (simp only [zR, qup] at *; omega) | (simp [zR, qup]; omega) | (simp [zR, qup]; done))) (Nat.le_of_ble_eq_true rfl) ?_
    refine q_iinc dX8_readsBuffer_32 rfl (Nat.le_of_ble_eq_true rfl) rfl ?_
    refine q_goto (tgt := 15) dX8_readsBuffer_35 rfl ?_
    exact ih (i + 1) _ _ ⟨by omega, by omega⟩ (by omega) rfl (by
      funext u j
      by_cases g : u = 47
      · subst g
        by_cases g2 : j = i
        · subst g2; rw [qup_s]; unfold srW; rw [if_pos ⟨rfl, by omega, by omega⟩, qup_o _ _ _ _ (by decide), qup_o _ _ _ _ (by decide)]
        · rw [qup_k _ _ _ g2]; unfold srW
          by_cases g3 : 0 ≤ j ∧ j < i
          · rw [if_pos ⟨rfl, g3⟩, if_pos ⟨rfl, g3.1, by omega⟩]
          · rw [if_neg (fun w => g3 w.2), if_neg (by omega)]
      · rw [qup_o _ _ _ _ g]; unfold srW; rw [if_neg (fun w => g w.1), if_neg (fun w => g w.1)])
  have hin : i = n := by omega
  subst hin
  refine q_aload_n dX8_readsBuffer_38 rfl ?_
  refine q_iconst dX8_readsBuffer_39 ?_
  refine q_puti (j := 21) dX8_readsBuffer_40 fl_8_152 rfl rfl rfl rfl rfl ?_
  refine q_aload_n dX8_readsBuffer_43 rfl ?_
  have w37 : ∀ j, j ≠ 9 → j ≠ 17 → j ≠ 21 → qup (srW (qup (qup M 37 9 (L : Int)) 37 17 i) i) 37 21 0 37 j = M 37 j := fun j a1 a2 a3 => by rw [qup_k _ _ _ a3, srW_o (by decide), qup_k _ _ _ a2, qup_k _ _ _ a1]
  have wo : ∀ u : Nat, u ≠ 37 → u ≠ 47 → qup (srW (qup (qup M 37 9 (L : Int)) 37 17 i) i) 37 21 0 u = M u := fun u a1 a2 => by funext j; rw [qup_o _ _ _ _ a1, srW_o a2, qup_o _ _ _ _ a1, qup_o _ _ _ _ a1]
  have w9 : qup (srW (qup (qup M 37 9 (L : Int)) 37 17 i) i) 37 21 0 37 9 = (L : Int) := by rw [qup_k _ _ _ (by decide), srW_o (by decide), qup_k _ _ _ (by decide), qup_s]
  have w17 : qup (srW (qup (qup M 37 9 (L : Int)) 37 17 i) i) 37 21 0 37 17 = i := by rw [qup_k _ _ _ (by decide), srW_o (by decide), qup_s]
  have w47 : ∀ j, 0 ≤ j → j < i → qup (srW (qup (qup M 37 9 (L : Int)) 37 17 i) i) 37 21 0 47 j = M 48 j ∧ 0 ≤ M 48 j ∧ M 48 j < 256 := fun j j0 j1 => by
    refine ⟨?_, hbb j j0 (by omega)⟩
    rw [qup_o _ _ _ _ (by decide)]
    unfold srW
    rw [if_pos ⟨rfl, j0, j1⟩, qup_o _ _ _ _ (by decide), qup_o _ _ _ _ (by decide)]
  have wMS : MS (qup M 37 21 0) (qup (srW (qup (qup M 37 9 (L : Int)) 37 17 i) i) 37 21 0) := by
    refine ⟨fun u a1 _ _ _ _ _ a7 _ _ => ?_, fun k hk => ?_⟩
    · rw [wo u a1 a7]; funext j; rw [qup_o _ _ _ _ a1]
    · by_cases e : k = 21
      · subst e; rw [qup_s, qup_s]
      · rw [w37 k (by omega) (by omega) e, qup_k _ _ _ e]
  generalize qup (srW (qup (qup M 37 9 (L : Int)) 37 17 i) i) 37 21 0 = W at w9 w17 w47 wMS
  refine q_V0 dX8_readsBuffer_44 ml_8_243 md_X8_readsTree (m_readsTree (src := M 48) hL4 w9 w17 ⟨by omega, by omega⟩ w47) rfl rfl rfl (by first | decide | omega) (Nat.le_of_ble_eq_true rfl) (Nat.le_of_ble_eq_true rfl) (qk_g (fun z44 N44 hq44 => ?_))
  refine q_ireturn dX8_readsBuffer_47 ?_
  obtain ⟨z1, z2, ⟨G, P, rfl⟩, z4⟩ := hq44
  exact ⟨_, rfl, z1, z2, MS_tr wMS rdM_MS, by rw [rdM_37 (by decide) (by decide)]; exact w9, z4⟩
def gBm (M : qM) (n : Int) : Int := if 0 ≤ n ∧ n ≤ M 37 21 then 0 else 2
set_option maxHeartbeats 1500000 in
theorem o_checks (hM : MI M) (hL : M 37 2 = (L : Int)) (hn : zR n) : qCt mX8_checks 0 12 [.ref 37, .int (zI n)] M (mpx (gor (mT M) (gBm M n)) (fun z M' => z = (oj (M 48) L n).1 ∧ MS (qup (qup M 37 0 0) 37 21 0) M') M) := by
  have hL4 : L ≤ 4 := by have := hM.2.1; omega
  have hb := hM.2.2.2.2.2.2.2.2.1
  have z01 := zb_01 (0 ≤ n ∧ n ≤ M 37 21)
  have e21 : ∀ g, qup M 37 0 g 37 21 = M 37 21 := fun g => qup_k _ _ _ (by decide)
  refine q_intro (own := 8) (L := [some (.ref 37), some (.int (zI n))]) md_X8_checks rfl rfl rfl (Nat.le_of_ble_eq_true rfl) (fun X => ?_)
  refine q_aload_n dX8_checks_0 rfl ?_
  refine q_V0 dX8_checks_1 ml_8_75 md_X8_noMaps (m_noMapsT hM.1) rfl rfl rfl (by first | decide | omega) (Nat.le_of_ble_eq_true rfl) (Nat.le_of_ble_eq_true rfl) (qk_e ?_)
  refine q_if_ne (tgt := 32) dX8_checks_4 rfl (by exact zb_R _) (fun h4 => ?_) (fun h4 => ?_)
  ·
    refine q_iconst dX8_checks_32 ?_
    refine q_goto (tgt := 41) dX8_checks_33 rfl ?_
    refine q_ireturn dX8_checks_41 ?_
    exact mpx_g2 (zbn h4)
  ·
    refine q_aload_n dX8_checks_7 rfl ?_
    refine q_iload_n dX8_checks_8 rfl ?_
    refine q_iconst dX8_checks_9 ?_
    refine q_aload_n dX8_checks_10 rfl ?_
    refine q_geti (j := 21) dX8_checks_11 fl_8_152 rfl rfl rfl ?_
    rw [e21]
    refine q_S3 dX8_checks_14 ml_8_71 md_X8_in (m_in hn (by (first | (unfold zR; omega) | (unfold zLR; omega) | omega | (simp only [zR, qup] at *; omega) | (simp [zR, qup]; omega) | (simp [zR, qup]; done))) (by (first | (unfold zR; omega) | (unfold zLR; omega) | omega | (simp only [zR, qup] at *; omega) | (simp [zR, qup]; omega) | (simp [zR, qup]; done)))) rfl (by first | decide | omega) (Nat.le_of_ble_eq_true rfl) (Nat.le_of_ble_eq_true rfl) (qk_e ?_)
    refine q_if_ne (tgt := 24) dX8_checks_17 rfl (by exact zb_R _) (fun h17 => ?_) (fun h17 => ?_)
    ·
      refine q_iconst dX8_checks_24 ?_
      refine q_iconst dX8_checks_25 ?_
      have hgb : (if (0 : Int) = 1 then (2 : Int) else 0) = gBm M n := (if_pos (zb_1.1 (by omega))).symm
      refine q_V2 dX8_checks_26 ml_8_64 md_X8_refuse (m_refH (by omega) (mT_R M) (by (first | (unfold zR; omega) | (unfold zLR; omega) | omega | (simp only [zR, qup] at *; omega) | (simp [zR, qup]; omega) | (simp [zR, qup]; done))) hgb) rfl rfl rfl (by first | decide | omega) (Nat.le_of_ble_eq_true rfl) (Nat.le_of_ble_eq_true rfl) (qk_e ?_)
      refine q_if_eq (tgt := 36) dX8_checks_29 rfl (by exact zb_R _) (fun h29 => ?_) (fun h29 => ?_)
      ·
        refine q_aload_n dX8_checks_36 rfl ?_
        refine q_iload_n dX8_checks_37 rfl ?_
        have hg := zbz h29
        have hnn : 0 ≤ n ∧ n ≤ M 37 21 := Classical.byContradiction fun q => by have h := (gor_00.1 hg).2; unfold gBm at h; rw [if_neg q] at h; omega
        have h48 : qup M 37 0 0 48 = M 48 := by funext j; exact qup_o _ _ _ _ (by decide)
        rw [hg]
        refine q_V1 dX8_checks_38 ml_8_283 md_X8_readsBuffer (m_readsBuffer (MI_g hM 0) (by rw [qup_k _ _ _ (by decide)]; exact hL) (by rw [e21]; exact hnn)) rfl rfl rfl (by first | decide | omega) (Nat.le_of_ble_eq_true rfl) (Nat.le_of_ble_eq_true rfl) (qk_g (fun z38 N38 hq38 => ?_))
        refine q_ireturn dX8_checks_41 ?_
        rw [h48] at hq38
        exact mpx_k rfl ⟨hq38.2.1, hq38.2.2.1⟩
      ·
        refine q_iconst dX8_checks_32 ?_
        refine q_goto (tgt := 41) dX8_checks_33 rfl ?_
        refine q_ireturn dX8_checks_41 ?_
        exact mpx_g (zbn h29)
    ·
      refine q_iconst dX8_checks_20 ?_
      refine q_goto (tgt := 25) dX8_checks_21 rfl ?_
      refine q_iconst dX8_checks_25 ?_
      have hgb : (if (1 : Int) = 1 then (2 : Int) else 0) = gBm M n := (if_neg (zb_0.1 (by omega))).symm
      refine q_V2 dX8_checks_26 ml_8_64 md_X8_refuse (m_refH (by omega) (mT_R M) (by (first | (unfold zR; omega) | (unfold zLR; omega) | omega | (simp only [zR, qup] at *; omega) | (simp [zR, qup]; omega) | (simp [zR, qup]; done))) hgb) rfl rfl rfl (by first | decide | omega) (Nat.le_of_ble_eq_true rfl) (Nat.le_of_ble_eq_true rfl) (qk_e ?_)
      refine q_if_eq (tgt := 36) dX8_checks_29 rfl (by exact zb_R _) (fun h29 => ?_) (fun h29 => ?_)
      ·
        refine q_aload_n dX8_checks_36 rfl ?_
        refine q_iload_n dX8_checks_37 rfl ?_
        have hg := zbz h29
        have hnn : 0 ≤ n ∧ n ≤ M 37 21 := Classical.byContradiction fun q => by have h := (gor_00.1 hg).2; unfold gBm at h; rw [if_neg q] at h; omega
        have h48 : qup M 37 0 0 48 = M 48 := by funext j; exact qup_o _ _ _ _ (by decide)
        rw [hg]
        refine q_V1 dX8_checks_38 ml_8_283 md_X8_readsBuffer (m_readsBuffer (MI_g hM 0) (by rw [qup_k _ _ _ (by decide)]; exact hL) (by rw [e21]; exact hnn)) rfl rfl rfl (by first | decide | omega) (Nat.le_of_ble_eq_true rfl) (Nat.le_of_ble_eq_true rfl) (qk_g (fun z38 N38 hq38 => ?_))
        refine q_ireturn dX8_checks_41 ?_
        rw [h48] at hq38
        exact mpx_k rfl ⟨hq38.2.1, hq38.2.2.1⟩
      ·
        refine q_iconst dX8_checks_32 ?_
        refine q_goto (tgt := 41) dX8_checks_33 rfl ?_
        refine q_ireturn dX8_checks_41 ?_
        exact mpx_g (zbn h29)
/-- what read leaves -/
def rdQ (M : qM) (L : Nat) (k n : Int) : Int → qM → Prop := fun z M' => (gor (gG M k) (gBm M n) ≠ 0 ∧ MS (qup M 37 0 (gor (gG M k) (gBm M n))) M') ∨ (gor (gG M k) (gBm M n) = 0 ∧ (oj (M 48) L n).1 ≠ -1 ∧ MS (qup (qup M 37 0 3) 37 21 0) M') ∨ (gor (gG M k) (gBm M n) = 0 ∧ (oj (M 48) L n).1 = -1 ∧ z = zsum (bitP (oj (M 48) L n).2) 0 (8 * p4 L).toNat ∧ (∀ i, 0 ≤ i → i < p4 L → 0 ≤ (oj (M 48) L n).2 i ∧ (oj (M 48) L n).2 i < 256) ∧ MS (putF (kaW (qup (qup M 37 0 0) 37 21 0)) k L (oj (M 48) L n).2) M')
set_option maxHeartbeats 1500000 in
theorem o_read (hM : MI M) (hL : M 37 2 = (L : Int)) (hk : zR k) (hn : zR n) : qCt mX8_read 0 12 [.ref 37, .int (zI k), .int (zI n)] M (qpg (rdQ M L k n)) := by
  have hL4 : L ≤ 4 := by have := hM.2.1; omega
  have hpL := p4_in (L : Int)
  have hb := hM.2.2.2.2.2.2.2.2.1
  have z01 := zb_01 (0 ≤ n ∧ n ≤ M 37 21)
  have e21 : ∀ g, qup M 37 0 g 37 21 = M 37 21 := fun g => qup_k _ _ _ (by decide)
  refine q_intro (own := 8) (L := [some (.ref 37), some (.int (zI k)), some (.int (zI n)), none]) md_X8_read rfl rfl rfl (Nat.le_of_ble_eq_true rfl) (fun X => ?_)
  refine q_aload_n dX8_read_0 rfl ?_
  refine q_iload_n dX8_read_1 rfl ?_
  refine q_V1 dX8_read_2 ml_8_292 md_X8_noMap (m_noMap hM.1 hM.2.2.2.1 hk) rfl rfl rfl (by first | decide | omega) (Nat.le_of_ble_eq_true rfl) (Nat.le_of_ble_eq_true rfl) (qk_e ?_)
  refine q_if_ne (tgt := 33) dX8_read_5 rfl (by exact zb_R _) (fun h5 => ?_) (fun h5 => ?_)
  ·
    refine q_iconst dX8_read_33 ?_
    refine q_ireturn dX8_read_34 ?_
    have h : gG M k ≠ 0 := zbn h5
    exact ⟨0, rfl, Or.inl ⟨by rw [gor_n h]; exact h, by rw [gor_n h]; exact MS_rf _⟩⟩
  ·
    refine q_aload_n dX8_read_8 rfl ?_
    refine q_iload_n dX8_read_9 rfl ?_
    refine q_iconst dX8_read_10 ?_
    refine q_aload_n dX8_read_11 rfl ?_
    refine q_geti (j := 21) dX8_read_12 fl_8_152 rfl rfl rfl ?_
    rw [e21]
    refine q_S3 dX8_read_15 ml_8_71 md_X8_in (m_in hn (by (first | (unfold zR; omega) | (unfold zLR; omega) | omega | (simp only [zR, qup] at *; omega) | (simp [zR, qup]; omega) | (simp [zR, qup]; done))) (by (first | (unfold zR; omega) | (unfold zLR; omega) | omega | (simp only [zR, qup] at *; omega) | (simp [zR, qup]; omega) | (simp [zR, qup]; done)))) rfl (by first | decide | omega) (Nat.le_of_ble_eq_true rfl) (Nat.le_of_ble_eq_true rfl) (qk_e ?_)
    refine q_if_ne (tgt := 25) dX8_read_18 rfl (by exact zb_R _) (fun h18 => ?_) (fun h18 => ?_)
    ·
      refine q_iconst dX8_read_25 ?_
      refine q_iconst dX8_read_26 ?_
      have hgb : (if (0 : Int) = 1 then (2 : Int) else 0) = gBm M n := (if_pos (zb_1.1 (by omega))).symm
      refine q_V2 dX8_read_27 ml_8_64 md_X8_refuse (m_refH (by omega) (gor_R (mT_R M) mMp_R) (by (first | (unfold zR; omega) | (unfold zLR; omega) | omega | (simp only [zR, qup] at *; omega) | (simp [zR, qup]; omega) | (simp [zR, qup]; done))) hgb) rfl rfl rfl (by first | decide | omega) (Nat.le_of_ble_eq_true rfl) (Nat.le_of_ble_eq_true rfl) (qk_e ?_)
      refine q_if_eq (tgt := 35) dX8_read_30 rfl (by exact zb_R _) (fun h30 => ?_) (fun h30 => ?_)
      ·
        have hg := zbz h30
        have hg2 := gor_00.1 hg
        have hgk := gG_0 hM hg2.1
        have hnn : 0 ≤ n ∧ n ≤ M 37 21 := Classical.byContradiction fun q => by have h := hg2.2; unfold gBm at h; rw [if_neg q] at h; omega
        have h48 : qup M 37 0 0 48 = M 48 := by funext j; exact qup_o _ _ _ _ (by decide)
        rw [hg]
        refine q_aload_n dX8_read_35 rfl ?_
        refine q_iload_n dX8_read_36 rfl ?_
        refine q_V1 dX8_read_37 ml_8_283 md_X8_readsBuffer (m_readsBuffer (MI_g hM 0) (by rw [qup_k _ _ _ (by decide)]; exact hL) (by rw [e21]; exact hnn)) rfl rfl rfl (by first | decide | omega) (Nat.le_of_ble_eq_true rfl) (Nat.le_of_ble_eq_true rfl) (qk_g (fun z37 N37 hq37 => ?_))
        rw [h48] at hq37
        obtain ⟨hz1, hz2, hz3, hz4, hz5⟩ := hq37
        have h370 : N37 37 0 = 0 := by rw [hz3.2 0 (by omega), qup_k _ _ _ (by decide), qup_s]
        have h377 : N37 37 7 = M 37 7 := by rw [hz3.2 7 (by omega), qup_k _ _ _ (by decide), qup_k _ _ _ (by decide)]
        refine q_istore_n dX8_read_40 (Nat.le_of_ble_eq_true rfl) rfl ?_
        refine q_aload_n dX8_read_41 rfl ?_
        refine q_iload_n dX8_read_42 rfl ?_
        refine q_iconst dX8_read_43 ?_
        refine q_icmp_eq (tgt := 51) dX8_read_44 rfl (by (first | (unfold zR; omega) | (unfold zLR; omega) | omega | (simp only [zR, qup] at *; omega) | (simp [zR, qup]; omega) | (simp [zR, qup]; done))) (by (first | (unfold zR; omega) | (unfold zLR; omega) | omega | (simp only [zR, qup] at *; omega) | (simp [zR, qup]; omega) | (simp [zR, qup]; done))) (fun h44 => ?_) (fun h44 => ?_)
        ·
          refine q_iconst dX8_read_51 ?_
          refine q_iconst dX8_read_52 ?_
          refine q_V2 dX8_read_53 ml_8_64 md_X8_refuse (m_refuse (by omega) (by rw [h370]; (first | (unfold zR; omega) | (unfold zLR; omega) | omega | (simp only [zR, qup] at *; omega) | (simp [zR, qup]; omega) | (simp [zR, qup]; done))) (by (first | (unfold zR; omega) | (unfold zLR; omega) | omega | (simp only [zR, qup] at *; omega) | (simp [zR, qup]; omega) | (simp [zR, qup]; done)))) rfl rfl rfl (by first | decide | omega) (Nat.le_of_ble_eq_true rfl) (Nat.le_of_ble_eq_true rfl) (qk_e ?_)
          rw [show rfW N37 0 3 = N37 from if_neg (by omega), h370]
          refine q_if_eq (tgt := 61) dX8_read_56 rfl (by exact zb_R _) (fun h56 => ?_) (fun h56 => ?_)
          ·
            have hzz : z37 = -1 := h44
            refine q_aload_n dX8_read_61 rfl ?_
            refine q_V0 dX8_read_62 ml_8_390 md_X8_keepsAll (m_keepsAll (by rw [h377]; exact hM.2.2.2.2.2.2.1)) rfl rfl rfl (by first | decide | omega) (Nat.le_of_ble_eq_true rfl) (Nat.le_of_ble_eq_true rfl) (qk_v ?_)
            refine q_aload_n dX8_read_65 rfl ?_
            refine q_iload_n dX8_read_66 rfl ?_
            refine q_V1 dX8_read_67 ml_8_393 md_X8_puts (m_puts (L := L) (by rw [kaW_37 (by decide)]; exact hz4) hL4 (by omega)) rfl rfl rfl (by first | decide | omega) (Nat.le_of_ble_eq_true rfl) (Nat.le_of_ble_eq_true rfl) (qk_v ?_)
            have hz6 := hz5 hzz
            have hE : cE (kaW N37 42) (oj (M 48) L n).2 L := fun i i0 i1 => by rw [kaW_o (by decide) (by decide)]; exact (hz6 i i0 i1).2
            refine q_aload_n dX8_read_70 rfl ?_
            refine q_iconst dX8_read_71 ?_
            refine q_aload_n dX8_read_72 rfl ?_
            refine q_V0 dX8_read_73 ml_8_225 md_X8_bits (m_bits (L := L) (by rw [putW_37, kaW_37 (by decide)]; exact hz4) hL4) rfl rfl rfl (by first | decide | omega) (Nat.le_of_ble_eq_true rfl) (Nat.le_of_ble_eq_true rfl) (qk_e ?_)
            refine q_iconst dX8_read_76 ?_
            refine q_isub dX8_read_77 ?_
            refine q_V2 dX8_read_78 ml_8_305 md_X8_onesIn (m_onesIn (Int.le_refl 0) (by omega) (fun p p0 p1 => by rw [putW_42, kaW_o (by decide) (by decide)]; exact (hz6 _ (by omega) (by omega)).1) (by omega)) rfl rfl rfl (by first | decide | omega) (Nat.le_of_ble_eq_true rfl) (Nat.le_of_ble_eq_true rfl) (qk_e ?_)
            rw [show 8 * p4 (L : Int) - 1 - 0 + 1 = 8 * p4 (L : Int) by omega, putW_42]
            refine q_ireturn dX8_read_81 ?_
            refine ⟨_, rfl, Or.inr (Or.inr ⟨hg, by rw [← hz2]; exact hzz, zsum_bit_e hE (Int.le_refl 0) (by omega), fun i i0 i1 => by rw [← (hz6 i i0 i1).2]; exact (hz6 i i0 i1).1, MS_put (MS_ka hz3) hE⟩)⟩
          ·
            refine q_iconst dX8_read_59 ?_
            refine q_ireturn dX8_read_60 ?_
            exact absurd rfl (zbn h56)
        ·
          refine q_iconst dX8_read_47 ?_
          refine q_goto (tgt := 52) dX8_read_48 rfl ?_
          refine q_iconst dX8_read_52 ?_
          refine q_V2 dX8_read_53 ml_8_64 md_X8_refuse (m_refuse (by omega) (by rw [h370]; (first | (unfold zR; omega) | (unfold zLR; omega) | omega | (simp only [zR, qup] at *; omega) | (simp [zR, qup]; omega) | (simp [zR, qup]; done))) (by (first | (unfold zR; omega) | (unfold zLR; omega) | omega | (simp only [zR, qup] at *; omega) | (simp [zR, qup]; omega) | (simp [zR, qup]; done)))) rfl rfl rfl (by first | decide | omega) (Nat.le_of_ble_eq_true rfl) (Nat.le_of_ble_eq_true rfl) (qk_e ?_)
          rw [show rfW N37 1 3 = qup N37 37 0 3 from if_pos ⟨h370, rfl⟩, qup_s]
          refine q_if_eq (tgt := 61) dX8_read_56 rfl (by exact zb_R _) (fun h56 => ?_) (fun h56 => ?_)
          ·
            exact absurd (zbz h56) (by decide)
          ·
            refine q_iconst dX8_read_59 ?_
            refine q_ireturn dX8_read_60 ?_
            refine ⟨0, rfl, Or.inr (Or.inl ⟨hg, by rw [← hz2]; exact h44, ?_⟩)⟩
            refine ⟨fun u a1 a2 a3 a4 a5 a6 a7 a8 a9 => ?_, fun j hj => ?_⟩
            · have h := hz3.1 u a1 a2 a3 a4 a5 a6 a7 a8 a9
              funext i
              rw [qup_o _ _ _ _ a1, h, qup_o _ _ _ _ a1, qup_o _ _ _ _ a1, qup_o _ _ _ _ a1, qup_o _ _ _ _ a1]
            · by_cases e : j = 0
              · subst e; rw [qup_s, qup_k _ _ _ (by decide), qup_s]
              · rw [qup_k _ _ _ e, hz3.2 j hj]
                by_cases e2 : j = 21
                · subst e2; rw [qup_s, qup_s]
                · rw [qup_k _ _ _ e2, qup_k _ _ _ e2, qup_k _ _ _ e, qup_k _ _ _ e]
      ·
        refine q_iconst dX8_read_33 ?_
        refine q_ireturn dX8_read_34 ?_
        exact ⟨0, rfl, Or.inl ⟨zbn h30, MS_rf _⟩⟩
    ·
      refine q_iconst dX8_read_21 ?_
      refine q_goto (tgt := 26) dX8_read_22 rfl ?_
      refine q_iconst dX8_read_26 ?_
      have hgb : (if (1 : Int) = 1 then (2 : Int) else 0) = gBm M n := (if_neg (zb_0.1 (by omega))).symm
      refine q_V2 dX8_read_27 ml_8_64 md_X8_refuse (m_refH (by omega) (gor_R (mT_R M) mMp_R) (by (first | (unfold zR; omega) | (unfold zLR; omega) | omega | (simp only [zR, qup] at *; omega) | (simp [zR, qup]; omega) | (simp [zR, qup]; done))) hgb) rfl rfl rfl (by first | decide | omega) (Nat.le_of_ble_eq_true rfl) (Nat.le_of_ble_eq_true rfl) (qk_e ?_)
      refine q_if_eq (tgt := 35) dX8_read_30 rfl (by exact zb_R _) (fun h30 => ?_) (fun h30 => ?_)
      ·
        have hg := zbz h30
        have hg2 := gor_00.1 hg
        have hgk := gG_0 hM hg2.1
        have hnn : 0 ≤ n ∧ n ≤ M 37 21 := Classical.byContradiction fun q => by have h := hg2.2; unfold gBm at h; rw [if_neg q] at h; omega
        have h48 : qup M 37 0 0 48 = M 48 := by funext j; exact qup_o _ _ _ _ (by decide)
        rw [hg]
        refine q_aload_n dX8_read_35 rfl ?_
        refine q_iload_n dX8_read_36 rfl ?_
        refine q_V1 dX8_read_37 ml_8_283 md_X8_readsBuffer (m_readsBuffer (MI_g hM 0) (by rw [qup_k _ _ _ (by decide)]; exact hL) (by rw [e21]; exact hnn)) rfl rfl rfl (by first | decide | omega) (Nat.le_of_ble_eq_true rfl) (Nat.le_of_ble_eq_true rfl) (qk_g (fun z37 N37 hq37 => ?_))
        rw [h48] at hq37
        obtain ⟨hz1, hz2, hz3, hz4, hz5⟩ := hq37
        have h370 : N37 37 0 = 0 := by rw [hz3.2 0 (by omega), qup_k _ _ _ (by decide), qup_s]
        have h377 : N37 37 7 = M 37 7 := by rw [hz3.2 7 (by omega), qup_k _ _ _ (by decide), qup_k _ _ _ (by decide)]
        refine q_istore_n dX8_read_40 (Nat.le_of_ble_eq_true rfl) rfl ?_
        refine q_aload_n dX8_read_41 rfl ?_
        refine q_iload_n dX8_read_42 rfl ?_
        refine q_iconst dX8_read_43 ?_
        refine q_icmp_eq (tgt := 51) dX8_read_44 rfl (by (first | (unfold zR; omega) | (unfold zLR; omega) | omega | (simp only [zR, qup] at *; omega) | (simp [zR, qup]; omega) | (simp [zR, qup]; done))) (by (first | (unfold zR; omega) | (unfold zLR; omega) | omega | (simp only [zR, qup] at *; omega) | (simp [zR, qup]; omega) | (simp [zR, qup]; done))) (fun h44 => ?_) (fun h44 => ?_)
        ·
          refine q_iconst dX8_read_51 ?_
          refine q_iconst dX8_read_52 ?_
          refine q_V2 dX8_read_53 ml_8_64 md_X8_refuse (m_refuse (by omega) (by rw [h370]; (first | (unfold zR; omega) | (unfold zLR; omega) | omega | (simp only [zR, qup] at *; omega) | (simp [zR, qup]; omega) | (simp [zR, qup]; done))) (by (first | (unfold zR; omega) | (unfold zLR; omega) | omega | (simp only [zR, qup] at *; omega) | (simp [zR, qup]; omega) | (simp [zR, qup]; done)))) rfl rfl rfl (by first | decide | omega) (Nat.le_of_ble_eq_true rfl) (Nat.le_of_ble_eq_true rfl) (qk_e ?_)
          rw [show rfW N37 0 3 = N37 from if_neg (by omega), h370]
          refine q_if_eq (tgt := 61) dX8_read_56 rfl (by exact zb_R _) (fun h56 => ?_) (fun h56 => ?_)
          ·
            have hzz : z37 = -1 := h44
            refine q_aload_n dX8_read_61 rfl ?_
            refine q_V0 dX8_read_62 ml_8_390 md_X8_keepsAll (m_keepsAll (by rw [h377]; exact hM.2.2.2.2.2.2.1)) rfl rfl rfl (by first | decide | omega) (Nat.le_of_ble_eq_true rfl) (Nat.le_of_ble_eq_true rfl) (qk_v ?_)
            refine q_aload_n dX8_read_65 rfl ?_
            refine q_iload_n dX8_read_66 rfl ?_
            refine q_V1 dX8_read_67 ml_8_393 md_X8_puts (m_puts (L := L) (by rw [kaW_37 (by decide)]; exact hz4) hL4 (by omega)) rfl rfl rfl (by first | decide | omega) (Nat.le_of_ble_eq_true rfl) (Nat.le_of_ble_eq_true rfl) (qk_v ?_)
            have hz6 := hz5 hzz
            have hE : cE (kaW N37 42) (oj (M 48) L n).2 L := fun i i0 i1 => by rw [kaW_o (by decide) (by decide)]; exact (hz6 i i0 i1).2
            refine q_aload_n dX8_read_70 rfl ?_
            refine q_iconst dX8_read_71 ?_
            refine q_aload_n dX8_read_72 rfl ?_
            refine q_V0 dX8_read_73 ml_8_225 md_X8_bits (m_bits (L := L) (by rw [putW_37, kaW_37 (by decide)]; exact hz4) hL4) rfl rfl rfl (by first | decide | omega) (Nat.le_of_ble_eq_true rfl) (Nat.le_of_ble_eq_true rfl) (qk_e ?_)
            refine q_iconst dX8_read_76 ?_
            refine q_isub dX8_read_77 ?_
            refine q_V2 dX8_read_78 ml_8_305 md_X8_onesIn (m_onesIn (Int.le_refl 0) (by omega) (fun p p0 p1 => by rw [putW_42, kaW_o (by decide) (by decide)]; exact (hz6 _ (by omega) (by omega)).1) (by omega)) rfl rfl rfl (by first | decide | omega) (Nat.le_of_ble_eq_true rfl) (Nat.le_of_ble_eq_true rfl) (qk_e ?_)
            rw [show 8 * p4 (L : Int) - 1 - 0 + 1 = 8 * p4 (L : Int) by omega, putW_42]
            refine q_ireturn dX8_read_81 ?_
            refine ⟨_, rfl, Or.inr (Or.inr ⟨hg, by rw [← hz2]; exact hzz, zsum_bit_e hE (Int.le_refl 0) (by omega), fun i i0 i1 => by rw [← (hz6 i i0 i1).2]; exact (hz6 i i0 i1).1, MS_put (MS_ka hz3) hE⟩)⟩
          ·
            refine q_iconst dX8_read_59 ?_
            refine q_ireturn dX8_read_60 ?_
            exact absurd rfl (zbn h56)
        ·
          refine q_iconst dX8_read_47 ?_
          refine q_goto (tgt := 52) dX8_read_48 rfl ?_
          refine q_iconst dX8_read_52 ?_
          refine q_V2 dX8_read_53 ml_8_64 md_X8_refuse (m_refuse (by omega) (by rw [h370]; (first | (unfold zR; omega) | (unfold zLR; omega) | omega | (simp only [zR, qup] at *; omega) | (simp [zR, qup]; omega) | (simp [zR, qup]; done))) (by (first | (unfold zR; omega) | (unfold zLR; omega) | omega | (simp only [zR, qup] at *; omega) | (simp [zR, qup]; omega) | (simp [zR, qup]; done)))) rfl rfl rfl (by first | decide | omega) (Nat.le_of_ble_eq_true rfl) (Nat.le_of_ble_eq_true rfl) (qk_e ?_)
          rw [show rfW N37 1 3 = qup N37 37 0 3 from if_pos ⟨h370, rfl⟩, qup_s]
          refine q_if_eq (tgt := 61) dX8_read_56 rfl (by exact zb_R _) (fun h56 => ?_) (fun h56 => ?_)
          ·
            exact absurd (zbz h56) (by decide)
          ·
            refine q_iconst dX8_read_59 ?_
            refine q_ireturn dX8_read_60 ?_
            refine ⟨0, rfl, Or.inr (Or.inl ⟨hg, by rw [← hz2]; exact h44, ?_⟩)⟩
            refine ⟨fun u a1 a2 a3 a4 a5 a6 a7 a8 a9 => ?_, fun j hj => ?_⟩
            · have h := hz3.1 u a1 a2 a3 a4 a5 a6 a7 a8 a9
              funext i
              rw [qup_o _ _ _ _ a1, h, qup_o _ _ _ _ a1, qup_o _ _ _ _ a1, qup_o _ _ _ _ a1, qup_o _ _ _ _ a1]
            · by_cases e : j = 0
              · subst e; rw [qup_s, qup_k _ _ _ (by decide), qup_s]
              · rw [qup_k _ _ _ e, hz3.2 j hj]
                by_cases e2 : j = 21
                · subst e2; rw [qup_s, qup_s]
                · rw [qup_k _ _ _ e2, qup_k _ _ _ e2, qup_k _ _ _ e, qup_k _ _ _ e]
      ·
        refine q_iconst dX8_read_33 ?_
        refine q_ireturn dX8_read_34 ?_
        exact ⟨0, rfl, Or.inl ⟨zbn h30, MS_rf _⟩⟩
end MRT


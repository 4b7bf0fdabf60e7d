/-! The law's wrappers. -/
/-- what a wrapper answers, by what the class does -/
def lPo (W : String → Int → Prop) (P' : qP) (w : lM) : Option Value → lM → Prop := fun v w' => (∃ (z : Int) (M' : qM), v = some (.int (zI 0)) ∧ P'.1 (some (.int (zI z))) M' ∧ w'.1 = M' ∧ w'.2.1 0 = (zI z).toInt64) ∨ ∃ (E : String) (M' : qM) (c : Int), W E c ∧ P'.2 E M' ∧ v = some (.int (zI c)) ∧ w' = (M', w.2)
section WR
variable {w : lM} {P' : qP} {u' d' : Nat} {a b c d : Int}
set_option maxHeartbeats 1000000 in
theorem w_load (hC : qCt mX7_load u' d' [.ref 0, .int (zI a)] w.1 P') (h1 : ∀ v M', P'.1 v M' → ∃ z, v = some (.int (zI z))) (h2 : ∀ E M', P'.2 E M' → ∃ c, Wl E c) : lCt mL_load u' (d' + 1) [.ref 0, .int (zI a), .ref 52] w (lPo Wl P' w) := by
  refine l_intro (L := [some (.ref 0), some (.int (zI a)), some (.ref 52), none]) mdL_load rfl rfl (Nat.le_of_ble_eq_true rfl) (fun X cy => ?_)
  refine l_aload_n dL_load_0 rfl ?_
  refine l_iconst dL_load_1 ?_
  refine l_aload_n dL_load_2 rfl ?_
  refine l_iload_n dL_load_3 rfl ?_
  refine l_callX (av := [.int (zI a)]) (o := 0) (rest := [.int (zI 0), .ref 52]) dL_load_4 mlL_7 md_X7_load hC rfl rfl rfl (by show d' + 7 ≤ d' + 1 + 6; omega) (by show 8 + (_ + 11) + (100 + 40 * d') ≤ 100 + 40 * (d' + 1); exact Nat.le_trans (Nat.add_le_add_right (Nat.le_of_ble_eq_true (rfl : Nat.ble _ 40 = true)) _) (by omega)) (by show 0 + u' ≤ u'; omega) (by show 0 + 6 * u' ≤ 6 * u'; omega) (Nat.le_of_ble_eq_true rfl) (fun v M' hp => ?_) (fun E M' hp => ?_)
  · obtain ⟨z, rfl⟩ := h1 v M' hp
    refine l_i2l dL_load_7 ?_
    refine l_lastore dL_load_8 (fun f hf => ?_)
    refine l_goto (tgt := 18) dL_load_9 rfl ?_
    refine l_iconst dL_load_18 ?_
    exact l_ireturn dL_load_19 (by omega) (by omega) (Or.inl ⟨z, M', rfl, hp, rfl, hf⟩)
  · obtain ⟨c, hc⟩ := h2 E M' hp
    rcases id hc with ⟨rfl, rfl⟩ | ⟨rfl, rfl⟩
    · refine ⟨12, 1, 3, ⟨[], _, _, rfl, by decide, by decide, rfl, rfl, fun z hz => absurd hz List.not_mem_nil⟩, Nat.le_of_ble_eq_true rfl, Or.inl ⟨3, rfl, dL_load_12, rfl⟩, ?_⟩
      refine l_iconst dL_load_13 ?_
      exact l_ireturn dL_load_14 (by omega) (by omega) (Or.inr ⟨_, M', _, hc, hp, rfl, rfl⟩)
    · refine ⟨15, 1, 3, ⟨[(0, 9, 12, 13)], _, _, rfl, by decide, by decide, rfl, rfl, fun z hz => by
        simp only [List.mem_cons, List.not_mem_nil, or_false] at hz
        rcases hz with rfl <;> exact ⟨_, rfl, by decide⟩⟩, Nat.le_of_ble_eq_true rfl, Or.inl ⟨3, rfl, dL_load_15, rfl⟩, ?_⟩
      refine l_iconst dL_load_16 ?_
      exact l_ireturn dL_load_17 (by omega) (by omega) (Or.inr ⟨_, M', _, hc, hp, rfl, rfl⟩)
set_option maxHeartbeats 1000000 in
theorem w_find (hC : qCt mX7_find u' d' [.ref 0, .int (zI a)] w.1 P') (h1 : ∀ v M', P'.1 v M' → ∃ z, v = some (.int (zI z))) (h2 : ∀ E M', P'.2 E M' → ∃ c, W2 E c) : lCt mL_find u' (d' + 1) [.ref 0, .int (zI a), .ref 52] w (lPo W2 P' w) := by
  refine l_intro (L := [some (.ref 0), some (.int (zI a)), some (.ref 52), none]) mdL_find rfl rfl (Nat.le_of_ble_eq_true rfl) (fun X cy => ?_)
  refine l_aload_n dL_find_0 rfl ?_
  refine l_iconst dL_find_1 ?_
  refine l_aload_n dL_find_2 rfl ?_
  refine l_iload_n dL_find_3 rfl ?_
  refine l_callX (av := [.int (zI a)]) (o := 0) (rest := [.int (zI 0), .ref 52]) dL_find_4 mlL_17 md_X7_find hC rfl rfl rfl (by show d' + 7 ≤ d' + 1 + 6; omega) (by show 8 + (_ + 11) + (100 + 40 * d') ≤ 100 + 40 * (d' + 1); exact Nat.le_trans (Nat.add_le_add_right (Nat.le_of_ble_eq_true (rfl : Nat.ble _ 40 = true)) _) (by omega)) (by show 0 + u' ≤ u'; omega) (by show 0 + 6 * u' ≤ 6 * u'; omega) (Nat.le_of_ble_eq_true rfl) (fun v M' hp => ?_) (fun E M' hp => ?_)
  · obtain ⟨z, rfl⟩ := h1 v M' hp
    refine l_i2l dL_find_7 ?_
    refine l_lastore dL_find_8 (fun f hf => ?_)
    refine l_goto (tgt := 18) dL_find_9 rfl ?_
    refine l_iconst dL_find_18 ?_
    exact l_ireturn dL_find_19 (by omega) (by omega) (Or.inl ⟨z, M', rfl, hp, rfl, hf⟩)
  · obtain ⟨c, hc⟩ := h2 E M' hp
    rcases id hc with ⟨rfl, rfl | rfl⟩
    · refine ⟨12, 1, 3, ⟨[], _, _, rfl, by decide, by decide, rfl, rfl, fun z hz => absurd hz List.not_mem_nil⟩, Nat.le_of_ble_eq_true rfl, Or.inl ⟨3, rfl, dL_find_12, rfl⟩, ?_⟩
      refine l_iconst dL_find_13 ?_
      exact l_ireturn dL_find_14 (by omega) (by omega) (Or.inr ⟨_, M', _, hc, hp, rfl, rfl⟩)
    · refine ⟨15, 1, 3, ⟨[(0, 9, 12, 20)], _, _, rfl, by decide, by decide, rfl, rfl, fun z hz => by
        simp only [List.mem_cons, List.not_mem_nil, or_false] at hz
        rcases hz with rfl <;> exact ⟨_, rfl, by decide⟩⟩, Nat.le_of_ble_eq_true rfl, Or.inl ⟨3, rfl, dL_find_15, rfl⟩, ?_⟩
      refine l_iconst dL_find_16 ?_
      exact l_ireturn dL_find_17 (by omega) (by omega) (Or.inr ⟨_, M', _, hc, hp, rfl, rfl⟩)
set_option maxHeartbeats 1000000 in
theorem w_checks (hC : qCt mX7_checks u' d' [.ref 0, .int (zI a)] w.1 P') (h1 : ∀ v M', P'.1 v M' → ∃ z, v = some (.int (zI z))) (h2 : ∀ E M', P'.2 E M' → ∃ c, W2 E c) : lCt mL_checks u' (d' + 1) [.ref 0, .int (zI a), .ref 52] w (lPo W2 P' w) := by
  refine l_intro (L := [some (.ref 0), some (.int (zI a)), some (.ref 52), none]) mdL_checks rfl rfl (Nat.le_of_ble_eq_true rfl) (fun X cy => ?_)
  refine l_aload_n dL_checks_0 rfl ?_
  refine l_iconst dL_checks_1 ?_
  refine l_aload_n dL_checks_2 rfl ?_
  refine l_iload_n dL_checks_3 rfl ?_
  refine l_callX (av := [.int (zI a)]) (o := 0) (rest := [.int (zI 0), .ref 52]) dL_checks_4 mlL_22 md_X7_checks hC rfl rfl rfl (by show d' + 7 ≤ d' + 1 + 6; omega) (by show 8 + (_ + 11) + (100 + 40 * d') ≤ 100 + 40 * (d' + 1); exact Nat.le_trans (Nat.add_le_add_right (Nat.le_of_ble_eq_true (rfl : Nat.ble _ 40 = true)) _) (by omega)) (by show 0 + u' ≤ u'; omega) (by show 0 + 6 * u' ≤ 6 * u'; omega) (Nat.le_of_ble_eq_true rfl) (fun v M' hp => ?_) (fun E M' hp => ?_)
  · obtain ⟨z, rfl⟩ := h1 v M' hp
    refine l_i2l dL_checks_7 ?_
    refine l_lastore dL_checks_8 (fun f hf => ?_)
    refine l_goto (tgt := 18) dL_checks_9 rfl ?_
    refine l_iconst dL_checks_18 ?_
    exact l_ireturn dL_checks_19 (by omega) (by omega) (Or.inl ⟨z, M', rfl, hp, rfl, hf⟩)
  · obtain ⟨c, hc⟩ := h2 E M' hp
    rcases id hc with ⟨rfl, rfl | rfl⟩
    · refine ⟨12, 1, 3, ⟨[], _, _, rfl, by decide, by decide, rfl, rfl, fun z hz => absurd hz List.not_mem_nil⟩, Nat.le_of_ble_eq_true rfl, Or.inl ⟨3, rfl, dL_checks_12, rfl⟩, ?_⟩
      refine l_iconst dL_checks_13 ?_
      exact l_ireturn dL_checks_14 (by omega) (by omega) (Or.inr ⟨_, M', _, hc, hp, rfl, rfl⟩)
    · refine ⟨15, 1, 3, ⟨[(0, 9, 12, 20)], _, _, rfl, by decide, by decide, rfl, rfl, fun z hz => by
        simp only [List.mem_cons, List.not_mem_nil, or_false] at hz
        rcases hz with rfl <;> exact ⟨_, rfl, by decide⟩⟩, Nat.le_of_ble_eq_true rfl, Or.inl ⟨3, rfl, dL_checks_15, rfl⟩, ?_⟩
      refine l_iconst dL_checks_16 ?_
      exact l_ireturn dL_checks_17 (by omega) (by omega) (Or.inr ⟨_, M', _, hc, hp, rfl, rfl⟩)
set_option maxHeartbeats 1000000 in
theorem w_count (hC : qCt mX7_count u' d' [.ref 0, .int (zI a)] w.1 P') (h1 : ∀ v M', P'.1 v M' → ∃ z, v = some (.int (zI z))) (h2 : ∀ E M', P'.2 E M' → ∃ c, Wc E c) : lCt mL_count u' (d' + 1) [.ref 0, .int (zI a), .ref 52] w (lPo Wc P' w) := by
  refine l_intro (L := [some (.ref 0), some (.int (zI a)), some (.ref 52), none]) mdL_count rfl rfl (Nat.le_of_ble_eq_true rfl) (fun X cy => ?_)
  refine l_aload_n dL_count_0 rfl ?_
  refine l_iconst dL_count_1 ?_
  refine l_aload_n dL_count_2 rfl ?_
  refine l_iload_n dL_count_3 rfl ?_
  refine l_callX (av := [.int (zI a)]) (o := 0) (rest := [.int (zI 0), .ref 52]) dL_count_4 mlL_25 md_X7_count hC rfl rfl rfl (by show d' + 7 ≤ d' + 1 + 6; omega) (by show 8 + (_ + 11) + (100 + 40 * d') ≤ 100 + 40 * (d' + 1); exact Nat.le_trans (Nat.add_le_add_right (Nat.le_of_ble_eq_true (rfl : Nat.ble _ 40 = true)) _) (by omega)) (by show 0 + u' ≤ u'; omega) (by show 0 + 6 * u' ≤ 6 * u'; omega) (Nat.le_of_ble_eq_true rfl) (fun v M' hp => ?_) (fun E M' hp => ?_)
  · obtain ⟨z, rfl⟩ := h1 v M' hp
    refine l_i2l dL_count_7 ?_
    refine l_lastore dL_count_8 (fun f hf => ?_)
    refine l_goto (tgt := 18) dL_count_9 rfl ?_
    refine l_iconst dL_count_18 ?_
    exact l_ireturn dL_count_19 (by omega) (by omega) (Or.inl ⟨z, M', rfl, hp, rfl, hf⟩)
  · obtain ⟨c, hc⟩ := h2 E M' hp
    rcases id hc with ⟨rfl, rfl⟩ | ⟨rfl, rfl⟩
    · refine ⟨12, 1, 3, ⟨[], _, _, rfl, by decide, by decide, rfl, rfl, fun z hz => absurd hz List.not_mem_nil⟩, Nat.le_of_ble_eq_true rfl, Or.inl ⟨3, rfl, dL_count_12, rfl⟩, ?_⟩
      refine l_iconst dL_count_13 ?_
      exact l_ireturn dL_count_14 (by omega) (by omega) (Or.inr ⟨_, M', _, hc, hp, rfl, rfl⟩)
    · refine ⟨15, 1, 3, ⟨[(0, 9, 12, 20)], _, _, rfl, by decide, by decide, rfl, rfl, fun z hz => by
        simp only [List.mem_cons, List.not_mem_nil, or_false] at hz
        rcases hz with rfl <;> exact ⟨_, rfl, by decide⟩⟩, Nat.le_of_ble_eq_true rfl, Or.inl ⟨3, rfl, dL_count_15, rfl⟩, ?_⟩
      refine l_iconst dL_count_16 ?_
      exact l_ireturn dL_count_17 (by omega) (by omega) (Or.inr ⟨_, M', _, hc, hp, rfl, rfl⟩)
set_option maxHeartbeats 1000000 in
theorem w_bit (hC : qCt mX7_bit u' d' [.ref 0, .int (zI a), .int (zI b)] w.1 P') (h1 : ∀ v M', P'.1 v M' → ∃ z, v = some (.int (zI z))) (h2 : ∀ E M', P'.2 E M' → ∃ c, W2 E c) : lCt mL_bit u' (d' + 1) [.ref 0, .int (zI a), .int (zI b), .ref 52] w (lPo W2 P' w) := by
  refine l_intro (L := [some (.ref 0), some (.int (zI a)), some (.int (zI b)), some (.ref 52), none]) mdL_bit rfl rfl (Nat.le_of_ble_eq_true rfl) (fun X cy => ?_)
  refine l_aload_n dL_bit_0 rfl ?_
  refine l_iconst dL_bit_1 ?_
  refine l_aload_n dL_bit_2 rfl ?_
  refine l_iload_n dL_bit_3 rfl ?_
  refine l_iload_n dL_bit_4 rfl ?_
  refine l_callX (av := [.int (zI a), .int (zI b)]) (o := 0) (rest := [.int (zI 0), .ref 52]) dL_bit_5 mlL_28 md_X7_bit hC rfl rfl rfl (by show d' + 7 ≤ d' + 1 + 6; omega) (by show 8 + (_ + 11) + (100 + 40 * d') ≤ 100 + 40 * (d' + 1); exact Nat.le_trans (Nat.add_le_add_right (Nat.le_of_ble_eq_true (rfl : Nat.ble _ 40 = true)) _) (by omega)) (by show 0 + u' ≤ u'; omega) (by show 0 + 6 * u' ≤ 6 * u'; omega) (Nat.le_of_ble_eq_true rfl) (fun v M' hp => ?_) (fun E M' hp => ?_)
  · obtain ⟨z, rfl⟩ := h1 v M' hp
    refine l_i2l dL_bit_8 ?_
    refine l_lastore dL_bit_9 (fun f hf => ?_)
    refine l_goto (tgt := 21) dL_bit_10 rfl ?_
    refine l_iconst dL_bit_21 ?_
    exact l_ireturn dL_bit_22 (by omega) (by omega) (Or.inl ⟨z, M', rfl, hp, rfl, hf⟩)
  · obtain ⟨c, hc⟩ := h2 E M' hp
    rcases id hc with ⟨rfl, rfl | rfl⟩
    · refine ⟨13, 2, 4, ⟨[], _, _, rfl, by decide, by decide, rfl, rfl, fun z hz => absurd hz List.not_mem_nil⟩, Nat.le_of_ble_eq_true rfl, Or.inr ⟨dL_bit_13, rfl⟩, ?_⟩
      refine l_iconst dL_bit_15 ?_
      exact l_ireturn dL_bit_16 (by omega) (by omega) (Or.inr ⟨_, M', _, hc, hp, rfl, rfl⟩)
    · refine ⟨17, 2, 4, ⟨[(0, 10, 13, 20)], _, _, rfl, by decide, by decide, rfl, rfl, fun z hz => by
        simp only [List.mem_cons, List.not_mem_nil, or_false] at hz
        rcases hz with rfl <;> exact ⟨_, rfl, by decide⟩⟩, Nat.le_of_ble_eq_true rfl, Or.inr ⟨dL_bit_17, rfl⟩, ?_⟩
      refine l_iconst dL_bit_19 ?_
      exact l_ireturn dL_bit_20 (by omega) (by omega) (Or.inr ⟨_, M', _, hc, hp, rfl, rfl⟩)
set_option maxHeartbeats 1000000 in
theorem w_ones (hC : qCt mX7_ones u' d' [.ref 0, .int (zI a), .int (zI b), .int (zI c)] w.1 P') (h1 : ∀ v M', P'.1 v M' → ∃ z, v = some (.int (zI z))) (h2 : ∀ E M', P'.2 E M' → ∃ c, W2 E c) : lCt mL_ones u' (d' + 1) [.ref 0, .int (zI a), .int (zI b), .int (zI c), .ref 52] w (lPo W2 P' w) := by
  refine l_intro (L := [some (.ref 0), some (.int (zI a)), some (.int (zI b)), some (.int (zI c)), some (.ref 52), none]) mdL_ones rfl rfl (Nat.le_of_ble_eq_true rfl) (fun X cy => ?_)
  refine l_aload dL_ones_0 rfl ?_
  refine l_iconst dL_ones_2 ?_
  refine l_aload_n dL_ones_3 rfl ?_
  refine l_iload_n dL_ones_4 rfl ?_
  refine l_iload_n dL_ones_5 rfl ?_
  refine l_iload_n dL_ones_6 rfl ?_
  refine l_callX (av := [.int (zI a), .int (zI b), .int (zI c)]) (o := 0) (rest := [.int (zI 0), .ref 52]) dL_ones_7 mlL_32 md_X7_ones hC rfl rfl rfl (by show d' + 7 ≤ d' + 1 + 6; omega) (by show 8 + (_ + 11) + (100 + 40 * d') ≤ 100 + 40 * (d' + 1); exact Nat.le_trans (Nat.add_le_add_right (Nat.le_of_ble_eq_true (rfl : Nat.ble _ 40 = true)) _) (by omega)) (by show 0 + u' ≤ u'; omega) (by show 0 + 6 * u' ≤ 6 * u'; omega) (Nat.le_of_ble_eq_true rfl) (fun v M' hp => ?_) (fun E M' hp => ?_)
  · obtain ⟨z, rfl⟩ := h1 v M' hp
    refine l_i2l dL_ones_10 ?_
    refine l_lastore dL_ones_11 (fun f hf => ?_)
    refine l_goto (tgt := 23) dL_ones_12 rfl ?_
    refine l_iconst dL_ones_23 ?_
    exact l_ireturn dL_ones_24 (by omega) (by omega) (Or.inl ⟨z, M', rfl, hp, rfl, hf⟩)
  · obtain ⟨c, hc⟩ := h2 E M' hp
    rcases id hc with ⟨rfl, rfl | rfl⟩
    · refine ⟨15, 2, 5, ⟨[], _, _, rfl, by decide, by decide, rfl, rfl, fun z hz => absurd hz List.not_mem_nil⟩, Nat.le_of_ble_eq_true rfl, Or.inr ⟨dL_ones_15, rfl⟩, ?_⟩
      refine l_iconst dL_ones_17 ?_
      exact l_ireturn dL_ones_18 (by omega) (by omega) (Or.inr ⟨_, M', _, hc, hp, rfl, rfl⟩)
    · refine ⟨19, 2, 5, ⟨[(0, 12, 15, 20)], _, _, rfl, by decide, by decide, rfl, rfl, fun z hz => by
        simp only [List.mem_cons, List.not_mem_nil, or_false] at hz
        rcases hz with rfl <;> exact ⟨_, rfl, by decide⟩⟩, Nat.le_of_ble_eq_true rfl, Or.inr ⟨dL_ones_19, rfl⟩, ?_⟩
      refine l_iconst dL_ones_21 ?_
      exact l_ireturn dL_ones_22 (by omega) (by omega) (Or.inr ⟨_, M', _, hc, hp, rfl, rfl⟩)
set_option maxHeartbeats 1000000 in
theorem w_next (hC : qCt mX7_next u' d' [.ref 0, .int (zI a), .int (zI b), .int (zI c)] w.1 P') (h1 : ∀ v M', P'.1 v M' → ∃ z, v = some (.int (zI z))) (h2 : ∀ E M', P'.2 E M' → ∃ c, W3 E c) : lCt mL_next u' (d' + 1) [.ref 0, .int (zI a), .int (zI b), .int (zI c), .ref 52] w (lPo W3 P' w) := by
  refine l_intro (L := [some (.ref 0), some (.int (zI a)), some (.int (zI b)), some (.int (zI c)), some (.ref 52), none]) mdL_next rfl rfl (Nat.le_of_ble_eq_true rfl) (fun X cy => ?_)
  refine l_aload dL_next_0 rfl ?_
  refine l_iconst dL_next_2 ?_
  refine l_aload_n dL_next_3 rfl ?_
  refine l_iload_n dL_next_4 rfl ?_
  refine l_iload_n dL_next_5 rfl ?_
  refine l_iload_n dL_next_6 rfl ?_
  refine l_callX (av := [.int (zI a), .int (zI b), .int (zI c)]) (o := 0) (rest := [.int (zI 0), .ref 52]) dL_next_7 mlL_36 md_X7_next hC rfl rfl rfl (by show d' + 7 ≤ d' + 1 + 6; omega) (by show 8 + (_ + 11) + (100 + 40 * d') ≤ 100 + 40 * (d' + 1); exact Nat.le_trans (Nat.add_le_add_right (Nat.le_of_ble_eq_true (rfl : Nat.ble _ 40 = true)) _) (by omega)) (by show 0 + u' ≤ u'; omega) (by show 0 + 6 * u' ≤ 6 * u'; omega) (Nat.le_of_ble_eq_true rfl) (fun v M' hp => ?_) (fun E M' hp => ?_)
  · obtain ⟨z, rfl⟩ := h1 v M' hp
    refine l_i2l dL_next_10 ?_
    refine l_lastore dL_next_11 (fun f hf => ?_)
    refine l_goto (tgt := 27) dL_next_12 rfl ?_
    refine l_iconst dL_next_27 ?_
    exact l_ireturn dL_next_28 (by omega) (by omega) (Or.inl ⟨z, M', rfl, hp, rfl, hf⟩)
  · obtain ⟨c, hc⟩ := h2 E M' hp
    rcases id hc with ⟨rfl, rfl | rfl | rfl⟩
    · refine ⟨15, 2, 5, ⟨[], _, _, rfl, by decide, by decide, rfl, rfl, fun z hz => absurd hz List.not_mem_nil⟩, Nat.le_of_ble_eq_true rfl, Or.inr ⟨dL_next_15, rfl⟩, ?_⟩
      refine l_iconst dL_next_17 ?_
      exact l_ireturn dL_next_18 (by omega) (by omega) (Or.inr ⟨_, M', _, hc, hp, rfl, rfl⟩)
    · refine ⟨19, 2, 5, ⟨[(0, 12, 15, 20)], _, _, rfl, by decide, by decide, rfl, rfl, fun z hz => by
        simp only [List.mem_cons, List.not_mem_nil, or_false] at hz
        rcases hz with rfl <;> exact ⟨_, rfl, by decide⟩⟩, Nat.le_of_ble_eq_true rfl, Or.inr ⟨dL_next_19, rfl⟩, ?_⟩
      refine l_iconst dL_next_21 ?_
      exact l_ireturn dL_next_22 (by omega) (by omega) (Or.inr ⟨_, M', _, hc, hp, rfl, rfl⟩)
    · refine ⟨23, 2, 5, ⟨[(0, 12, 15, 20), (0, 12, 19, 13)], _, _, rfl, by decide, by decide, rfl, rfl, fun z hz => by
        simp only [List.mem_cons, List.not_mem_nil, or_false] at hz
        rcases hz with rfl | rfl <;> exact ⟨_, rfl, by decide⟩⟩, Nat.le_of_ble_eq_true rfl, Or.inr ⟨dL_next_23, rfl⟩, ?_⟩
      refine l_iconst dL_next_25 ?_
      exact l_ireturn dL_next_26 (by omega) (by omega) (Or.inr ⟨_, M', _, hc, hp, rfl, rfl⟩)
set_option maxHeartbeats 1000000 in
theorem w_select (hC : qCt mX7_select u' d' [.ref 0, .int (zI a), .int (zI b)] w.1 P') (h1 : ∀ v M', P'.1 v M' → ∃ z, v = some (.int (zI z))) (h2 : ∀ E M', P'.2 E M' → ∃ c, W2 E c) : lCt mL_select u' (d' + 1) [.ref 0, .int (zI a), .int (zI b), .ref 52] w (lPo W2 P' w) := by
  refine l_intro (L := [some (.ref 0), some (.int (zI a)), some (.int (zI b)), some (.ref 52), none]) mdL_select rfl rfl (Nat.le_of_ble_eq_true rfl) (fun X cy => ?_)
  refine l_aload_n dL_select_0 rfl ?_
  refine l_iconst dL_select_1 ?_
  refine l_aload_n dL_select_2 rfl ?_
  refine l_iload_n dL_select_3 rfl ?_
  refine l_iload_n dL_select_4 rfl ?_
  refine l_callX (av := [.int (zI a), .int (zI b)]) (o := 0) (rest := [.int (zI 0), .ref 52]) dL_select_5 mlL_39 md_X7_select hC rfl rfl rfl (by show d' + 7 ≤ d' + 1 + 6; omega) (by show 8 + (_ + 11) + (100 + 40 * d') ≤ 100 + 40 * (d' + 1); exact Nat.le_trans (Nat.add_le_add_right (Nat.le_of_ble_eq_true (rfl : Nat.ble _ 40 = true)) _) (by omega)) (by show 0 + u' ≤ u'; omega) (by show 0 + 6 * u' ≤ 6 * u'; omega) (Nat.le_of_ble_eq_true rfl) (fun v M' hp => ?_) (fun E M' hp => ?_)
  · obtain ⟨z, rfl⟩ := h1 v M' hp
    refine l_i2l dL_select_8 ?_
    refine l_lastore dL_select_9 (fun f hf => ?_)
    refine l_goto (tgt := 21) dL_select_10 rfl ?_
    refine l_iconst dL_select_21 ?_
    exact l_ireturn dL_select_22 (by omega) (by omega) (Or.inl ⟨z, M', rfl, hp, rfl, hf⟩)
  · obtain ⟨c, hc⟩ := h2 E M' hp
    rcases id hc with ⟨rfl, rfl | rfl⟩
    · refine ⟨13, 2, 4, ⟨[], _, _, rfl, by decide, by decide, rfl, rfl, fun z hz => absurd hz List.not_mem_nil⟩, Nat.le_of_ble_eq_true rfl, Or.inr ⟨dL_select_13, rfl⟩, ?_⟩
      refine l_iconst dL_select_15 ?_
      exact l_ireturn dL_select_16 (by omega) (by omega) (Or.inr ⟨_, M', _, hc, hp, rfl, rfl⟩)
    · refine ⟨17, 2, 4, ⟨[(0, 10, 13, 20)], _, _, rfl, by decide, by decide, rfl, rfl, fun z hz => by
        simp only [List.mem_cons, List.not_mem_nil, or_false] at hz
        rcases hz with rfl <;> exact ⟨_, rfl, by decide⟩⟩, Nat.le_of_ble_eq_true rfl, Or.inr ⟨dL_select_17, rfl⟩, ?_⟩
      refine l_iconst dL_select_19 ?_
      exact l_ireturn dL_select_20 (by omega) (by omega) (Or.inr ⟨_, M', _, hc, hp, rfl, rfl⟩)
set_option maxHeartbeats 1000000 in
theorem w_runs (hC : qCt mX7_runs u' d' [.ref 0, .int (zI a), .int (zI b)] w.1 P') (h1 : ∀ v M', P'.1 v M' → ∃ z, v = some (.int (zI z))) (h2 : ∀ E M', P'.2 E M' → ∃ c, W3 E c) : lCt mL_runs u' (d' + 1) [.ref 0, .int (zI a), .int (zI b), .ref 52] w (lPo W3 P' w) := by
  refine l_intro (L := [some (.ref 0), some (.int (zI a)), some (.int (zI b)), some (.ref 52), none]) mdL_runs rfl rfl (Nat.le_of_ble_eq_true rfl) (fun X cy => ?_)
  refine l_aload_n dL_runs_0 rfl ?_
  refine l_iconst dL_runs_1 ?_
  refine l_aload_n dL_runs_2 rfl ?_
  refine l_iload_n dL_runs_3 rfl ?_
  refine l_iload_n dL_runs_4 rfl ?_
  refine l_callX (av := [.int (zI a), .int (zI b)]) (o := 0) (rest := [.int (zI 0), .ref 52]) dL_runs_5 mlL_42 md_X7_runs hC rfl rfl rfl (by show d' + 7 ≤ d' + 1 + 6; omega) (by show 8 + (_ + 11) + (100 + 40 * d') ≤ 100 + 40 * (d' + 1); exact Nat.le_trans (Nat.add_le_add_right (Nat.le_of_ble_eq_true (rfl : Nat.ble _ 40 = true)) _) (by omega)) (by show 0 + u' ≤ u'; omega) (by show 0 + 6 * u' ≤ 6 * u'; omega) (Nat.le_of_ble_eq_true rfl) (fun v M' hp => ?_) (fun E M' hp => ?_)
  · obtain ⟨z, rfl⟩ := h1 v M' hp
    refine l_i2l dL_runs_8 ?_
    refine l_lastore dL_runs_9 (fun f hf => ?_)
    refine l_goto (tgt := 25) dL_runs_10 rfl ?_
    refine l_iconst dL_runs_25 ?_
    exact l_ireturn dL_runs_26 (by omega) (by omega) (Or.inl ⟨z, M', rfl, hp, rfl, hf⟩)
  · obtain ⟨c, hc⟩ := h2 E M' hp
    rcases id hc with ⟨rfl, rfl | rfl | rfl⟩
    · refine ⟨13, 2, 4, ⟨[], _, _, rfl, by decide, by decide, rfl, rfl, fun z hz => absurd hz List.not_mem_nil⟩, Nat.le_of_ble_eq_true rfl, Or.inr ⟨dL_runs_13, rfl⟩, ?_⟩
      refine l_iconst dL_runs_15 ?_
      exact l_ireturn dL_runs_16 (by omega) (by omega) (Or.inr ⟨_, M', _, hc, hp, rfl, rfl⟩)
    · refine ⟨17, 2, 4, ⟨[(0, 10, 13, 20)], _, _, rfl, by decide, by decide, rfl, rfl, fun z hz => by
        simp only [List.mem_cons, List.not_mem_nil, or_false] at hz
        rcases hz with rfl <;> exact ⟨_, rfl, by decide⟩⟩, Nat.le_of_ble_eq_true rfl, Or.inr ⟨dL_runs_17, rfl⟩, ?_⟩
      refine l_iconst dL_runs_19 ?_
      exact l_ireturn dL_runs_20 (by omega) (by omega) (Or.inr ⟨_, M', _, hc, hp, rfl, rfl⟩)
    · refine ⟨21, 2, 4, ⟨[(0, 10, 13, 20), (0, 10, 17, 13)], _, _, rfl, by decide, by decide, rfl, rfl, fun z hz => by
        simp only [List.mem_cons, List.not_mem_nil, or_false] at hz
        rcases hz with rfl | rfl <;> exact ⟨_, rfl, by decide⟩⟩, Nat.le_of_ble_eq_true rfl, Or.inr ⟨dL_runs_21, rfl⟩, ?_⟩
      refine l_iconst dL_runs_23 ?_
      exact l_ireturn dL_runs_24 (by omega) (by omega) (Or.inr ⟨_, M', _, hc, hp, rfl, rfl⟩)
set_option maxHeartbeats 1000000 in
theorem w_longestRun (hC : qCt mX7_longestRun u' d' [.ref 0, .int (zI a), .int (zI b)] w.1 P') (h1 : ∀ v M', P'.1 v M' → ∃ z, v = some (.int (zI z))) (h2 : ∀ E M', P'.2 E M' → ∃ c, W3 E c) : lCt mL_longestRun u' (d' + 1) [.ref 0, .int (zI a), .int (zI b), .ref 52] w (lPo W3 P' w) := by
  refine l_intro (L := [some (.ref 0), some (.int (zI a)), some (.int (zI b)), some (.ref 52), none]) mdL_longestRun rfl rfl (Nat.le_of_ble_eq_true rfl) (fun X cy => ?_)
  refine l_aload_n dL_longestRun_0 rfl ?_
  refine l_iconst dL_longestRun_1 ?_
  refine l_aload_n dL_longestRun_2 rfl ?_
  refine l_iload_n dL_longestRun_3 rfl ?_
  refine l_iload_n dL_longestRun_4 rfl ?_
  refine l_callX (av := [.int (zI a), .int (zI b)]) (o := 0) (rest := [.int (zI 0), .ref 52]) dL_longestRun_5 mlL_45 md_X7_longestRun hC rfl rfl rfl (by show d' + 7 ≤ d' + 1 + 6; omega) (by show 8 + (_ + 11) + (100 + 40 * d') ≤ 100 + 40 * (d' + 1); exact Nat.le_trans (Nat.add_le_add_right (Nat.le_of_ble_eq_true (rfl : Nat.ble _ 40 = true)) _) (by omega)) (by show 0 + u' ≤ u'; omega) (by show 0 + 6 * u' ≤ 6 * u'; omega) (Nat.le_of_ble_eq_true rfl) (fun v M' hp => ?_) (fun E M' hp => ?_)
  · obtain ⟨z, rfl⟩ := h1 v M' hp
    refine l_i2l dL_longestRun_8 ?_
    refine l_lastore dL_longestRun_9 (fun f hf => ?_)
    refine l_goto (tgt := 25) dL_longestRun_10 rfl ?_
    refine l_iconst dL_longestRun_25 ?_
    exact l_ireturn dL_longestRun_26 (by omega) (by omega) (Or.inl ⟨z, M', rfl, hp, rfl, hf⟩)
  · obtain ⟨c, hc⟩ := h2 E M' hp
    rcases id hc with ⟨rfl, rfl | rfl | rfl⟩
    · refine ⟨13, 2, 4, ⟨[], _, _, rfl, by decide, by decide, rfl, rfl, fun z hz => absurd hz List.not_mem_nil⟩, Nat.le_of_ble_eq_true rfl, Or.inr ⟨dL_longestRun_13, rfl⟩, ?_⟩
      refine l_iconst dL_longestRun_15 ?_
      exact l_ireturn dL_longestRun_16 (by omega) (by omega) (Or.inr ⟨_, M', _, hc, hp, rfl, rfl⟩)
    · refine ⟨17, 2, 4, ⟨[(0, 10, 13, 20)], _, _, rfl, by decide, by decide, rfl, rfl, fun z hz => by
        simp only [List.mem_cons, List.not_mem_nil, or_false] at hz
        rcases hz with rfl <;> exact ⟨_, rfl, by decide⟩⟩, Nat.le_of_ble_eq_true rfl, Or.inr ⟨dL_longestRun_17, rfl⟩, ?_⟩
      refine l_iconst dL_longestRun_19 ?_
      exact l_ireturn dL_longestRun_20 (by omega) (by omega) (Or.inr ⟨_, M', _, hc, hp, rfl, rfl⟩)
    · refine ⟨21, 2, 4, ⟨[(0, 10, 13, 20), (0, 10, 17, 13)], _, _, rfl, by decide, by decide, rfl, rfl, fun z hz => by
        simp only [List.mem_cons, List.not_mem_nil, or_false] at hz
        rcases hz with rfl | rfl <;> exact ⟨_, rfl, by decide⟩⟩, Nat.le_of_ble_eq_true rfl, Or.inr ⟨dL_longestRun_21, rfl⟩, ?_⟩
      refine l_iconst dL_longestRun_23 ?_
      exact l_ireturn dL_longestRun_24 (by omega) (by omega) (Or.inr ⟨_, M', _, hc, hp, rfl, rfl⟩)
set_option maxHeartbeats 1000000 in
theorem w_bytes (hC : qCt mX7_bytes u' d' [.ref 0, .int (zI a)] w.1 P') (h1 : ∀ v M', P'.1 v M' → ∃ z, v = some (.int (zI z))) (h2 : ∀ E M', P'.2 E M' → ∃ c, W2 E c) : lCt mL_bytes u' (d' + 1) [.ref 0, .int (zI a), .ref 52] w (lPo W2 P' w) := by
  refine l_intro (L := [some (.ref 0), some (.int (zI a)), some (.ref 52), none]) mdL_bytes rfl rfl (Nat.le_of_ble_eq_true rfl) (fun X cy => ?_)
  refine l_aload_n dL_bytes_0 rfl ?_
  refine l_iconst dL_bytes_1 ?_
  refine l_aload_n dL_bytes_2 rfl ?_
  refine l_iload_n dL_bytes_3 rfl ?_
  refine l_callX (av := [.int (zI a)]) (o := 0) (rest := [.int (zI 0), .ref 52]) dL_bytes_4 mlL_48 md_X7_bytes hC rfl rfl rfl (by show d' + 7 ≤ d' + 1 + 6; omega) (by show 8 + (_ + 11) + (100 + 40 * d') ≤ 100 + 40 * (d' + 1); exact Nat.le_trans (Nat.add_le_add_right (Nat.le_of_ble_eq_true (rfl : Nat.ble _ 40 = true)) _) (by omega)) (by show 0 + u' ≤ u'; omega) (by show 0 + 6 * u' ≤ 6 * u'; omega) (Nat.le_of_ble_eq_true rfl) (fun v M' hp => ?_) (fun E M' hp => ?_)
  · obtain ⟨z, rfl⟩ := h1 v M' hp
    refine l_i2l dL_bytes_7 ?_
    refine l_lastore dL_bytes_8 (fun f hf => ?_)
    refine l_goto (tgt := 18) dL_bytes_9 rfl ?_
    refine l_iconst dL_bytes_18 ?_
    exact l_ireturn dL_bytes_19 (by omega) (by omega) (Or.inl ⟨z, M', rfl, hp, rfl, hf⟩)
  · obtain ⟨c, hc⟩ := h2 E M' hp
    rcases id hc with ⟨rfl, rfl | rfl⟩
    · refine ⟨12, 1, 3, ⟨[], _, _, rfl, by decide, by decide, rfl, rfl, fun z hz => absurd hz List.not_mem_nil⟩, Nat.le_of_ble_eq_true rfl, Or.inl ⟨3, rfl, dL_bytes_12, rfl⟩, ?_⟩
      refine l_iconst dL_bytes_13 ?_
      exact l_ireturn dL_bytes_14 (by omega) (by omega) (Or.inr ⟨_, M', _, hc, hp, rfl, rfl⟩)
    · refine ⟨15, 1, 3, ⟨[(0, 9, 12, 20)], _, _, rfl, by decide, by decide, rfl, rfl, fun z hz => by
        simp only [List.mem_cons, List.not_mem_nil, or_false] at hz
        rcases hz with rfl <;> exact ⟨_, rfl, by decide⟩⟩, Nat.le_of_ble_eq_true rfl, Or.inl ⟨3, rfl, dL_bytes_15, rfl⟩, ?_⟩
      refine l_iconst dL_bytes_16 ?_
      exact l_ireturn dL_bytes_17 (by omega) (by omega) (Or.inr ⟨_, M', _, hc, hp, rfl, rfl⟩)
set_option maxHeartbeats 1000000 in
theorem w_byteAt (hC : qCt mX7_byteAt u' d' [.ref 0, .int (zI a), .int (zI b)] w.1 P') (h1 : ∀ v M', P'.1 v M' → ∃ z, v = some (.int (zI z))) (h2 : ∀ E M', P'.2 E M' → ∃ c, W2 E c) : lCt mL_byteAt u' (d' + 1) [.ref 0, .int (zI a), .int (zI b), .ref 52] w (lPo W2 P' w) := by
  refine l_intro (L := [some (.ref 0), some (.int (zI a)), some (.int (zI b)), some (.ref 52), none]) mdL_byteAt rfl rfl (Nat.le_of_ble_eq_true rfl) (fun X cy => ?_)
  refine l_aload_n dL_byteAt_0 rfl ?_
  refine l_iconst dL_byteAt_1 ?_
  refine l_aload_n dL_byteAt_2 rfl ?_
  refine l_iload_n dL_byteAt_3 rfl ?_
  refine l_iload_n dL_byteAt_4 rfl ?_
  refine l_callX (av := [.int (zI a), .int (zI b)]) (o := 0) (rest := [.int (zI 0), .ref 52]) dL_byteAt_5 mlL_51 md_X7_byteAt hC rfl rfl rfl (by show d' + 7 ≤ d' + 1 + 6; omega) (by show 8 + (_ + 11) + (100 + 40 * d') ≤ 100 + 40 * (d' + 1); exact Nat.le_trans (Nat.add_le_add_right (Nat.le_of_ble_eq_true (rfl : Nat.ble _ 40 = true)) _) (by omega)) (by show 0 + u' ≤ u'; omega) (by show 0 + 6 * u' ≤ 6 * u'; omega) (Nat.le_of_ble_eq_true rfl) (fun v M' hp => ?_) (fun E M' hp => ?_)
  · obtain ⟨z, rfl⟩ := h1 v M' hp
    refine l_i2l dL_byteAt_8 ?_
    refine l_lastore dL_byteAt_9 (fun f hf => ?_)
    refine l_goto (tgt := 21) dL_byteAt_10 rfl ?_
    refine l_iconst dL_byteAt_21 ?_
    exact l_ireturn dL_byteAt_22 (by omega) (by omega) (Or.inl ⟨z, M', rfl, hp, rfl, hf⟩)
  · obtain ⟨c, hc⟩ := h2 E M' hp
    rcases id hc with ⟨rfl, rfl | rfl⟩
    · refine ⟨13, 2, 4, ⟨[], _, _, rfl, by decide, by decide, rfl, rfl, fun z hz => absurd hz List.not_mem_nil⟩, Nat.le_of_ble_eq_true rfl, Or.inr ⟨dL_byteAt_13, rfl⟩, ?_⟩
      refine l_iconst dL_byteAt_15 ?_
      exact l_ireturn dL_byteAt_16 (by omega) (by omega) (Or.inr ⟨_, M', _, hc, hp, rfl, rfl⟩)
    · refine ⟨17, 2, 4, ⟨[(0, 10, 13, 20)], _, _, rfl, by decide, by decide, rfl, rfl, fun z hz => by
        simp only [List.mem_cons, List.not_mem_nil, or_false] at hz
        rcases hz with rfl <;> exact ⟨_, rfl, by decide⟩⟩, Nat.le_of_ble_eq_true rfl, Or.inr ⟨dL_byteAt_17, rfl⟩, ?_⟩
      refine l_iconst dL_byteAt_19 ?_
      exact l_ireturn dL_byteAt_20 (by omega) (by omega) (Or.inr ⟨_, M', _, hc, hp, rfl, rfl⟩)
set_option maxHeartbeats 1000000 in
theorem w_parts (hC : qCt mX7_parts u' d' [.ref 0, .int (zI a), .int (zI b)] w.1 P') (h1 : ∀ v M', P'.1 v M' → ∃ z, v = some (.int (zI z))) (h2 : ∀ E M', P'.2 E M' → ∃ c, W3 E c) : lCt mL_parts u' (d' + 1) [.ref 0, .int (zI a), .int (zI b), .ref 52] w (lPo W3 P' w) := by
  refine l_intro (L := [some (.ref 0), some (.int (zI a)), some (.int (zI b)), some (.ref 52), none]) mdL_parts rfl rfl (Nat.le_of_ble_eq_true rfl) (fun X cy => ?_)
  refine l_aload_n dL_parts_0 rfl ?_
  refine l_iconst dL_parts_1 ?_
  refine l_aload_n dL_parts_2 rfl ?_
  refine l_iload_n dL_parts_3 rfl ?_
  refine l_iload_n dL_parts_4 rfl ?_
  refine l_callX (av := [.int (zI a), .int (zI b)]) (o := 0) (rest := [.int (zI 0), .ref 52]) dL_parts_5 mlL_54 md_X7_parts hC rfl rfl rfl (by show d' + 7 ≤ d' + 1 + 6; omega) (by show 8 + (_ + 11) + (100 + 40 * d') ≤ 100 + 40 * (d' + 1); exact Nat.le_trans (Nat.add_le_add_right (Nat.le_of_ble_eq_true (rfl : Nat.ble _ 40 = true)) _) (by omega)) (by show 0 + u' ≤ u'; omega) (by show 0 + 6 * u' ≤ 6 * u'; omega) (Nat.le_of_ble_eq_true rfl) (fun v M' hp => ?_) (fun E M' hp => ?_)
  · obtain ⟨z, rfl⟩ := h1 v M' hp
    refine l_i2l dL_parts_8 ?_
    refine l_lastore dL_parts_9 (fun f hf => ?_)
    refine l_goto (tgt := 25) dL_parts_10 rfl ?_
    refine l_iconst dL_parts_25 ?_
    exact l_ireturn dL_parts_26 (by omega) (by omega) (Or.inl ⟨z, M', rfl, hp, rfl, hf⟩)
  · obtain ⟨c, hc⟩ := h2 E M' hp
    rcases id hc with ⟨rfl, rfl | rfl | rfl⟩
    · refine ⟨13, 2, 4, ⟨[], _, _, rfl, by decide, by decide, rfl, rfl, fun z hz => absurd hz List.not_mem_nil⟩, Nat.le_of_ble_eq_true rfl, Or.inr ⟨dL_parts_13, rfl⟩, ?_⟩
      refine l_iconst dL_parts_15 ?_
      exact l_ireturn dL_parts_16 (by omega) (by omega) (Or.inr ⟨_, M', _, hc, hp, rfl, rfl⟩)
    · refine ⟨17, 2, 4, ⟨[(0, 10, 13, 20)], _, _, rfl, by decide, by decide, rfl, rfl, fun z hz => by
        simp only [List.mem_cons, List.not_mem_nil, or_false] at hz
        rcases hz with rfl <;> exact ⟨_, rfl, by decide⟩⟩, Nat.le_of_ble_eq_true rfl, Or.inr ⟨dL_parts_17, rfl⟩, ?_⟩
      refine l_iconst dL_parts_19 ?_
      exact l_ireturn dL_parts_20 (by omega) (by omega) (Or.inr ⟨_, M', _, hc, hp, rfl, rfl⟩)
    · refine ⟨21, 2, 4, ⟨[(0, 10, 13, 20), (0, 10, 17, 13)], _, _, rfl, by decide, by decide, rfl, rfl, fun z hz => by
        simp only [List.mem_cons, List.not_mem_nil, or_false] at hz
        rcases hz with rfl | rfl <;> exact ⟨_, rfl, by decide⟩⟩, Nat.le_of_ble_eq_true rfl, Or.inr ⟨dL_parts_21, rfl⟩, ?_⟩
      refine l_iconst dL_parts_23 ?_
      exact l_ireturn dL_parts_24 (by omega) (by omega) (Or.inr ⟨_, M', _, hc, hp, rfl, rfl⟩)
set_option maxHeartbeats 1000000 in
theorem w_block (hC : qCt mX7_block u' d' [.ref 0, .int (zI a), .int (zI b), .int (zI c), .int (zI d)] w.1 P') (h1 : ∀ v M', P'.1 v M' → ∃ z, v = some (.int (zI z))) (h2 : ∀ E M', P'.2 E M' → ∃ c, W3 E c) : lCt mL_block u' (d' + 1) [.ref 0, .int (zI a), .int (zI b), .int (zI c), .int (zI d), .ref 52] w (lPo W3 P' w) := by
  refine l_intro (L := [some (.ref 0), some (.int (zI a)), some (.int (zI b)), some (.int (zI c)), some (.int (zI d)), some (.ref 52), none]) mdL_block rfl rfl (Nat.le_of_ble_eq_true rfl) (fun X cy => ?_)
  refine l_aload dL_block_0 rfl ?_
  refine l_iconst dL_block_2 ?_
  refine l_aload_n dL_block_3 rfl ?_
  refine l_iload_n dL_block_4 rfl ?_
  refine l_iload_n dL_block_5 rfl ?_
  refine l_iload_n dL_block_6 rfl ?_
  refine l_iload dL_block_7 rfl ?_
  refine l_callX (av := [.int (zI a), .int (zI b), .int (zI c), .int (zI d)]) (o := 0) (rest := [.int (zI 0), .ref 52]) dL_block_9 mlL_57 md_X7_block hC rfl rfl rfl (by show d' + 7 ≤ d' + 1 + 6; omega) (by show 8 + (_ + 11) + (100 + 40 * d') ≤ 100 + 40 * (d' + 1); exact Nat.le_trans (Nat.add_le_add_right (Nat.le_of_ble_eq_true (rfl : Nat.ble _ 40 = true)) _) (by omega)) (by show 0 + u' ≤ u'; omega) (by show 0 + 6 * u' ≤ 6 * u'; omega) (Nat.le_of_ble_eq_true rfl) (fun v M' hp => ?_) (fun E M' hp => ?_)
  · obtain ⟨z, rfl⟩ := h1 v M' hp
    refine l_i2l dL_block_12 ?_
    refine l_lastore dL_block_13 (fun f hf => ?_)
    refine l_goto (tgt := 29) dL_block_14 rfl ?_
    refine l_iconst dL_block_29 ?_
    exact l_ireturn dL_block_30 (by omega) (by omega) (Or.inl ⟨z, M', rfl, hp, rfl, hf⟩)
  · obtain ⟨c, hc⟩ := h2 E M' hp
    rcases id hc with ⟨rfl, rfl | rfl | rfl⟩
    · refine ⟨17, 2, 6, ⟨[], _, _, rfl, by decide, by decide, rfl, rfl, fun z hz => absurd hz List.not_mem_nil⟩, Nat.le_of_ble_eq_true rfl, Or.inr ⟨dL_block_17, rfl⟩, ?_⟩
      refine l_iconst dL_block_19 ?_
      exact l_ireturn dL_block_20 (by omega) (by omega) (Or.inr ⟨_, M', _, hc, hp, rfl, rfl⟩)
    · refine ⟨21, 2, 6, ⟨[(0, 14, 17, 20)], _, _, rfl, by decide, by decide, rfl, rfl, fun z hz => by
        simp only [List.mem_cons, List.not_mem_nil, or_false] at hz
        rcases hz with rfl <;> exact ⟨_, rfl, by decide⟩⟩, Nat.le_of_ble_eq_true rfl, Or.inr ⟨dL_block_21, rfl⟩, ?_⟩
      refine l_iconst dL_block_23 ?_
      exact l_ireturn dL_block_24 (by omega) (by omega) (Or.inr ⟨_, M', _, hc, hp, rfl, rfl⟩)
    · refine ⟨25, 2, 6, ⟨[(0, 14, 17, 20), (0, 14, 21, 13)], _, _, rfl, by decide, by decide, rfl, rfl, fun z hz => by
        simp only [List.mem_cons, List.not_mem_nil, or_false] at hz
        rcases hz with rfl | rfl <;> exact ⟨_, rfl, by decide⟩⟩, Nat.le_of_ble_eq_true rfl, Or.inr ⟨dL_block_25, rfl⟩, ?_⟩
      refine l_iconst dL_block_27 ?_
      exact l_ireturn dL_block_28 (by omega) (by omega) (Or.inr ⟨_, M', _, hc, hp, rfl, rfl⟩)
set_option maxHeartbeats 1000000 in
theorem w_teller (hC : qCt mX7_teller u' d' [.ref 0, .int (zI a), .int (zI b)] w.1 P') (h1 : ∀ v M', P'.1 v M' → ∃ z, v = some (.int (zI z))) (h2 : ∀ E M', P'.2 E M' → ∃ c, W2 E c) : lCt mL_teller u' (d' + 1) [.ref 0, .int (zI a), .int (zI b), .ref 52] w (lPo W2 P' w) := by
  refine l_intro (L := [some (.ref 0), some (.int (zI a)), some (.int (zI b)), some (.ref 52), none]) mdL_teller rfl rfl (Nat.le_of_ble_eq_true rfl) (fun X cy => ?_)
  refine l_aload_n dL_teller_0 rfl ?_
  refine l_iconst dL_teller_1 ?_
  refine l_aload_n dL_teller_2 rfl ?_
  refine l_iload_n dL_teller_3 rfl ?_
  refine l_iload_n dL_teller_4 rfl ?_
  refine l_callX (av := [.int (zI a), .int (zI b)]) (o := 0) (rest := [.int (zI 0), .ref 52]) dL_teller_5 mlL_61 md_X7_teller hC rfl rfl rfl (by show d' + 7 ≤ d' + 1 + 6; omega) (by show 8 + (_ + 11) + (100 + 40 * d') ≤ 100 + 40 * (d' + 1); exact Nat.le_trans (Nat.add_le_add_right (Nat.le_of_ble_eq_true (rfl : Nat.ble _ 40 = true)) _) (by omega)) (by show 0 + u' ≤ u'; omega) (by show 0 + 6 * u' ≤ 6 * u'; omega) (Nat.le_of_ble_eq_true rfl) (fun v M' hp => ?_) (fun E M' hp => ?_)
  · obtain ⟨z, rfl⟩ := h1 v M' hp
    refine l_i2l dL_teller_8 ?_
    refine l_lastore dL_teller_9 (fun f hf => ?_)
    refine l_goto (tgt := 21) dL_teller_10 rfl ?_
    refine l_iconst dL_teller_21 ?_
    exact l_ireturn dL_teller_22 (by omega) (by omega) (Or.inl ⟨z, M', rfl, hp, rfl, hf⟩)
  · obtain ⟨c, hc⟩ := h2 E M' hp
    rcases id hc with ⟨rfl, rfl | rfl⟩
    · refine ⟨13, 2, 4, ⟨[], _, _, rfl, by decide, by decide, rfl, rfl, fun z hz => absurd hz List.not_mem_nil⟩, Nat.le_of_ble_eq_true rfl, Or.inr ⟨dL_teller_13, rfl⟩, ?_⟩
      refine l_iconst dL_teller_15 ?_
      exact l_ireturn dL_teller_16 (by omega) (by omega) (Or.inr ⟨_, M', _, hc, hp, rfl, rfl⟩)
    · refine ⟨17, 2, 4, ⟨[(0, 10, 13, 20)], _, _, rfl, by decide, by decide, rfl, rfl, fun z hz => by
        simp only [List.mem_cons, List.not_mem_nil, or_false] at hz
        rcases hz with rfl <;> exact ⟨_, rfl, by decide⟩⟩, Nat.le_of_ble_eq_true rfl, Or.inr ⟨dL_teller_17, rfl⟩, ?_⟩
      refine l_iconst dL_teller_19 ?_
      exact l_ireturn dL_teller_20 (by omega) (by omega) (Or.inr ⟨_, M', _, hc, hp, rfl, rfl⟩)
set_option maxHeartbeats 1000000 in
theorem w_told (hC : qCt mX7_told u' d' [.ref 0, .int (zI a), .int (zI b)] w.1 P') (h1 : ∀ v M', P'.1 v M' → ∃ z, v = some (.int (zI z))) (h2 : ∀ E M', P'.2 E M' → ∃ c, W2 E c) : lCt mL_told u' (d' + 1) [.ref 0, .int (zI a), .int (zI b), .ref 52] w (lPo W2 P' w) := by
  refine l_intro (L := [some (.ref 0), some (.int (zI a)), some (.int (zI b)), some (.ref 52), none]) mdL_told rfl rfl (Nat.le_of_ble_eq_true rfl) (fun X cy => ?_)
  refine l_aload_n dL_told_0 rfl ?_
  refine l_iconst dL_told_1 ?_
  refine l_aload_n dL_told_2 rfl ?_
  refine l_iload_n dL_told_3 rfl ?_
  refine l_iload_n dL_told_4 rfl ?_
  refine l_callX (av := [.int (zI a), .int (zI b)]) (o := 0) (rest := [.int (zI 0), .ref 52]) dL_told_5 mlL_64 md_X7_told hC rfl rfl rfl (by show d' + 7 ≤ d' + 1 + 6; omega) (by show 8 + (_ + 11) + (100 + 40 * d') ≤ 100 + 40 * (d' + 1); exact Nat.le_trans (Nat.add_le_add_right (Nat.le_of_ble_eq_true (rfl : Nat.ble _ 40 = true)) _) (by omega)) (by show 0 + u' ≤ u'; omega) (by show 0 + 6 * u' ≤ 6 * u'; omega) (Nat.le_of_ble_eq_true rfl) (fun v M' hp => ?_) (fun E M' hp => ?_)
  · obtain ⟨z, rfl⟩ := h1 v M' hp
    refine l_i2l dL_told_8 ?_
    refine l_lastore dL_told_9 (fun f hf => ?_)
    refine l_goto (tgt := 21) dL_told_10 rfl ?_
    refine l_iconst dL_told_21 ?_
    exact l_ireturn dL_told_22 (by omega) (by omega) (Or.inl ⟨z, M', rfl, hp, rfl, hf⟩)
  · obtain ⟨c, hc⟩ := h2 E M' hp
    rcases id hc with ⟨rfl, rfl | rfl⟩
    · refine ⟨13, 2, 4, ⟨[], _, _, rfl, by decide, by decide, rfl, rfl, fun z hz => absurd hz List.not_mem_nil⟩, Nat.le_of_ble_eq_true rfl, Or.inr ⟨dL_told_13, rfl⟩, ?_⟩
      refine l_iconst dL_told_15 ?_
      exact l_ireturn dL_told_16 (by omega) (by omega) (Or.inr ⟨_, M', _, hc, hp, rfl, rfl⟩)
    · refine ⟨17, 2, 4, ⟨[(0, 10, 13, 20)], _, _, rfl, by decide, by decide, rfl, rfl, fun z hz => by
        simp only [List.mem_cons, List.not_mem_nil, or_false] at hz
        rcases hz with rfl <;> exact ⟨_, rfl, by decide⟩⟩, Nat.le_of_ble_eq_true rfl, Or.inr ⟨dL_told_17, rfl⟩, ?_⟩
      refine l_iconst dL_told_19 ?_
      exact l_ireturn dL_told_20 (by omega) (by omega) (Or.inr ⟨_, M', _, hc, hp, rfl, rfl⟩)
set_option maxHeartbeats 1000000 in
theorem w_lowest (hC : qCt mX7_lowest u' d' [.ref 0, .int (zI a)] w.1 P') (h1 : ∀ v M', P'.1 v M' → ∃ z, v = some (.int (zI z))) (h2 : ∀ E M', P'.2 E M' → ∃ c, W2 E c) : lCt mL_lowest u' (d' + 1) [.ref 0, .int (zI a), .ref 52] w (lPo W2 P' w) := by
  refine l_intro (L := [some (.ref 0), some (.int (zI a)), some (.ref 52), none]) mdL_lowest rfl rfl (Nat.le_of_ble_eq_true rfl) (fun X cy => ?_)
  refine l_aload_n dL_lowest_0 rfl ?_
  refine l_iconst dL_lowest_1 ?_
  refine l_aload_n dL_lowest_2 rfl ?_
  refine l_iload_n dL_lowest_3 rfl ?_
  refine l_callX (av := [.int (zI a)]) (o := 0) (rest := [.int (zI 0), .ref 52]) dL_lowest_4 mlL_67 md_X7_lowest hC rfl rfl rfl (by show d' + 7 ≤ d' + 1 + 6; omega) (by show 8 + (_ + 11) + (100 + 40 * d') ≤ 100 + 40 * (d' + 1); exact Nat.le_trans (Nat.add_le_add_right (Nat.le_of_ble_eq_true (rfl : Nat.ble _ 40 = true)) _) (by omega)) (by show 0 + u' ≤ u'; omega) (by show 0 + 6 * u' ≤ 6 * u'; omega) (Nat.le_of_ble_eq_true rfl) (fun v M' hp => ?_) (fun E M' hp => ?_)
  · obtain ⟨z, rfl⟩ := h1 v M' hp
    refine l_i2l dL_lowest_7 ?_
    refine l_lastore dL_lowest_8 (fun f hf => ?_)
    refine l_goto (tgt := 18) dL_lowest_9 rfl ?_
    refine l_iconst dL_lowest_18 ?_
    exact l_ireturn dL_lowest_19 (by omega) (by omega) (Or.inl ⟨z, M', rfl, hp, rfl, hf⟩)
  · obtain ⟨c, hc⟩ := h2 E M' hp
    rcases id hc with ⟨rfl, rfl | rfl⟩
    · refine ⟨12, 1, 3, ⟨[], _, _, rfl, by decide, by decide, rfl, rfl, fun z hz => absurd hz List.not_mem_nil⟩, Nat.le_of_ble_eq_true rfl, Or.inl ⟨3, rfl, dL_lowest_12, rfl⟩, ?_⟩
      refine l_iconst dL_lowest_13 ?_
      exact l_ireturn dL_lowest_14 (by omega) (by omega) (Or.inr ⟨_, M', _, hc, hp, rfl, rfl⟩)
    · refine ⟨15, 1, 3, ⟨[(0, 9, 12, 20)], _, _, rfl, by decide, by decide, rfl, rfl, fun z hz => by
        simp only [List.mem_cons, List.not_mem_nil, or_false] at hz
        rcases hz with rfl <;> exact ⟨_, rfl, by decide⟩⟩, Nat.le_of_ble_eq_true rfl, Or.inl ⟨3, rfl, dL_lowest_15, rfl⟩, ?_⟩
      refine l_iconst dL_lowest_16 ?_
      exact l_ireturn dL_lowest_17 (by omega) (by omega) (Or.inr ⟨_, M', _, hc, hp, rfl, rfl⟩)
set_option maxHeartbeats 1000000 in
theorem w_biggest (hC : qCt mX7_biggest u' d' [.ref 0, .int (zI a), .int (zI b)] w.1 P') (h1 : ∀ v M', P'.1 v M' → ∃ z, v = some (.int (zI z))) (h2 : ∀ E M', P'.2 E M' → ∃ c, W3 E c) : lCt mL_biggest u' (d' + 1) [.ref 0, .int (zI a), .int (zI b), .ref 52] w (lPo W3 P' w) := by
  refine l_intro (L := [some (.ref 0), some (.int (zI a)), some (.int (zI b)), some (.ref 52), none]) mdL_biggest rfl rfl (Nat.le_of_ble_eq_true rfl) (fun X cy => ?_)
  refine l_aload_n dL_biggest_0 rfl ?_
  refine l_iconst dL_biggest_1 ?_
  refine l_aload_n dL_biggest_2 rfl ?_
  refine l_iload_n dL_biggest_3 rfl ?_
  refine l_iload_n dL_biggest_4 rfl ?_
  refine l_callX (av := [.int (zI a), .int (zI b)]) (o := 0) (rest := [.int (zI 0), .ref 52]) dL_biggest_5 mlL_70 md_X7_biggest hC rfl rfl rfl (by show d' + 7 ≤ d' + 1 + 6; omega) (by show 8 + (_ + 11) + (100 + 40 * d') ≤ 100 + 40 * (d' + 1); exact Nat.le_trans (Nat.add_le_add_right (Nat.le_of_ble_eq_true (rfl : Nat.ble _ 40 = true)) _) (by omega)) (by show 0 + u' ≤ u'; omega) (by show 0 + 6 * u' ≤ 6 * u'; omega) (Nat.le_of_ble_eq_true rfl) (fun v M' hp => ?_) (fun E M' hp => ?_)
  · obtain ⟨z, rfl⟩ := h1 v M' hp
    refine l_i2l dL_biggest_8 ?_
    refine l_lastore dL_biggest_9 (fun f hf => ?_)
    refine l_goto (tgt := 25) dL_biggest_10 rfl ?_
    refine l_iconst dL_biggest_25 ?_
    exact l_ireturn dL_biggest_26 (by omega) (by omega) (Or.inl ⟨z, M', rfl, hp, rfl, hf⟩)
  · obtain ⟨c, hc⟩ := h2 E M' hp
    rcases id hc with ⟨rfl, rfl | rfl | rfl⟩
    · refine ⟨13, 2, 4, ⟨[], _, _, rfl, by decide, by decide, rfl, rfl, fun z hz => absurd hz List.not_mem_nil⟩, Nat.le_of_ble_eq_true rfl, Or.inr ⟨dL_biggest_13, rfl⟩, ?_⟩
      refine l_iconst dL_biggest_15 ?_
      exact l_ireturn dL_biggest_16 (by omega) (by omega) (Or.inr ⟨_, M', _, hc, hp, rfl, rfl⟩)
    · refine ⟨17, 2, 4, ⟨[(0, 10, 13, 20)], _, _, rfl, by decide, by decide, rfl, rfl, fun z hz => by
        simp only [List.mem_cons, List.not_mem_nil, or_false] at hz
        rcases hz with rfl <;> exact ⟨_, rfl, by decide⟩⟩, Nat.le_of_ble_eq_true rfl, Or.inr ⟨dL_biggest_17, rfl⟩, ?_⟩
      refine l_iconst dL_biggest_19 ?_
      exact l_ireturn dL_biggest_20 (by omega) (by omega) (Or.inr ⟨_, M', _, hc, hp, rfl, rfl⟩)
    · refine ⟨21, 2, 4, ⟨[(0, 10, 13, 20), (0, 10, 17, 13)], _, _, rfl, by decide, by decide, rfl, rfl, fun z hz => by
        simp only [List.mem_cons, List.not_mem_nil, or_false] at hz
        rcases hz with rfl | rfl <;> exact ⟨_, rfl, by decide⟩⟩, Nat.le_of_ble_eq_true rfl, Or.inr ⟨dL_biggest_21, rfl⟩, ?_⟩
      refine l_iconst dL_biggest_23 ?_
      exact l_ireturn dL_biggest_24 (by omega) (by omega) (Or.inr ⟨_, M', _, hc, hp, rfl, rfl⟩)
set_option maxHeartbeats 1000000 in
theorem w_cheapest (hC : qCt mX7_cheapest u' d' [.ref 0] w.1 P') (h1 : ∀ v M', P'.1 v M' → ∃ z, v = some (.int (zI z))) (h2 : ∀ E M', P'.2 E M' → ∃ c, W1 E c) : lCt mL_cheapest u' (d' + 1) [.ref 0, .ref 52] w (lPo W1 P' w) := by
  refine l_intro (L := [some (.ref 0), some (.ref 52), none]) mdL_cheapest rfl rfl (Nat.le_of_ble_eq_true rfl) (fun X cy => ?_)
  refine l_aload_n dL_cheapest_0 rfl ?_
  refine l_iconst dL_cheapest_1 ?_
  refine l_aload_n dL_cheapest_2 rfl ?_
  refine l_callX (av := []) (o := 0) (rest := [.int (zI 0), .ref 52]) dL_cheapest_3 mlL_73 md_X7_cheapest hC rfl rfl rfl (by show d' + 7 ≤ d' + 1 + 6; omega) (by show 8 + (_ + 11) + (100 + 40 * d') ≤ 100 + 40 * (d' + 1); exact Nat.le_trans (Nat.add_le_add_right (Nat.le_of_ble_eq_true (rfl : Nat.ble _ 40 = true)) _) (by omega)) (by show 0 + u' ≤ u'; omega) (by show 0 + 6 * u' ≤ 6 * u'; omega) (Nat.le_of_ble_eq_true rfl) (fun v M' hp => ?_) (fun E M' hp => ?_)
  · obtain ⟨z, rfl⟩ := h1 v M' hp
    refine l_i2l dL_cheapest_6 ?_
    refine l_lastore dL_cheapest_7 (fun f hf => ?_)
    refine l_goto (tgt := 14) dL_cheapest_8 rfl ?_
    refine l_iconst dL_cheapest_14 ?_
    exact l_ireturn dL_cheapest_15 (by omega) (by omega) (Or.inl ⟨z, M', rfl, hp, rfl, hf⟩)
  · obtain ⟨c, hc⟩ := h2 E M' hp
    rcases id hc with ⟨rfl, rfl⟩
    · refine ⟨11, 1, 2, ⟨[], _, _, rfl, by decide, by decide, rfl, rfl, fun z hz => absurd hz List.not_mem_nil⟩, Nat.le_of_ble_eq_true rfl, Or.inl ⟨2, rfl, dL_cheapest_11, rfl⟩, ?_⟩
      refine l_iconst dL_cheapest_12 ?_
      exact l_ireturn dL_cheapest_13 (by omega) (by omega) (Or.inr ⟨_, M', _, hc, hp, rfl, rfl⟩)
set_option maxHeartbeats 1000000 in
theorem w_common (hC : qCt mX7_common u' d' [.ref 0, .int (zI a), .int (zI b)] w.1 P') (h1 : ∀ v M', P'.1 v M' → ∃ z, v = some (.int (zI z))) (h2 : ∀ E M', P'.2 E M' → ∃ c, W2 E c) : lCt mL_common u' (d' + 1) [.ref 0, .int (zI a), .int (zI b), .ref 52] w (lPo W2 P' w) := by
  refine l_intro (L := [some (.ref 0), some (.int (zI a)), some (.int (zI b)), some (.ref 52), none]) mdL_common rfl rfl (Nat.le_of_ble_eq_true rfl) (fun X cy => ?_)
  refine l_aload_n dL_common_0 rfl ?_
  refine l_iconst dL_common_1 ?_
  refine l_aload_n dL_common_2 rfl ?_
  refine l_iload_n dL_common_3 rfl ?_
  refine l_iload_n dL_common_4 rfl ?_
  refine l_callX (av := [.int (zI a), .int (zI b)]) (o := 0) (rest := [.int (zI 0), .ref 52]) dL_common_5 mlL_85 md_X7_common hC rfl rfl rfl (by show d' + 7 ≤ d' + 1 + 6; omega) (by show 8 + (_ + 11) + (100 + 40 * d') ≤ 100 + 40 * (d' + 1); exact Nat.le_trans (Nat.add_le_add_right (Nat.le_of_ble_eq_true (rfl : Nat.ble _ 40 = true)) _) (by omega)) (by show 0 + u' ≤ u'; omega) (by show 0 + 6 * u' ≤ 6 * u'; omega) (Nat.le_of_ble_eq_true rfl) (fun v M' hp => ?_) (fun E M' hp => ?_)
  · obtain ⟨z, rfl⟩ := h1 v M' hp
    refine l_i2l dL_common_8 ?_
    refine l_lastore dL_common_9 (fun f hf => ?_)
    refine l_goto (tgt := 21) dL_common_10 rfl ?_
    refine l_iconst dL_common_21 ?_
    exact l_ireturn dL_common_22 (by omega) (by omega) (Or.inl ⟨z, M', rfl, hp, rfl, hf⟩)
  · obtain ⟨c, hc⟩ := h2 E M' hp
    rcases id hc with ⟨rfl, rfl | rfl⟩
    · refine ⟨13, 2, 4, ⟨[], _, _, rfl, by decide, by decide, rfl, rfl, fun z hz => absurd hz List.not_mem_nil⟩, Nat.le_of_ble_eq_true rfl, Or.inr ⟨dL_common_13, rfl⟩, ?_⟩
      refine l_iconst dL_common_15 ?_
      exact l_ireturn dL_common_16 (by omega) (by omega) (Or.inr ⟨_, M', _, hc, hp, rfl, rfl⟩)
    · refine ⟨17, 2, 4, ⟨[(0, 10, 13, 20)], _, _, rfl, by decide, by decide, rfl, rfl, fun z hz => by
        simp only [List.mem_cons, List.not_mem_nil, or_false] at hz
        rcases hz with rfl <;> exact ⟨_, rfl, by decide⟩⟩, Nat.le_of_ble_eq_true rfl, Or.inr ⟨dL_common_17, rfl⟩, ?_⟩
      refine l_iconst dL_common_19 ?_
      exact l_ireturn dL_common_20 (by omega) (by omega) (Or.inr ⟨_, M', _, hc, hp, rfl, rfl⟩)
set_option maxHeartbeats 1000000 in
theorem w_distance (hC : qCt mX7_distance u' d' [.ref 0, .int (zI a), .int (zI b)] w.1 P') (h1 : ∀ v M', P'.1 v M' → ∃ z, v = some (.int (zI z))) (h2 : ∀ E M', P'.2 E M' → ∃ c, W2 E c) : lCt mL_distance u' (d' + 1) [.ref 0, .int (zI a), .int (zI b), .ref 52] w (lPo W2 P' w) := by
  refine l_intro (L := [some (.ref 0), some (.int (zI a)), some (.int (zI b)), some (.ref 52), none]) mdL_distance rfl rfl (Nat.le_of_ble_eq_true rfl) (fun X cy => ?_)
  refine l_aload_n dL_distance_0 rfl ?_
  refine l_iconst dL_distance_1 ?_
  refine l_aload_n dL_distance_2 rfl ?_
  refine l_iload_n dL_distance_3 rfl ?_
  refine l_iload_n dL_distance_4 rfl ?_
  refine l_callX (av := [.int (zI a), .int (zI b)]) (o := 0) (rest := [.int (zI 0), .ref 52]) dL_distance_5 mlL_88 md_X7_distance hC rfl rfl rfl (by show d' + 7 ≤ d' + 1 + 6; omega) (by show 8 + (_ + 11) + (100 + 40 * d') ≤ 100 + 40 * (d' + 1); exact Nat.le_trans (Nat.add_le_add_right (Nat.le_of_ble_eq_true (rfl : Nat.ble _ 40 = true)) _) (by omega)) (by show 0 + u' ≤ u'; omega) (by show 0 + 6 * u' ≤ 6 * u'; omega) (Nat.le_of_ble_eq_true rfl) (fun v M' hp => ?_) (fun E M' hp => ?_)
  · obtain ⟨z, rfl⟩ := h1 v M' hp
    refine l_i2l dL_distance_8 ?_
    refine l_lastore dL_distance_9 (fun f hf => ?_)
    refine l_goto (tgt := 21) dL_distance_10 rfl ?_
    refine l_iconst dL_distance_21 ?_
    exact l_ireturn dL_distance_22 (by omega) (by omega) (Or.inl ⟨z, M', rfl, hp, rfl, hf⟩)
  · obtain ⟨c, hc⟩ := h2 E M' hp
    rcases id hc with ⟨rfl, rfl | rfl⟩
    · refine ⟨13, 2, 4, ⟨[], _, _, rfl, by decide, by decide, rfl, rfl, fun z hz => absurd hz List.not_mem_nil⟩, Nat.le_of_ble_eq_true rfl, Or.inr ⟨dL_distance_13, rfl⟩, ?_⟩
      refine l_iconst dL_distance_15 ?_
      exact l_ireturn dL_distance_16 (by omega) (by omega) (Or.inr ⟨_, M', _, hc, hp, rfl, rfl⟩)
    · refine ⟨17, 2, 4, ⟨[(0, 10, 13, 20)], _, _, rfl, by decide, by decide, rfl, rfl, fun z hz => by
        simp only [List.mem_cons, List.not_mem_nil, or_false] at hz
        rcases hz with rfl <;> exact ⟨_, rfl, by decide⟩⟩, Nat.le_of_ble_eq_true rfl, Or.inr ⟨dL_distance_17, rfl⟩, ?_⟩
      refine l_iconst dL_distance_19 ?_
      exact l_ireturn dL_distance_20 (by omega) (by omega) (Or.inr ⟨_, M', _, hc, hp, rfl, rfl⟩)
set_option maxHeartbeats 1000000 in
theorem w_differs (hC : qCt mX7_differs u' d' [.ref 0, .int (zI a), .int (zI b)] w.1 P') (h1 : ∀ v M', P'.1 v M' → ∃ z, v = some (.int (zI z))) (h2 : ∀ E M', P'.2 E M' → ∃ c, W2 E c) : lCt mL_differs u' (d' + 1) [.ref 0, .int (zI a), .int (zI b), .ref 52] w (lPo W2 P' w) := by
  refine l_intro (L := [some (.ref 0), some (.int (zI a)), some (.int (zI b)), some (.ref 52), none]) mdL_differs rfl rfl (Nat.le_of_ble_eq_true rfl) (fun X cy => ?_)
  refine l_aload_n dL_differs_0 rfl ?_
  refine l_iconst dL_differs_1 ?_
  refine l_aload_n dL_differs_2 rfl ?_
  refine l_iload_n dL_differs_3 rfl ?_
  refine l_iload_n dL_differs_4 rfl ?_
  refine l_callX (av := [.int (zI a), .int (zI b)]) (o := 0) (rest := [.int (zI 0), .ref 52]) dL_differs_5 mlL_91 md_X7_differs hC rfl rfl rfl (by show d' + 7 ≤ d' + 1 + 6; omega) (by show 8 + (_ + 11) + (100 + 40 * d') ≤ 100 + 40 * (d' + 1); exact Nat.le_trans (Nat.add_le_add_right (Nat.le_of_ble_eq_true (rfl : Nat.ble _ 40 = true)) _) (by omega)) (by show 0 + u' ≤ u'; omega) (by show 0 + 6 * u' ≤ 6 * u'; omega) (Nat.le_of_ble_eq_true rfl) (fun v M' hp => ?_) (fun E M' hp => ?_)
  · obtain ⟨z, rfl⟩ := h1 v M' hp
    refine l_i2l dL_differs_8 ?_
    refine l_lastore dL_differs_9 (fun f hf => ?_)
    refine l_goto (tgt := 21) dL_differs_10 rfl ?_
    refine l_iconst dL_differs_21 ?_
    exact l_ireturn dL_differs_22 (by omega) (by omega) (Or.inl ⟨z, M', rfl, hp, rfl, hf⟩)
  · obtain ⟨c, hc⟩ := h2 E M' hp
    rcases id hc with ⟨rfl, rfl | rfl⟩
    · refine ⟨13, 2, 4, ⟨[], _, _, rfl, by decide, by decide, rfl, rfl, fun z hz => absurd hz List.not_mem_nil⟩, Nat.le_of_ble_eq_true rfl, Or.inr ⟨dL_differs_13, rfl⟩, ?_⟩
      refine l_iconst dL_differs_15 ?_
      exact l_ireturn dL_differs_16 (by omega) (by omega) (Or.inr ⟨_, M', _, hc, hp, rfl, rfl⟩)
    · refine ⟨17, 2, 4, ⟨[(0, 10, 13, 20)], _, _, rfl, by decide, by decide, rfl, rfl, fun z hz => by
        simp only [List.mem_cons, List.not_mem_nil, or_false] at hz
        rcases hz with rfl <;> exact ⟨_, rfl, by decide⟩⟩, Nat.le_of_ble_eq_true rfl, Or.inr ⟨dL_differs_17, rfl⟩, ?_⟩
      refine l_iconst dL_differs_19 ?_
      exact l_ireturn dL_differs_20 (by omega) (by omega) (Or.inr ⟨_, M', _, hc, hp, rfl, rfl⟩)
set_option maxHeartbeats 1000000 in
theorem w_alike (hC : qCt mX7_alike u' d' [.ref 0, .int (zI a), .int (zI b), .int (zI c)] w.1 P') (h1 : ∀ v M', P'.1 v M' → ∃ z, v = some (.int (zI z))) (h2 : ∀ E M', P'.2 E M' → ∃ c, W2 E c) : lCt mL_alike u' (d' + 1) [.ref 0, .int (zI a), .int (zI b), .int (zI c), .ref 52] w (lPo W2 P' w) := by
  refine l_intro (L := [some (.ref 0), some (.int (zI a)), some (.int (zI b)), some (.int (zI c)), some (.ref 52), none]) mdL_alike rfl rfl (Nat.le_of_ble_eq_true rfl) (fun X cy => ?_)
  refine l_aload dL_alike_0 rfl ?_
  refine l_iconst dL_alike_2 ?_
  refine l_aload_n dL_alike_3 rfl ?_
  refine l_iload_n dL_alike_4 rfl ?_
  refine l_iload_n dL_alike_5 rfl ?_
  refine l_iload_n dL_alike_6 rfl ?_
  refine l_callX (av := [.int (zI a), .int (zI b), .int (zI c)]) (o := 0) (rest := [.int (zI 0), .ref 52]) dL_alike_7 mlL_98 md_X7_alike hC rfl rfl rfl (by show d' + 7 ≤ d' + 1 + 6; omega) (by show 8 + (_ + 11) + (100 + 40 * d') ≤ 100 + 40 * (d' + 1); exact Nat.le_trans (Nat.add_le_add_right (Nat.le_of_ble_eq_true (rfl : Nat.ble _ 40 = true)) _) (by omega)) (by show 0 + u' ≤ u'; omega) (by show 0 + 6 * u' ≤ 6 * u'; omega) (Nat.le_of_ble_eq_true rfl) (fun v M' hp => ?_) (fun E M' hp => ?_)
  · obtain ⟨z, rfl⟩ := h1 v M' hp
    refine l_i2l dL_alike_10 ?_
    refine l_lastore dL_alike_11 (fun f hf => ?_)
    refine l_goto (tgt := 23) dL_alike_12 rfl ?_
    refine l_iconst dL_alike_23 ?_
    exact l_ireturn dL_alike_24 (by omega) (by omega) (Or.inl ⟨z, M', rfl, hp, rfl, hf⟩)
  · obtain ⟨c, hc⟩ := h2 E M' hp
    rcases id hc with ⟨rfl, rfl | rfl⟩
    · refine ⟨15, 2, 5, ⟨[], _, _, rfl, by decide, by decide, rfl, rfl, fun z hz => absurd hz List.not_mem_nil⟩, Nat.le_of_ble_eq_true rfl, Or.inr ⟨dL_alike_15, rfl⟩, ?_⟩
      refine l_iconst dL_alike_17 ?_
      exact l_ireturn dL_alike_18 (by omega) (by omega) (Or.inr ⟨_, M', _, hc, hp, rfl, rfl⟩)
    · refine ⟨19, 2, 5, ⟨[(0, 12, 15, 20)], _, _, rfl, by decide, by decide, rfl, rfl, fun z hz => by
        simp only [List.mem_cons, List.not_mem_nil, or_false] at hz
        rcases hz with rfl <;> exact ⟨_, rfl, by decide⟩⟩, Nat.le_of_ble_eq_true rfl, Or.inr ⟨dL_alike_19, rfl⟩, ?_⟩
      refine l_iconst dL_alike_21 ?_
      exact l_ireturn dL_alike_22 (by omega) (by omega) (Or.inr ⟨_, M', _, hc, hp, rfl, rfl⟩)
set_option maxHeartbeats 1000000 in
theorem w_combined (hC : qCt mX7_combined u' d' [.ref 0, .int (zI a), .int (zI b), .int (zI c)] w.1 P') (h1 : ∀ v M', P'.1 v M' → ∃ z, v = some (.int (zI z))) (h2 : ∀ E M', P'.2 E M' → ∃ c, W3 E c) : lCt mL_combined u' (d' + 1) [.ref 0, .int (zI a), .int (zI b), .int (zI c), .ref 52] w (lPo W3 P' w) := by
  refine l_intro (L := [some (.ref 0), some (.int (zI a)), some (.int (zI b)), some (.int (zI c)), some (.ref 52), none]) mdL_combined rfl rfl (Nat.le_of_ble_eq_true rfl) (fun X cy => ?_)
  refine l_aload dL_combined_0 rfl ?_
  refine l_iconst dL_combined_2 ?_
  refine l_aload_n dL_combined_3 rfl ?_
  refine l_iload_n dL_combined_4 rfl ?_
  refine l_iload_n dL_combined_5 rfl ?_
  refine l_iload_n dL_combined_6 rfl ?_
  refine l_callX (av := [.int (zI a), .int (zI b), .int (zI c)]) (o := 0) (rest := [.int (zI 0), .ref 52]) dL_combined_7 mlL_101 md_X7_combined hC rfl rfl rfl (by show d' + 7 ≤ d' + 1 + 6; omega) (by show 8 + (_ + 11) + (100 + 40 * d') ≤ 100 + 40 * (d' + 1); exact Nat.le_trans (Nat.add_le_add_right (Nat.le_of_ble_eq_true (rfl : Nat.ble _ 40 = true)) _) (by omega)) (by show 0 + u' ≤ u'; omega) (by show 0 + 6 * u' ≤ 6 * u'; omega) (Nat.le_of_ble_eq_true rfl) (fun v M' hp => ?_) (fun E M' hp => ?_)
  · obtain ⟨z, rfl⟩ := h1 v M' hp
    refine l_i2l dL_combined_10 ?_
    refine l_lastore dL_combined_11 (fun f hf => ?_)
    refine l_goto (tgt := 27) dL_combined_12 rfl ?_
    refine l_iconst dL_combined_27 ?_
    exact l_ireturn dL_combined_28 (by omega) (by omega) (Or.inl ⟨z, M', rfl, hp, rfl, hf⟩)
  · obtain ⟨c, hc⟩ := h2 E M' hp
    rcases id hc with ⟨rfl, rfl | rfl | rfl⟩
    · refine ⟨15, 2, 5, ⟨[], _, _, rfl, by decide, by decide, rfl, rfl, fun z hz => absurd hz List.not_mem_nil⟩, Nat.le_of_ble_eq_true rfl, Or.inr ⟨dL_combined_15, rfl⟩, ?_⟩
      refine l_iconst dL_combined_17 ?_
      exact l_ireturn dL_combined_18 (by omega) (by omega) (Or.inr ⟨_, M', _, hc, hp, rfl, rfl⟩)
    · refine ⟨19, 2, 5, ⟨[(0, 12, 15, 20)], _, _, rfl, by decide, by decide, rfl, rfl, fun z hz => by
        simp only [List.mem_cons, List.not_mem_nil, or_false] at hz
        rcases hz with rfl <;> exact ⟨_, rfl, by decide⟩⟩, Nat.le_of_ble_eq_true rfl, Or.inr ⟨dL_combined_19, rfl⟩, ?_⟩
      refine l_iconst dL_combined_21 ?_
      exact l_ireturn dL_combined_22 (by omega) (by omega) (Or.inr ⟨_, M', _, hc, hp, rfl, rfl⟩)
    · refine ⟨23, 2, 5, ⟨[(0, 12, 15, 20), (0, 12, 19, 13)], _, _, rfl, by decide, by decide, rfl, rfl, fun z hz => by
        simp only [List.mem_cons, List.not_mem_nil, or_false] at hz
        rcases hz with rfl | rfl <;> exact ⟨_, rfl, by decide⟩⟩, Nat.le_of_ble_eq_true rfl, Or.inr ⟨dL_combined_23, rfl⟩, ?_⟩
      refine l_iconst dL_combined_25 ?_
      exact l_ireturn dL_combined_26 (by omega) (by omega) (Or.inr ⟨_, M', _, hc, hp, rfl, rfl⟩)
set_option maxHeartbeats 1000000 in
theorem w_nearest (hC : qCt mX7_nearest u' d' [.ref 0, .int (zI a)] w.1 P') (h1 : ∀ v M', P'.1 v M' → ∃ z, v = some (.int (zI z))) (h2 : ∀ E M', P'.2 E M' → ∃ c, W2 E c) : lCt mL_nearest u' (d' + 1) [.ref 0, .int (zI a), .ref 52] w (lPo W2 P' w) := by
  refine l_intro (L := [some (.ref 0), some (.int (zI a)), some (.ref 52), none]) mdL_nearest rfl rfl (Nat.le_of_ble_eq_true rfl) (fun X cy => ?_)
  refine l_aload_n dL_nearest_0 rfl ?_
  refine l_iconst dL_nearest_1 ?_
  refine l_aload_n dL_nearest_2 rfl ?_
  refine l_iload_n dL_nearest_3 rfl ?_
  refine l_callX (av := [.int (zI a)]) (o := 0) (rest := [.int (zI 0), .ref 52]) dL_nearest_4 mlL_104 md_X7_nearest hC rfl rfl rfl (by show d' + 7 ≤ d' + 1 + 6; omega) (by show 8 + (_ + 11) + (100 + 40 * d') ≤ 100 + 40 * (d' + 1); exact Nat.le_trans (Nat.add_le_add_right (Nat.le_of_ble_eq_true (rfl : Nat.ble _ 40 = true)) _) (by omega)) (by show 0 + u' ≤ u'; omega) (by show 0 + 6 * u' ≤ 6 * u'; omega) (Nat.le_of_ble_eq_true rfl) (fun v M' hp => ?_) (fun E M' hp => ?_)
  · obtain ⟨z, rfl⟩ := h1 v M' hp
    refine l_i2l dL_nearest_7 ?_
    refine l_lastore dL_nearest_8 (fun f hf => ?_)
    refine l_goto (tgt := 18) dL_nearest_9 rfl ?_
    refine l_iconst dL_nearest_18 ?_
    exact l_ireturn dL_nearest_19 (by omega) (by omega) (Or.inl ⟨z, M', rfl, hp, rfl, hf⟩)
  · obtain ⟨c, hc⟩ := h2 E M' hp
    rcases id hc with ⟨rfl, rfl | rfl⟩
    · refine ⟨12, 1, 3, ⟨[], _, _, rfl, by decide, by decide, rfl, rfl, fun z hz => absurd hz List.not_mem_nil⟩, Nat.le_of_ble_eq_true rfl, Or.inl ⟨3, rfl, dL_nearest_12, rfl⟩, ?_⟩
      refine l_iconst dL_nearest_13 ?_
      exact l_ireturn dL_nearest_14 (by omega) (by omega) (Or.inr ⟨_, M', _, hc, hp, rfl, rfl⟩)
    · refine ⟨15, 1, 3, ⟨[(0, 9, 12, 20)], _, _, rfl, by decide, by decide, rfl, rfl, fun z hz => by
        simp only [List.mem_cons, List.not_mem_nil, or_false] at hz
        rcases hz with rfl <;> exact ⟨_, rfl, by decide⟩⟩, Nat.le_of_ble_eq_true rfl, Or.inl ⟨3, rfl, dL_nearest_15, rfl⟩, ?_⟩
      refine l_iconst dL_nearest_16 ?_
      exact l_ireturn dL_nearest_17 (by omega) (by omega) (Or.inr ⟨_, M', _, hc, hp, rfl, rfl⟩)
set_option maxHeartbeats 1000000 in
theorem w_bytesIf (hC : qCt mX7_bytesIf u' d' [.ref 0, .int (zI a), .int (zI b)] w.1 P') (h1 : ∀ v M', P'.1 v M' → ∃ z, v = some (.int (zI z))) (h2 : ∀ E M', P'.2 E M' → ∃ c, W2 E c) : lCt mL_bytesIf u' (d' + 1) [.ref 0, .int (zI a), .int (zI b), .ref 52] w (lPo W2 P' w) := by
  refine l_intro (L := [some (.ref 0), some (.int (zI a)), some (.int (zI b)), some (.ref 52), none]) mdL_bytesIf rfl rfl (Nat.le_of_ble_eq_true rfl) (fun X cy => ?_)
  refine l_aload_n dL_bytesIf_0 rfl ?_
  refine l_iconst dL_bytesIf_1 ?_
  refine l_aload_n dL_bytesIf_2 rfl ?_
  refine l_iload_n dL_bytesIf_3 rfl ?_
  refine l_iload_n dL_bytesIf_4 rfl ?_
  refine l_callX (av := [.int (zI a), .int (zI b)]) (o := 0) (rest := [.int (zI 0), .ref 52]) dL_bytesIf_5 mlL_107 md_X7_bytesIf hC rfl rfl rfl (by show d' + 7 ≤ d' + 1 + 6; omega) (by show 8 + (_ + 11) + (100 + 40 * d') ≤ 100 + 40 * (d' + 1); exact Nat.le_trans (Nat.add_le_add_right (Nat.le_of_ble_eq_true (rfl : Nat.ble _ 40 = true)) _) (by omega)) (by show 0 + u' ≤ u'; omega) (by show 0 + 6 * u' ≤ 6 * u'; omega) (Nat.le_of_ble_eq_true rfl) (fun v M' hp => ?_) (fun E M' hp => ?_)
  · obtain ⟨z, rfl⟩ := h1 v M' hp
    refine l_i2l dL_bytesIf_8 ?_
    refine l_lastore dL_bytesIf_9 (fun f hf => ?_)
    refine l_goto (tgt := 21) dL_bytesIf_10 rfl ?_
    refine l_iconst dL_bytesIf_21 ?_
    exact l_ireturn dL_bytesIf_22 (by omega) (by omega) (Or.inl ⟨z, M', rfl, hp, rfl, hf⟩)
  · obtain ⟨c, hc⟩ := h2 E M' hp
    rcases id hc with ⟨rfl, rfl | rfl⟩
    · refine ⟨13, 2, 4, ⟨[], _, _, rfl, by decide, by decide, rfl, rfl, fun z hz => absurd hz List.not_mem_nil⟩, Nat.le_of_ble_eq_true rfl, Or.inr ⟨dL_bytesIf_13, rfl⟩, ?_⟩
      refine l_iconst dL_bytesIf_15 ?_
      exact l_ireturn dL_bytesIf_16 (by omega) (by omega) (Or.inr ⟨_, M', _, hc, hp, rfl, rfl⟩)
    · refine ⟨17, 2, 4, ⟨[(0, 10, 13, 20)], _, _, rfl, by decide, by decide, rfl, rfl, fun z hz => by
        simp only [List.mem_cons, List.not_mem_nil, or_false] at hz
        rcases hz with rfl <;> exact ⟨_, rfl, by decide⟩⟩, Nat.le_of_ble_eq_true rfl, Or.inr ⟨dL_bytesIf_17, rfl⟩, ?_⟩
      refine l_iconst dL_bytesIf_19 ?_
      exact l_ireturn dL_bytesIf_20 (by omega) (by omega) (Or.inr ⟨_, M', _, hc, hp, rfl, rfl⟩)
set_option maxHeartbeats 1000000 in
theorem w_bestFlip (hC : qCt mX7_bestFlip u' d' [.ref 0, .int (zI a), .int (zI b), .int (zI c)] w.1 P') (h1 : ∀ v M', P'.1 v M' → ∃ z, v = some (.int (zI z))) (h2 : ∀ E M', P'.2 E M' → ∃ c, W2 E c) : lCt mL_bestFlip u' (d' + 1) [.ref 0, .int (zI a), .int (zI b), .int (zI c), .ref 52] w (lPo W2 P' w) := by
  refine l_intro (L := [some (.ref 0), some (.int (zI a)), some (.int (zI b)), some (.int (zI c)), some (.ref 52), none]) mdL_bestFlip rfl rfl (Nat.le_of_ble_eq_true rfl) (fun X cy => ?_)
  refine l_aload dL_bestFlip_0 rfl ?_
  refine l_iconst dL_bestFlip_2 ?_
  refine l_aload_n dL_bestFlip_3 rfl ?_
  refine l_iload_n dL_bestFlip_4 rfl ?_
  refine l_iload_n dL_bestFlip_5 rfl ?_
  refine l_iload_n dL_bestFlip_6 rfl ?_
  refine l_callX (av := [.int (zI a), .int (zI b), .int (zI c)]) (o := 0) (rest := [.int (zI 0), .ref 52]) dL_bestFlip_7 mlL_110 md_X7_bestFlip hC rfl rfl rfl (by show d' + 7 ≤ d' + 1 + 6; omega) (by show 8 + (_ + 11) + (100 + 40 * d') ≤ 100 + 40 * (d' + 1); exact Nat.le_trans (Nat.add_le_add_right (Nat.le_of_ble_eq_true (rfl : Nat.ble _ 40 = true)) _) (by omega)) (by show 0 + u' ≤ u'; omega) (by show 0 + 6 * u' ≤ 6 * u'; omega) (Nat.le_of_ble_eq_true rfl) (fun v M' hp => ?_) (fun E M' hp => ?_)
  · obtain ⟨z, rfl⟩ := h1 v M' hp
    refine l_i2l dL_bestFlip_10 ?_
    refine l_lastore dL_bestFlip_11 (fun f hf => ?_)
    refine l_goto (tgt := 23) dL_bestFlip_12 rfl ?_
    refine l_iconst dL_bestFlip_23 ?_
    exact l_ireturn dL_bestFlip_24 (by omega) (by omega) (Or.inl ⟨z, M', rfl, hp, rfl, hf⟩)
  · obtain ⟨c, hc⟩ := h2 E M' hp
    rcases id hc with ⟨rfl, rfl | rfl⟩
    · refine ⟨15, 2, 5, ⟨[], _, _, rfl, by decide, by decide, rfl, rfl, fun z hz => absurd hz List.not_mem_nil⟩, Nat.le_of_ble_eq_true rfl, Or.inr ⟨dL_bestFlip_15, rfl⟩, ?_⟩
      refine l_iconst dL_bestFlip_17 ?_
      exact l_ireturn dL_bestFlip_18 (by omega) (by omega) (Or.inr ⟨_, M', _, hc, hp, rfl, rfl⟩)
    · refine ⟨19, 2, 5, ⟨[(0, 12, 15, 20)], _, _, rfl, by decide, by decide, rfl, rfl, fun z hz => by
        simp only [List.mem_cons, List.not_mem_nil, or_false] at hz
        rcases hz with rfl <;> exact ⟨_, rfl, by decide⟩⟩, Nat.le_of_ble_eq_true rfl, Or.inr ⟨dL_bestFlip_19, rfl⟩, ?_⟩
      refine l_iconst dL_bestFlip_21 ?_
      exact l_ireturn dL_bestFlip_22 (by omega) (by omega) (Or.inr ⟨_, M', _, hc, hp, rfl, rfl⟩)
set_option maxHeartbeats 1000000 in
theorem w_bytesFilled (hC : qCt mX7_bytesFilled u' d' [.ref 0, .int (zI a), .int (zI b), .int (zI c), .int (zI d)] w.1 P') (h1 : ∀ v M', P'.1 v M' → ∃ z, v = some (.int (zI z))) (h2 : ∀ E M', P'.2 E M' → ∃ c, W3 E c) : lCt mL_bytesFilled u' (d' + 1) [.ref 0, .int (zI a), .int (zI b), .int (zI c), .int (zI d), .ref 52] w (lPo W3 P' w) := by
  refine l_intro (L := [some (.ref 0), some (.int (zI a)), some (.int (zI b)), some (.int (zI c)), some (.int (zI d)), some (.ref 52), none]) mdL_bytesFilled rfl rfl (Nat.le_of_ble_eq_true rfl) (fun X cy => ?_)
  refine l_aload dL_bytesFilled_0 rfl ?_
  refine l_iconst dL_bytesFilled_2 ?_
  refine l_aload_n dL_bytesFilled_3 rfl ?_
  refine l_iload_n dL_bytesFilled_4 rfl ?_
  refine l_iload_n dL_bytesFilled_5 rfl ?_
  refine l_iload_n dL_bytesFilled_6 rfl ?_
  refine l_iload dL_bytesFilled_7 rfl ?_
  refine l_callX (av := [.int (zI a), .int (zI b), .int (zI c), .int (zI d)]) (o := 0) (rest := [.int (zI 0), .ref 52]) dL_bytesFilled_9 mlL_113 md_X7_bytesFilled hC rfl rfl rfl (by show d' + 7 ≤ d' + 1 + 6; omega) (by show 8 + (_ + 11) + (100 + 40 * d') ≤ 100 + 40 * (d' + 1); exact Nat.le_trans (Nat.add_le_add_right (Nat.le_of_ble_eq_true (rfl : Nat.ble _ 40 = true)) _) (by omega)) (by show 0 + u' ≤ u'; omega) (by show 0 + 6 * u' ≤ 6 * u'; omega) (Nat.le_of_ble_eq_true rfl) (fun v M' hp => ?_) (fun E M' hp => ?_)
  · obtain ⟨z, rfl⟩ := h1 v M' hp
    refine l_i2l dL_bytesFilled_12 ?_
    refine l_lastore dL_bytesFilled_13 (fun f hf => ?_)
    refine l_goto (tgt := 29) dL_bytesFilled_14 rfl ?_
    refine l_iconst dL_bytesFilled_29 ?_
    exact l_ireturn dL_bytesFilled_30 (by omega) (by omega) (Or.inl ⟨z, M', rfl, hp, rfl, hf⟩)
  · obtain ⟨c, hc⟩ := h2 E M' hp
    rcases id hc with ⟨rfl, rfl | rfl | rfl⟩
    · refine ⟨17, 2, 6, ⟨[], _, _, rfl, by decide, by decide, rfl, rfl, fun z hz => absurd hz List.not_mem_nil⟩, Nat.le_of_ble_eq_true rfl, Or.inr ⟨dL_bytesFilled_17, rfl⟩, ?_⟩
      refine l_iconst dL_bytesFilled_19 ?_
      exact l_ireturn dL_bytesFilled_20 (by omega) (by omega) (Or.inr ⟨_, M', _, hc, hp, rfl, rfl⟩)
    · refine ⟨21, 2, 6, ⟨[(0, 14, 17, 20)], _, _, rfl, by decide, by decide, rfl, rfl, fun z hz => by
        simp only [List.mem_cons, List.not_mem_nil, or_false] at hz
        rcases hz with rfl <;> exact ⟨_, rfl, by decide⟩⟩, Nat.le_of_ble_eq_true rfl, Or.inr ⟨dL_bytesFilled_21, rfl⟩, ?_⟩
      refine l_iconst dL_bytesFilled_23 ?_
      exact l_ireturn dL_bytesFilled_24 (by omega) (by omega) (Or.inr ⟨_, M', _, hc, hp, rfl, rfl⟩)
    · refine ⟨25, 2, 6, ⟨[(0, 14, 17, 20), (0, 14, 21, 13)], _, _, rfl, by decide, by decide, rfl, rfl, fun z hz => by
        simp only [List.mem_cons, List.not_mem_nil, or_false] at hz
        rcases hz with rfl | rfl <;> exact ⟨_, rfl, by decide⟩⟩, Nat.le_of_ble_eq_true rfl, Or.inr ⟨dL_bytesFilled_25, rfl⟩, ?_⟩
      refine l_iconst dL_bytesFilled_27 ?_
      exact l_ireturn dL_bytesFilled_28 (by omega) (by omega) (Or.inr ⟨_, M', _, hc, hp, rfl, rfl⟩)
set_option maxHeartbeats 1000000 in
theorem w_bytesShifted (hC : qCt mX7_bytesShifted u' d' [.ref 0, .int (zI a), .int (zI b)] w.1 P') (h1 : ∀ v M', P'.1 v M' → ∃ z, v = some (.int (zI z))) (h2 : ∀ E M', P'.2 E M' → ∃ c, W2 E c) : lCt mL_bytesShifted u' (d' + 1) [.ref 0, .int (zI a), .int (zI b), .ref 52] w (lPo W2 P' w) := by
  refine l_intro (L := [some (.ref 0), some (.int (zI a)), some (.int (zI b)), some (.ref 52), none]) mdL_bytesShifted rfl rfl (Nat.le_of_ble_eq_true rfl) (fun X cy => ?_)
  refine l_aload_n dL_bytesShifted_0 rfl ?_
  refine l_iconst dL_bytesShifted_1 ?_
  refine l_aload_n dL_bytesShifted_2 rfl ?_
  refine l_iload_n dL_bytesShifted_3 rfl ?_
  refine l_iload_n dL_bytesShifted_4 rfl ?_
  refine l_callX (av := [.int (zI a), .int (zI b)]) (o := 0) (rest := [.int (zI 0), .ref 52]) dL_bytesShifted_5 mlL_116 md_X7_bytesShifted hC rfl rfl rfl (by show d' + 7 ≤ d' + 1 + 6; omega) (by show 8 + (_ + 11) + (100 + 40 * d') ≤ 100 + 40 * (d' + 1); exact Nat.le_trans (Nat.add_le_add_right (Nat.le_of_ble_eq_true (rfl : Nat.ble _ 40 = true)) _) (by omega)) (by show 0 + u' ≤ u'; omega) (by show 0 + 6 * u' ≤ 6 * u'; omega) (Nat.le_of_ble_eq_true rfl) (fun v M' hp => ?_) (fun E M' hp => ?_)
  · obtain ⟨z, rfl⟩ := h1 v M' hp
    refine l_i2l dL_bytesShifted_8 ?_
    refine l_lastore dL_bytesShifted_9 (fun f hf => ?_)
    refine l_goto (tgt := 21) dL_bytesShifted_10 rfl ?_
    refine l_iconst dL_bytesShifted_21 ?_
    exact l_ireturn dL_bytesShifted_22 (by omega) (by omega) (Or.inl ⟨z, M', rfl, hp, rfl, hf⟩)
  · obtain ⟨c, hc⟩ := h2 E M' hp
    rcases id hc with ⟨rfl, rfl | rfl⟩
    · refine ⟨13, 2, 4, ⟨[], _, _, rfl, by decide, by decide, rfl, rfl, fun z hz => absurd hz List.not_mem_nil⟩, Nat.le_of_ble_eq_true rfl, Or.inr ⟨dL_bytesShifted_13, rfl⟩, ?_⟩
      refine l_iconst dL_bytesShifted_15 ?_
      exact l_ireturn dL_bytesShifted_16 (by omega) (by omega) (Or.inr ⟨_, M', _, hc, hp, rfl, rfl⟩)
    · refine ⟨17, 2, 4, ⟨[(0, 10, 13, 20)], _, _, rfl, by decide, by decide, rfl, rfl, fun z hz => by
        simp only [List.mem_cons, List.not_mem_nil, or_false] at hz
        rcases hz with rfl <;> exact ⟨_, rfl, by decide⟩⟩, Nat.le_of_ble_eq_true rfl, Or.inr ⟨dL_bytesShifted_17, rfl⟩, ?_⟩
      refine l_iconst dL_bytesShifted_19 ?_
      exact l_ireturn dL_bytesShifted_20 (by omega) (by omega) (Or.inr ⟨_, M', _, hc, hp, rfl, rfl⟩)
set_option maxHeartbeats 1000000 in
theorem w_mostLike (hC : qCt mX7_mostLike u' d' [.ref 0, .int (zI a), .int (zI b), .int (zI c)] w.1 P') (h1 : ∀ v M', P'.1 v M' → ∃ z, v = some (.int (zI z))) (h2 : ∀ E M', P'.2 E M' → ∃ c, W2 E c) : lCt mL_mostLike u' (d' + 1) [.ref 0, .int (zI a), .int (zI b), .int (zI c), .ref 52] w (lPo W2 P' w) := by
  refine l_intro (L := [some (.ref 0), some (.int (zI a)), some (.int (zI b)), some (.int (zI c)), some (.ref 52), none]) mdL_mostLike rfl rfl (Nat.le_of_ble_eq_true rfl) (fun X cy => ?_)
  refine l_aload dL_mostLike_0 rfl ?_
  refine l_iconst dL_mostLike_2 ?_
  refine l_aload_n dL_mostLike_3 rfl ?_
  refine l_iload_n dL_mostLike_4 rfl ?_
  refine l_iload_n dL_mostLike_5 rfl ?_
  refine l_iload_n dL_mostLike_6 rfl ?_
  refine l_callX (av := [.int (zI a), .int (zI b), .int (zI c)]) (o := 0) (rest := [.int (zI 0), .ref 52]) dL_mostLike_7 mlL_119 md_X7_mostLike hC rfl rfl rfl (by show d' + 7 ≤ d' + 1 + 6; omega) (by show 8 + (_ + 11) + (100 + 40 * d') ≤ 100 + 40 * (d' + 1); exact Nat.le_trans (Nat.add_le_add_right (Nat.le_of_ble_eq_true (rfl : Nat.ble _ 40 = true)) _) (by omega)) (by show 0 + u' ≤ u'; omega) (by show 0 + 6 * u' ≤ 6 * u'; omega) (Nat.le_of_ble_eq_true rfl) (fun v M' hp => ?_) (fun E M' hp => ?_)
  · obtain ⟨z, rfl⟩ := h1 v M' hp
    refine l_i2l dL_mostLike_10 ?_
    refine l_lastore dL_mostLike_11 (fun f hf => ?_)
    refine l_goto (tgt := 23) dL_mostLike_12 rfl ?_
    refine l_iconst dL_mostLike_23 ?_
    exact l_ireturn dL_mostLike_24 (by omega) (by omega) (Or.inl ⟨z, M', rfl, hp, rfl, hf⟩)
  · obtain ⟨c, hc⟩ := h2 E M' hp
    rcases id hc with ⟨rfl, rfl | rfl⟩
    · refine ⟨15, 2, 5, ⟨[], _, _, rfl, by decide, by decide, rfl, rfl, fun z hz => absurd hz List.not_mem_nil⟩, Nat.le_of_ble_eq_true rfl, Or.inr ⟨dL_mostLike_15, rfl⟩, ?_⟩
      refine l_iconst dL_mostLike_17 ?_
      exact l_ireturn dL_mostLike_18 (by omega) (by omega) (Or.inr ⟨_, M', _, hc, hp, rfl, rfl⟩)
    · refine ⟨19, 2, 5, ⟨[(0, 12, 15, 20)], _, _, rfl, by decide, by decide, rfl, rfl, fun z hz => by
        simp only [List.mem_cons, List.not_mem_nil, or_false] at hz
        rcases hz with rfl <;> exact ⟨_, rfl, by decide⟩⟩, Nat.le_of_ble_eq_true rfl, Or.inr ⟨dL_mostLike_19, rfl⟩, ?_⟩
      refine l_iconst dL_mostLike_21 ?_
      exact l_ireturn dL_mostLike_22 (by omega) (by omega) (Or.inr ⟨_, M', _, hc, hp, rfl, rfl⟩)
set_option maxHeartbeats 1000000 in
theorem w_writeBytes (hC : qCt mX7_writeBytes u' d' [.ref 0, .int (zI a)] w.1 P') (h1 : ∀ v M', P'.1 v M' → ∃ z, v = some (.int (zI z))) (h2 : ∀ E M', P'.2 E M' → ∃ c, W2 E c) : lCt mL_writeBytes u' (d' + 1) [.ref 0, .int (zI a), .ref 52] w (lPo W2 P' w) := by
  refine l_intro (L := [some (.ref 0), some (.int (zI a)), some (.ref 52), none]) mdL_writeBytes rfl rfl (Nat.le_of_ble_eq_true rfl) (fun X cy => ?_)
  refine l_aload_n dL_writeBytes_0 rfl ?_
  refine l_iconst dL_writeBytes_1 ?_
  refine l_aload_n dL_writeBytes_2 rfl ?_
  refine l_iload_n dL_writeBytes_3 rfl ?_
  refine l_callX (av := [.int (zI a)]) (o := 0) (rest := [.int (zI 0), .ref 52]) dL_writeBytes_4 mlL_122 md_X7_writeBytes hC rfl rfl rfl (by show d' + 7 ≤ d' + 1 + 6; omega) (by show 8 + (_ + 11) + (100 + 40 * d') ≤ 100 + 40 * (d' + 1); exact Nat.le_trans (Nat.add_le_add_right (Nat.le_of_ble_eq_true (rfl : Nat.ble _ 40 = true)) _) (by omega)) (by show 0 + u' ≤ u'; omega) (by show 0 + 6 * u' ≤ 6 * u'; omega) (Nat.le_of_ble_eq_true rfl) (fun v M' hp => ?_) (fun E M' hp => ?_)
  · obtain ⟨z, rfl⟩ := h1 v M' hp
    refine l_i2l dL_writeBytes_7 ?_
    refine l_lastore dL_writeBytes_8 (fun f hf => ?_)
    refine l_goto (tgt := 18) dL_writeBytes_9 rfl ?_
    refine l_iconst dL_writeBytes_18 ?_
    exact l_ireturn dL_writeBytes_19 (by omega) (by omega) (Or.inl ⟨z, M', rfl, hp, rfl, hf⟩)
  · obtain ⟨c, hc⟩ := h2 E M' hp
    rcases id hc with ⟨rfl, rfl | rfl⟩
    · refine ⟨12, 1, 3, ⟨[], _, _, rfl, by decide, by decide, rfl, rfl, fun z hz => absurd hz List.not_mem_nil⟩, Nat.le_of_ble_eq_true rfl, Or.inl ⟨3, rfl, dL_writeBytes_12, rfl⟩, ?_⟩
      refine l_iconst dL_writeBytes_13 ?_
      exact l_ireturn dL_writeBytes_14 (by omega) (by omega) (Or.inr ⟨_, M', _, hc, hp, rfl, rfl⟩)
    · refine ⟨15, 1, 3, ⟨[(0, 9, 12, 20)], _, _, rfl, by decide, by decide, rfl, rfl, fun z hz => by
        simp only [List.mem_cons, List.not_mem_nil, or_false] at hz
        rcases hz with rfl <;> exact ⟨_, rfl, by decide⟩⟩, Nat.le_of_ble_eq_true rfl, Or.inl ⟨3, rfl, dL_writeBytes_15, rfl⟩, ?_⟩
      refine l_iconst dL_writeBytes_16 ?_
      exact l_ireturn dL_writeBytes_17 (by omega) (by omega) (Or.inr ⟨_, M', _, hc, hp, rfl, rfl⟩)
set_option maxHeartbeats 1000000 in
theorem w_writeBits (hC : qCt mX7_writeBits u' d' [.ref 0, .int (zI a), .int (zI b), .int (zI c)] w.1 P') (h1 : ∀ v M', P'.1 v M' → ∃ z, v = some (.int (zI z))) (h2 : ∀ E M', P'.2 E M' → ∃ c, W3 E c) : lCt mL_writeBits u' (d' + 1) [.ref 0, .int (zI a), .int (zI b), .int (zI c), .ref 52] w (lPo W3 P' w) := by
  refine l_intro (L := [some (.ref 0), some (.int (zI a)), some (.int (zI b)), some (.int (zI c)), some (.ref 52), none]) mdL_writeBits rfl rfl (Nat.le_of_ble_eq_true rfl) (fun X cy => ?_)
  refine l_aload dL_writeBits_0 rfl ?_
  refine l_iconst dL_writeBits_2 ?_
  refine l_aload_n dL_writeBits_3 rfl ?_
  refine l_iload_n dL_writeBits_4 rfl ?_
  refine l_iload_n dL_writeBits_5 rfl ?_
  refine l_iload_n dL_writeBits_6 rfl ?_
  refine l_callX (av := [.int (zI a), .int (zI b), .int (zI c)]) (o := 0) (rest := [.int (zI 0), .ref 52]) dL_writeBits_7 mlL_125 md_X7_writeBits hC rfl rfl rfl (by show d' + 7 ≤ d' + 1 + 6; omega) (by show 8 + (_ + 11) + (100 + 40 * d') ≤ 100 + 40 * (d' + 1); exact Nat.le_trans (Nat.add_le_add_right (Nat.le_of_ble_eq_true (rfl : Nat.ble _ 40 = true)) _) (by omega)) (by show 0 + u' ≤ u'; omega) (by show 0 + 6 * u' ≤ 6 * u'; omega) (Nat.le_of_ble_eq_true rfl) (fun v M' hp => ?_) (fun E M' hp => ?_)
  · obtain ⟨z, rfl⟩ := h1 v M' hp
    refine l_i2l dL_writeBits_10 ?_
    refine l_lastore dL_writeBits_11 (fun f hf => ?_)
    refine l_goto (tgt := 27) dL_writeBits_12 rfl ?_
    refine l_iconst dL_writeBits_27 ?_
    exact l_ireturn dL_writeBits_28 (by omega) (by omega) (Or.inl ⟨z, M', rfl, hp, rfl, hf⟩)
  · obtain ⟨c, hc⟩ := h2 E M' hp
    rcases id hc with ⟨rfl, rfl | rfl | rfl⟩
    · refine ⟨15, 2, 5, ⟨[], _, _, rfl, by decide, by decide, rfl, rfl, fun z hz => absurd hz List.not_mem_nil⟩, Nat.le_of_ble_eq_true rfl, Or.inr ⟨dL_writeBits_15, rfl⟩, ?_⟩
      refine l_iconst dL_writeBits_17 ?_
      exact l_ireturn dL_writeBits_18 (by omega) (by omega) (Or.inr ⟨_, M', _, hc, hp, rfl, rfl⟩)
    · refine ⟨19, 2, 5, ⟨[(0, 12, 15, 20)], _, _, rfl, by decide, by decide, rfl, rfl, fun z hz => by
        simp only [List.mem_cons, List.not_mem_nil, or_false] at hz
        rcases hz with rfl <;> exact ⟨_, rfl, by decide⟩⟩, Nat.le_of_ble_eq_true rfl, Or.inr ⟨dL_writeBits_19, rfl⟩, ?_⟩
      refine l_iconst dL_writeBits_21 ?_
      exact l_ireturn dL_writeBits_22 (by omega) (by omega) (Or.inr ⟨_, M', _, hc, hp, rfl, rfl⟩)
    · refine ⟨23, 2, 5, ⟨[(0, 12, 15, 20), (0, 12, 19, 13)], _, _, rfl, by decide, by decide, rfl, rfl, fun z hz => by
        simp only [List.mem_cons, List.not_mem_nil, or_false] at hz
        rcases hz with rfl | rfl <;> exact ⟨_, rfl, by decide⟩⟩, Nat.le_of_ble_eq_true rfl, Or.inr ⟨dL_writeBits_23, rfl⟩, ?_⟩
      refine l_iconst dL_writeBits_25 ?_
      exact l_ireturn dL_writeBits_26 (by omega) (by omega) (Or.inr ⟨_, M', _, hc, hp, rfl, rfl⟩)
set_option maxHeartbeats 1000000 in
theorem w_writeTree (hC : qCt mX7_writeTree u' d' [.ref 0, .int (zI a)] w.1 P') (h1 : ∀ v M', P'.1 v M' → ∃ z, v = some (.int (zI z))) (h2 : ∀ E M', P'.2 E M' → ∃ c, W2 E c) : lCt mL_writeTree u' (d' + 1) [.ref 0, .int (zI a), .ref 52] w (lPo W2 P' w) := by
  refine l_intro (L := [some (.ref 0), some (.int (zI a)), some (.ref 52), none]) mdL_writeTree rfl rfl (Nat.le_of_ble_eq_true rfl) (fun X cy => ?_)
  refine l_aload_n dL_writeTree_0 rfl ?_
  refine l_iconst dL_writeTree_1 ?_
  refine l_aload_n dL_writeTree_2 rfl ?_
  refine l_iload_n dL_writeTree_3 rfl ?_
  refine l_callX (av := [.int (zI a)]) (o := 0) (rest := [.int (zI 0), .ref 52]) dL_writeTree_4 mlL_128 md_X7_writeTree hC rfl rfl rfl (by show d' + 7 ≤ d' + 1 + 6; omega) (by show 8 + (_ + 11) + (100 + 40 * d') ≤ 100 + 40 * (d' + 1); exact Nat.le_trans (Nat.add_le_add_right (Nat.le_of_ble_eq_true (rfl : Nat.ble _ 40 = true)) _) (by omega)) (by show 0 + u' ≤ u'; omega) (by show 0 + 6 * u' ≤ 6 * u'; omega) (Nat.le_of_ble_eq_true rfl) (fun v M' hp => ?_) (fun E M' hp => ?_)
  · obtain ⟨z, rfl⟩ := h1 v M' hp
    refine l_i2l dL_writeTree_7 ?_
    refine l_lastore dL_writeTree_8 (fun f hf => ?_)
    refine l_goto (tgt := 18) dL_writeTree_9 rfl ?_
    refine l_iconst dL_writeTree_18 ?_
    exact l_ireturn dL_writeTree_19 (by omega) (by omega) (Or.inl ⟨z, M', rfl, hp, rfl, hf⟩)
  · obtain ⟨c, hc⟩ := h2 E M' hp
    rcases id hc with ⟨rfl, rfl | rfl⟩
    · refine ⟨12, 1, 3, ⟨[], _, _, rfl, by decide, by decide, rfl, rfl, fun z hz => absurd hz List.not_mem_nil⟩, Nat.le_of_ble_eq_true rfl, Or.inl ⟨3, rfl, dL_writeTree_12, rfl⟩, ?_⟩
      refine l_iconst dL_writeTree_13 ?_
      exact l_ireturn dL_writeTree_14 (by omega) (by omega) (Or.inr ⟨_, M', _, hc, hp, rfl, rfl⟩)
    · refine ⟨15, 1, 3, ⟨[(0, 9, 12, 20)], _, _, rfl, by decide, by decide, rfl, rfl, fun z hz => by
        simp only [List.mem_cons, List.not_mem_nil, or_false] at hz
        rcases hz with rfl <;> exact ⟨_, rfl, by decide⟩⟩, Nat.le_of_ble_eq_true rfl, Or.inl ⟨3, rfl, dL_writeTree_15, rfl⟩, ?_⟩
      refine l_iconst dL_writeTree_16 ?_
      exact l_ireturn dL_writeTree_17 (by omega) (by omega) (Or.inr ⟨_, M', _, hc, hp, rfl, rfl⟩)
set_option maxHeartbeats 1000000 in
theorem w_textByte (hC : qCt mX7_textByte u' d' [.ref 0, .int (zI a)] w.1 P') (h1 : ∀ v M', P'.1 v M' → ∃ z, v = some (.int (zI z))) (h2 : ∀ E M', P'.2 E M' → ∃ c, Wt E c) : lCt mL_textByte u' (d' + 1) [.ref 0, .int (zI a), .ref 52] w (lPo Wt P' w) := by
  refine l_intro (L := [some (.ref 0), some (.int (zI a)), some (.ref 52), none]) mdL_textByte rfl rfl (Nat.le_of_ble_eq_true rfl) (fun X cy => ?_)
  refine l_aload_n dL_textByte_0 rfl ?_
  refine l_iconst dL_textByte_1 ?_
  refine l_aload_n dL_textByte_2 rfl ?_
  refine l_iload_n dL_textByte_3 rfl ?_
  refine l_callX (av := [.int (zI a)]) (o := 0) (rest := [.int (zI 0), .ref 52]) dL_textByte_4 mlL_131 md_X7_textByte hC rfl rfl rfl (by show d' + 7 ≤ d' + 1 + 6; omega) (by show 8 + (_ + 11) + (100 + 40 * d') ≤ 100 + 40 * (d' + 1); exact Nat.le_trans (Nat.add_le_add_right (Nat.le_of_ble_eq_true (rfl : Nat.ble _ 40 = true)) _) (by omega)) (by show 0 + u' ≤ u'; omega) (by show 0 + 6 * u' ≤ 6 * u'; omega) (Nat.le_of_ble_eq_true rfl) (fun v M' hp => ?_) (fun E M' hp => ?_)
  · obtain ⟨z, rfl⟩ := h1 v M' hp
    refine l_i2l dL_textByte_7 ?_
    refine l_lastore dL_textByte_8 (fun f hf => ?_)
    refine l_goto (tgt := 15) dL_textByte_9 rfl ?_
    refine l_iconst dL_textByte_15 ?_
    exact l_ireturn dL_textByte_16 (by omega) (by omega) (Or.inl ⟨z, M', rfl, hp, rfl, hf⟩)
  · obtain ⟨c, hc⟩ := h2 E M' hp
    rcases id hc with ⟨rfl, rfl⟩
    · refine ⟨12, 1, 3, ⟨[], _, _, rfl, by decide, by decide, rfl, rfl, fun z hz => absurd hz List.not_mem_nil⟩, Nat.le_of_ble_eq_true rfl, Or.inl ⟨3, rfl, dL_textByte_12, rfl⟩, ?_⟩
      refine l_iconst dL_textByte_13 ?_
      exact l_ireturn dL_textByte_14 (by omega) (by omega) (Or.inr ⟨_, M', _, hc, hp, rfl, rfl⟩)
set_option maxHeartbeats 1000000 in
theorem w_fill (hC : qCt mX7_fill u' d' [.ref 0, .int (zI a), .int (zI b), .int (zI c), .int (zI d)] w.1 P') (h1 : ∀ v M', P'.1 v M' → ∃ z, v = some (.int (zI z))) (h2 : ∀ E M', P'.2 E M' → ∃ c, W3 E c) : lCt mL_fill u' (d' + 1) [.ref 0, .int (zI a), .int (zI b), .int (zI c), .int (zI d), .ref 52] w (lPo W3 P' w) := by
  refine l_intro (L := [some (.ref 0), some (.int (zI a)), some (.int (zI b)), some (.int (zI c)), some (.int (zI d)), some (.ref 52), none]) mdL_fill rfl rfl (Nat.le_of_ble_eq_true rfl) (fun X cy => ?_)
  refine l_aload dL_fill_0 rfl ?_
  refine l_iconst dL_fill_2 ?_
  refine l_aload_n dL_fill_3 rfl ?_
  refine l_iload_n dL_fill_4 rfl ?_
  refine l_iload_n dL_fill_5 rfl ?_
  refine l_iload_n dL_fill_6 rfl ?_
  refine l_iload dL_fill_7 rfl ?_
  refine l_callX (av := [.int (zI a), .int (zI b), .int (zI c), .int (zI d)]) (o := 0) (rest := [.int (zI 0), .ref 52]) dL_fill_9 mlL_134 md_X7_fill hC rfl rfl rfl (by show d' + 7 ≤ d' + 1 + 6; omega) (by show 8 + (_ + 11) + (100 + 40 * d') ≤ 100 + 40 * (d' + 1); exact Nat.le_trans (Nat.add_le_add_right (Nat.le_of_ble_eq_true (rfl : Nat.ble _ 40 = true)) _) (by omega)) (by show 0 + u' ≤ u'; omega) (by show 0 + 6 * u' ≤ 6 * u'; omega) (Nat.le_of_ble_eq_true rfl) (fun v M' hp => ?_) (fun E M' hp => ?_)
  · obtain ⟨z, rfl⟩ := h1 v M' hp
    refine l_i2l dL_fill_12 ?_
    refine l_lastore dL_fill_13 (fun f hf => ?_)
    refine l_goto (tgt := 29) dL_fill_14 rfl ?_
    refine l_iconst dL_fill_29 ?_
    exact l_ireturn dL_fill_30 (by omega) (by omega) (Or.inl ⟨z, M', rfl, hp, rfl, hf⟩)
  · obtain ⟨c, hc⟩ := h2 E M' hp
    rcases id hc with ⟨rfl, rfl | rfl | rfl⟩
    · refine ⟨17, 2, 6, ⟨[], _, _, rfl, by decide, by decide, rfl, rfl, fun z hz => absurd hz List.not_mem_nil⟩, Nat.le_of_ble_eq_true rfl, Or.inr ⟨dL_fill_17, rfl⟩, ?_⟩
      refine l_iconst dL_fill_19 ?_
      exact l_ireturn dL_fill_20 (by omega) (by omega) (Or.inr ⟨_, M', _, hc, hp, rfl, rfl⟩)
    · refine ⟨21, 2, 6, ⟨[(0, 14, 17, 20)], _, _, rfl, by decide, by decide, rfl, rfl, fun z hz => by
        simp only [List.mem_cons, List.not_mem_nil, or_false] at hz
        rcases hz with rfl <;> exact ⟨_, rfl, by decide⟩⟩, Nat.le_of_ble_eq_true rfl, Or.inr ⟨dL_fill_21, rfl⟩, ?_⟩
      refine l_iconst dL_fill_23 ?_
      exact l_ireturn dL_fill_24 (by omega) (by omega) (Or.inr ⟨_, M', _, hc, hp, rfl, rfl⟩)
    · refine ⟨25, 2, 6, ⟨[(0, 14, 17, 20), (0, 14, 21, 13)], _, _, rfl, by decide, by decide, rfl, rfl, fun z hz => by
        simp only [List.mem_cons, List.not_mem_nil, or_false] at hz
        rcases hz with rfl | rfl <;> exact ⟨_, rfl, by decide⟩⟩, Nat.le_of_ble_eq_true rfl, Or.inr ⟨dL_fill_25, rfl⟩, ?_⟩
      refine l_iconst dL_fill_27 ?_
      exact l_ireturn dL_fill_28 (by omega) (by omega) (Or.inr ⟨_, M', _, hc, hp, rfl, rfl⟩)
set_option maxHeartbeats 1000000 in
theorem w_flip (hC : qCt mX7_flip u' d' [.ref 0, .int (zI a), .int (zI b), .int (zI c)] w.1 P') (h1 : ∀ v M', P'.1 v M' → ∃ z, v = some (.int (zI z))) (h2 : ∀ E M', P'.2 E M' → ∃ c, W2 E c) : lCt mL_flip u' (d' + 1) [.ref 0, .int (zI a), .int (zI b), .int (zI c), .ref 52] w (lPo W2 P' w) := by
  refine l_intro (L := [some (.ref 0), some (.int (zI a)), some (.int (zI b)), some (.int (zI c)), some (.ref 52), none]) mdL_flip rfl rfl (Nat.le_of_ble_eq_true rfl) (fun X cy => ?_)
  refine l_aload dL_flip_0 rfl ?_
  refine l_iconst dL_flip_2 ?_
  refine l_aload_n dL_flip_3 rfl ?_
  refine l_iload_n dL_flip_4 rfl ?_
  refine l_iload_n dL_flip_5 rfl ?_
  refine l_iload_n dL_flip_6 rfl ?_
  refine l_callX (av := [.int (zI a), .int (zI b), .int (zI c)]) (o := 0) (rest := [.int (zI 0), .ref 52]) dL_flip_7 mlL_137 md_X7_flip hC rfl rfl rfl (by show d' + 7 ≤ d' + 1 + 6; omega) (by show 8 + (_ + 11) + (100 + 40 * d') ≤ 100 + 40 * (d' + 1); exact Nat.le_trans (Nat.add_le_add_right (Nat.le_of_ble_eq_true (rfl : Nat.ble _ 40 = true)) _) (by omega)) (by show 0 + u' ≤ u'; omega) (by show 0 + 6 * u' ≤ 6 * u'; omega) (Nat.le_of_ble_eq_true rfl) (fun v M' hp => ?_) (fun E M' hp => ?_)
  · obtain ⟨z, rfl⟩ := h1 v M' hp
    refine l_i2l dL_flip_10 ?_
    refine l_lastore dL_flip_11 (fun f hf => ?_)
    refine l_goto (tgt := 23) dL_flip_12 rfl ?_
    refine l_iconst dL_flip_23 ?_
    exact l_ireturn dL_flip_24 (by omega) (by omega) (Or.inl ⟨z, M', rfl, hp, rfl, hf⟩)
  · obtain ⟨c, hc⟩ := h2 E M' hp
    rcases id hc with ⟨rfl, rfl | rfl⟩
    · refine ⟨15, 2, 5, ⟨[], _, _, rfl, by decide, by decide, rfl, rfl, fun z hz => absurd hz List.not_mem_nil⟩, Nat.le_of_ble_eq_true rfl, Or.inr ⟨dL_flip_15, rfl⟩, ?_⟩
      refine l_iconst dL_flip_17 ?_
      exact l_ireturn dL_flip_18 (by omega) (by omega) (Or.inr ⟨_, M', _, hc, hp, rfl, rfl⟩)
    · refine ⟨19, 2, 5, ⟨[(0, 12, 15, 20)], _, _, rfl, by decide, by decide, rfl, rfl, fun z hz => by
        simp only [List.mem_cons, List.not_mem_nil, or_false] at hz
        rcases hz with rfl <;> exact ⟨_, rfl, by decide⟩⟩, Nat.le_of_ble_eq_true rfl, Or.inr ⟨dL_flip_19, rfl⟩, ?_⟩
      refine l_iconst dL_flip_21 ?_
      exact l_ireturn dL_flip_22 (by omega) (by omega) (Or.inr ⟨_, M', _, hc, hp, rfl, rfl⟩)
set_option maxHeartbeats 1000000 in
theorem w_combine (hC : qCt mX7_combine u' d' [.ref 0, .int (zI a), .int (zI b), .int (zI c), .int (zI d)] w.1 P') (h1 : ∀ v M', P'.1 v M' → ∃ z, v = some (.int (zI z))) (h2 : ∀ E M', P'.2 E M' → ∃ c, W3 E c) : lCt mL_combine u' (d' + 1) [.ref 0, .int (zI a), .int (zI b), .int (zI c), .int (zI d), .ref 52] w (lPo W3 P' w) := by
  refine l_intro (L := [some (.ref 0), some (.int (zI a)), some (.int (zI b)), some (.int (zI c)), some (.int (zI d)), some (.ref 52), none]) mdL_combine rfl rfl (Nat.le_of_ble_eq_true rfl) (fun X cy => ?_)
  refine l_aload dL_combine_0 rfl ?_
  refine l_iconst dL_combine_2 ?_
  refine l_aload_n dL_combine_3 rfl ?_
  refine l_iload_n dL_combine_4 rfl ?_
  refine l_iload_n dL_combine_5 rfl ?_
  refine l_iload_n dL_combine_6 rfl ?_
  refine l_iload dL_combine_7 rfl ?_
  refine l_callX (av := [.int (zI a), .int (zI b), .int (zI c), .int (zI d)]) (o := 0) (rest := [.int (zI 0), .ref 52]) dL_combine_9 mlL_140 md_X7_combine hC rfl rfl rfl (by show d' + 7 ≤ d' + 1 + 6; omega) (by show 8 + (_ + 11) + (100 + 40 * d') ≤ 100 + 40 * (d' + 1); exact Nat.le_trans (Nat.add_le_add_right (Nat.le_of_ble_eq_true (rfl : Nat.ble _ 40 = true)) _) (by omega)) (by show 0 + u' ≤ u'; omega) (by show 0 + 6 * u' ≤ 6 * u'; omega) (Nat.le_of_ble_eq_true rfl) (fun v M' hp => ?_) (fun E M' hp => ?_)
  · obtain ⟨z, rfl⟩ := h1 v M' hp
    refine l_i2l dL_combine_12 ?_
    refine l_lastore dL_combine_13 (fun f hf => ?_)
    refine l_goto (tgt := 29) dL_combine_14 rfl ?_
    refine l_iconst dL_combine_29 ?_
    exact l_ireturn dL_combine_30 (by omega) (by omega) (Or.inl ⟨z, M', rfl, hp, rfl, hf⟩)
  · obtain ⟨c, hc⟩ := h2 E M' hp
    rcases id hc with ⟨rfl, rfl | rfl | rfl⟩
    · refine ⟨17, 2, 6, ⟨[], _, _, rfl, by decide, by decide, rfl, rfl, fun z hz => absurd hz List.not_mem_nil⟩, Nat.le_of_ble_eq_true rfl, Or.inr ⟨dL_combine_17, rfl⟩, ?_⟩
      refine l_iconst dL_combine_19 ?_
      exact l_ireturn dL_combine_20 (by omega) (by omega) (Or.inr ⟨_, M', _, hc, hp, rfl, rfl⟩)
    · refine ⟨21, 2, 6, ⟨[(0, 14, 17, 20)], _, _, rfl, by decide, by decide, rfl, rfl, fun z hz => by
        simp only [List.mem_cons, List.not_mem_nil, or_false] at hz
        rcases hz with rfl <;> exact ⟨_, rfl, by decide⟩⟩, Nat.le_of_ble_eq_true rfl, Or.inr ⟨dL_combine_21, rfl⟩, ?_⟩
      refine l_iconst dL_combine_23 ?_
      exact l_ireturn dL_combine_24 (by omega) (by omega) (Or.inr ⟨_, M', _, hc, hp, rfl, rfl⟩)
    · refine ⟨25, 2, 6, ⟨[(0, 14, 17, 20), (0, 14, 21, 13)], _, _, rfl, by decide, by decide, rfl, rfl, fun z hz => by
        simp only [List.mem_cons, List.not_mem_nil, or_false] at hz
        rcases hz with rfl | rfl <;> exact ⟨_, rfl, by decide⟩⟩, Nat.le_of_ble_eq_true rfl, Or.inr ⟨dL_combine_25, rfl⟩, ?_⟩
      refine l_iconst dL_combine_27 ?_
      exact l_ireturn dL_combine_28 (by omega) (by omega) (Or.inr ⟨_, M', _, hc, hp, rfl, rfl⟩)
set_option maxHeartbeats 1000000 in
theorem w_copyBlock (hC : qCt mX7_copyBlock u' d' [.ref 0, .int (zI a), .int (zI b), .int (zI c), .int (zI d)] w.1 P') (h1 : ∀ v M', P'.1 v M' → ∃ z, v = some (.int (zI z))) (h2 : ∀ E M', P'.2 E M' → ∃ c, W2 E c) : lCt mL_copyBlock u' (d' + 1) [.ref 0, .int (zI a), .int (zI b), .int (zI c), .int (zI d), .ref 52] w (lPo W2 P' w) := by
  refine l_intro (L := [some (.ref 0), some (.int (zI a)), some (.int (zI b)), some (.int (zI c)), some (.int (zI d)), some (.ref 52), none]) mdL_copyBlock rfl rfl (Nat.le_of_ble_eq_true rfl) (fun X cy => ?_)
  refine l_aload dL_copyBlock_0 rfl ?_
  refine l_iconst dL_copyBlock_2 ?_
  refine l_aload_n dL_copyBlock_3 rfl ?_
  refine l_iload_n dL_copyBlock_4 rfl ?_
  refine l_iload_n dL_copyBlock_5 rfl ?_
  refine l_iload_n dL_copyBlock_6 rfl ?_
  refine l_iload dL_copyBlock_7 rfl ?_
  refine l_callX (av := [.int (zI a), .int (zI b), .int (zI c), .int (zI d)]) (o := 0) (rest := [.int (zI 0), .ref 52]) dL_copyBlock_9 mlL_143 md_X7_copyBlock hC rfl rfl rfl (by show d' + 7 ≤ d' + 1 + 6; omega) (by show 8 + (_ + 11) + (100 + 40 * d') ≤ 100 + 40 * (d' + 1); exact Nat.le_trans (Nat.add_le_add_right (Nat.le_of_ble_eq_true (rfl : Nat.ble _ 40 = true)) _) (by omega)) (by show 0 + u' ≤ u'; omega) (by show 0 + 6 * u' ≤ 6 * u'; omega) (Nat.le_of_ble_eq_true rfl) (fun v M' hp => ?_) (fun E M' hp => ?_)
  · obtain ⟨z, rfl⟩ := h1 v M' hp
    refine l_i2l dL_copyBlock_12 ?_
    refine l_lastore dL_copyBlock_13 (fun f hf => ?_)
    refine l_goto (tgt := 25) dL_copyBlock_14 rfl ?_
    refine l_iconst dL_copyBlock_25 ?_
    exact l_ireturn dL_copyBlock_26 (by omega) (by omega) (Or.inl ⟨z, M', rfl, hp, rfl, hf⟩)
  · obtain ⟨c, hc⟩ := h2 E M' hp
    rcases id hc with ⟨rfl, rfl | rfl⟩
    · refine ⟨17, 2, 6, ⟨[], _, _, rfl, by decide, by decide, rfl, rfl, fun z hz => absurd hz List.not_mem_nil⟩, Nat.le_of_ble_eq_true rfl, Or.inr ⟨dL_copyBlock_17, rfl⟩, ?_⟩
      refine l_iconst dL_copyBlock_19 ?_
      exact l_ireturn dL_copyBlock_20 (by omega) (by omega) (Or.inr ⟨_, M', _, hc, hp, rfl, rfl⟩)
    · refine ⟨21, 2, 6, ⟨[(0, 14, 17, 20)], _, _, rfl, by decide, by decide, rfl, rfl, fun z hz => by
        simp only [List.mem_cons, List.not_mem_nil, or_false] at hz
        rcases hz with rfl <;> exact ⟨_, rfl, by decide⟩⟩, Nat.le_of_ble_eq_true rfl, Or.inr ⟨dL_copyBlock_21, rfl⟩, ?_⟩
      refine l_iconst dL_copyBlock_23 ?_
      exact l_ireturn dL_copyBlock_24 (by omega) (by omega) (Or.inr ⟨_, M', _, hc, hp, rfl, rfl⟩)
set_option maxHeartbeats 1000000 in
theorem w_shift (hC : qCt mX7_shift u' d' [.ref 0, .int (zI a), .int (zI b)] w.1 P') (h1 : ∀ v M', P'.1 v M' → ∃ z, v = some (.int (zI z))) (h2 : ∀ E M', P'.2 E M' → ∃ c, W2 E c) : lCt mL_shift u' (d' + 1) [.ref 0, .int (zI a), .int (zI b), .ref 52] w (lPo W2 P' w) := by
  refine l_intro (L := [some (.ref 0), some (.int (zI a)), some (.int (zI b)), some (.ref 52), none]) mdL_shift rfl rfl (Nat.le_of_ble_eq_true rfl) (fun X cy => ?_)
  refine l_aload_n dL_shift_0 rfl ?_
  refine l_iconst dL_shift_1 ?_
  refine l_aload_n dL_shift_2 rfl ?_
  refine l_iload_n dL_shift_3 rfl ?_
  refine l_iload_n dL_shift_4 rfl ?_
  refine l_callX (av := [.int (zI a), .int (zI b)]) (o := 0) (rest := [.int (zI 0), .ref 52]) dL_shift_5 mlL_146 md_X7_shift hC rfl rfl rfl (by show d' + 7 ≤ d' + 1 + 6; omega) (by show 8 + (_ + 11) + (100 + 40 * d') ≤ 100 + 40 * (d' + 1); exact Nat.le_trans (Nat.add_le_add_right (Nat.le_of_ble_eq_true (rfl : Nat.ble _ 40 = true)) _) (by omega)) (by show 0 + u' ≤ u'; omega) (by show 0 + 6 * u' ≤ 6 * u'; omega) (Nat.le_of_ble_eq_true rfl) (fun v M' hp => ?_) (fun E M' hp => ?_)
  · obtain ⟨z, rfl⟩ := h1 v M' hp
    refine l_i2l dL_shift_8 ?_
    refine l_lastore dL_shift_9 (fun f hf => ?_)
    refine l_goto (tgt := 21) dL_shift_10 rfl ?_
    refine l_iconst dL_shift_21 ?_
    exact l_ireturn dL_shift_22 (by omega) (by omega) (Or.inl ⟨z, M', rfl, hp, rfl, hf⟩)
  · obtain ⟨c, hc⟩ := h2 E M' hp
    rcases id hc with ⟨rfl, rfl | rfl⟩
    · refine ⟨13, 2, 4, ⟨[], _, _, rfl, by decide, by decide, rfl, rfl, fun z hz => absurd hz List.not_mem_nil⟩, Nat.le_of_ble_eq_true rfl, Or.inr ⟨dL_shift_13, rfl⟩, ?_⟩
      refine l_iconst dL_shift_15 ?_
      exact l_ireturn dL_shift_16 (by omega) (by omega) (Or.inr ⟨_, M', _, hc, hp, rfl, rfl⟩)
    · refine ⟨17, 2, 4, ⟨[(0, 10, 13, 20)], _, _, rfl, by decide, by decide, rfl, rfl, fun z hz => by
        simp only [List.mem_cons, List.not_mem_nil, or_false] at hz
        rcases hz with rfl <;> exact ⟨_, rfl, by decide⟩⟩, Nat.le_of_ble_eq_true rfl, Or.inr ⟨dL_shift_17, rfl⟩, ?_⟩
      refine l_iconst dL_shift_19 ?_
      exact l_ireturn dL_shift_20 (by omega) (by omega) (Or.inr ⟨_, M', _, hc, hp, rfl, rfl⟩)
set_option maxHeartbeats 1000000 in
theorem w_mirror (hC : qCt mX7_mirror u' d' [.ref 0, .int (zI a)] w.1 P') (h1 : ∀ v M', P'.1 v M' → ∃ z, v = some (.int (zI z))) (h2 : ∀ E M', P'.2 E M' → ∃ c, W2 E c) : lCt mL_mirror u' (d' + 1) [.ref 0, .int (zI a), .ref 52] w (lPo W2 P' w) := by
  refine l_intro (L := [some (.ref 0), some (.int (zI a)), some (.ref 52), none]) mdL_mirror rfl rfl (Nat.le_of_ble_eq_true rfl) (fun X cy => ?_)
  refine l_aload_n dL_mirror_0 rfl ?_
  refine l_iconst dL_mirror_1 ?_
  refine l_aload_n dL_mirror_2 rfl ?_
  refine l_iload_n dL_mirror_3 rfl ?_
  refine l_callX (av := [.int (zI a)]) (o := 0) (rest := [.int (zI 0), .ref 52]) dL_mirror_4 mlL_149 md_X7_mirror hC rfl rfl rfl (by show d' + 7 ≤ d' + 1 + 6; omega) (by show 8 + (_ + 11) + (100 + 40 * d') ≤ 100 + 40 * (d' + 1); exact Nat.le_trans (Nat.add_le_add_right (Nat.le_of_ble_eq_true (rfl : Nat.ble _ 40 = true)) _) (by omega)) (by show 0 + u' ≤ u'; omega) (by show 0 + 6 * u' ≤ 6 * u'; omega) (Nat.le_of_ble_eq_true rfl) (fun v M' hp => ?_) (fun E M' hp => ?_)
  · obtain ⟨z, rfl⟩ := h1 v M' hp
    refine l_i2l dL_mirror_7 ?_
    refine l_lastore dL_mirror_8 (fun f hf => ?_)
    refine l_goto (tgt := 18) dL_mirror_9 rfl ?_
    refine l_iconst dL_mirror_18 ?_
    exact l_ireturn dL_mirror_19 (by omega) (by omega) (Or.inl ⟨z, M', rfl, hp, rfl, hf⟩)
  · obtain ⟨c, hc⟩ := h2 E M' hp
    rcases id hc with ⟨rfl, rfl | rfl⟩
    · refine ⟨12, 1, 3, ⟨[], _, _, rfl, by decide, by decide, rfl, rfl, fun z hz => absurd hz List.not_mem_nil⟩, Nat.le_of_ble_eq_true rfl, Or.inl ⟨3, rfl, dL_mirror_12, rfl⟩, ?_⟩
      refine l_iconst dL_mirror_13 ?_
      exact l_ireturn dL_mirror_14 (by omega) (by omega) (Or.inr ⟨_, M', _, hc, hp, rfl, rfl⟩)
    · refine ⟨15, 1, 3, ⟨[(0, 9, 12, 20)], _, _, rfl, by decide, by decide, rfl, rfl, fun z hz => by
        simp only [List.mem_cons, List.not_mem_nil, or_false] at hz
        rcases hz with rfl <;> exact ⟨_, rfl, by decide⟩⟩, Nat.le_of_ble_eq_true rfl, Or.inl ⟨3, rfl, dL_mirror_15, rfl⟩, ?_⟩
      refine l_iconst dL_mirror_16 ?_
      exact l_ireturn dL_mirror_17 (by omega) (by omega) (Or.inr ⟨_, M', _, hc, hp, rfl, rfl⟩)
set_option maxHeartbeats 1000000 in
theorem w_read (hC : qCt mX7_read u' d' [.ref 0, .int (zI a), .int (zI b)] w.1 P') (h1 : ∀ v M', P'.1 v M' → ∃ z, v = some (.int (zI z))) (h2 : ∀ E M', P'.2 E M' → ∃ c, W3 E c) : lCt mL_read u' (d' + 1) [.ref 0, .int (zI a), .int (zI b), .ref 52] w (lPo W3 P' w) := by
  refine l_intro (L := [some (.ref 0), some (.int (zI a)), some (.int (zI b)), some (.ref 52), none]) mdL_read rfl rfl (Nat.le_of_ble_eq_true rfl) (fun X cy => ?_)
  refine l_aload_n dL_read_0 rfl ?_
  refine l_iconst dL_read_1 ?_
  refine l_aload_n dL_read_2 rfl ?_
  refine l_iload_n dL_read_3 rfl ?_
  refine l_iload_n dL_read_4 rfl ?_
  refine l_callX (av := [.int (zI a), .int (zI b)]) (o := 0) (rest := [.int (zI 0), .ref 52]) dL_read_5 mlL_152 md_X7_read hC rfl rfl rfl (by show d' + 7 ≤ d' + 1 + 6; omega) (by show 8 + (_ + 11) + (100 + 40 * d') ≤ 100 + 40 * (d' + 1); exact Nat.le_trans (Nat.add_le_add_right (Nat.le_of_ble_eq_true (rfl : Nat.ble _ 40 = true)) _) (by omega)) (by show 0 + u' ≤ u'; omega) (by show 0 + 6 * u' ≤ 6 * u'; omega) (Nat.le_of_ble_eq_true rfl) (fun v M' hp => ?_) (fun E M' hp => ?_)
  · obtain ⟨z, rfl⟩ := h1 v M' hp
    refine l_i2l dL_read_8 ?_
    refine l_lastore dL_read_9 (fun f hf => ?_)
    refine l_goto (tgt := 25) dL_read_10 rfl ?_
    refine l_iconst dL_read_25 ?_
    exact l_ireturn dL_read_26 (by omega) (by omega) (Or.inl ⟨z, M', rfl, hp, rfl, hf⟩)
  · obtain ⟨c, hc⟩ := h2 E M' hp
    rcases id hc with ⟨rfl, rfl | rfl | rfl⟩
    · refine ⟨13, 2, 4, ⟨[], _, _, rfl, by decide, by decide, rfl, rfl, fun z hz => absurd hz List.not_mem_nil⟩, Nat.le_of_ble_eq_true rfl, Or.inr ⟨dL_read_13, rfl⟩, ?_⟩
      refine l_iconst dL_read_15 ?_
      exact l_ireturn dL_read_16 (by omega) (by omega) (Or.inr ⟨_, M', _, hc, hp, rfl, rfl⟩)
    · refine ⟨17, 2, 4, ⟨[(0, 10, 13, 20)], _, _, rfl, by decide, by decide, rfl, rfl, fun z hz => by
        simp only [List.mem_cons, List.not_mem_nil, or_false] at hz
        rcases hz with rfl <;> exact ⟨_, rfl, by decide⟩⟩, Nat.le_of_ble_eq_true rfl, Or.inr ⟨dL_read_17, rfl⟩, ?_⟩
      refine l_iconst dL_read_19 ?_
      exact l_ireturn dL_read_20 (by omega) (by omega) (Or.inr ⟨_, M', _, hc, hp, rfl, rfl⟩)
    · refine ⟨21, 2, 4, ⟨[(0, 10, 13, 20), (0, 10, 17, 13)], _, _, rfl, by decide, by decide, rfl, rfl, fun z hz => by
        simp only [List.mem_cons, List.not_mem_nil, or_false] at hz
        rcases hz with rfl | rfl <;> exact ⟨_, rfl, by decide⟩⟩, Nat.le_of_ble_eq_true rfl, Or.inr ⟨dL_read_21, rfl⟩, ?_⟩
      refine l_iconst dL_read_23 ?_
      exact l_ireturn dL_read_24 (by omega) (by omega) (Or.inr ⟨_, M', _, hc, hp, rfl, rfl⟩)
set_option maxHeartbeats 1000000 in
theorem w_undo (hC : qCt mX7_undo u' d' [.ref 0] w.1 P') (h1 : ∀ v M', P'.1 v M' → ∃ z, v = some (.int (zI z))) (h2 : ∀ E M', P'.2 E M' → ∃ c, W1 E c) : lCt mL_undo u' (d' + 1) [.ref 0, .ref 52] w (lPo W1 P' w) := by
  refine l_intro (L := [some (.ref 0), some (.ref 52), none]) mdL_undo rfl rfl (Nat.le_of_ble_eq_true rfl) (fun X cy => ?_)
  refine l_aload_n dL_undo_0 rfl ?_
  refine l_iconst dL_undo_1 ?_
  refine l_aload_n dL_undo_2 rfl ?_
  refine l_callX (av := []) (o := 0) (rest := [.int (zI 0), .ref 52]) dL_undo_3 mlL_155 md_X7_undo hC rfl rfl rfl (by show d' + 7 ≤ d' + 1 + 6; omega) (by show 8 + (_ + 11) + (100 + 40 * d') ≤ 100 + 40 * (d' + 1); exact Nat.le_trans (Nat.add_le_add_right (Nat.le_of_ble_eq_true (rfl : Nat.ble _ 40 = true)) _) (by omega)) (by show 0 + u' ≤ u'; omega) (by show 0 + 6 * u' ≤ 6 * u'; omega) (Nat.le_of_ble_eq_true rfl) (fun v M' hp => ?_) (fun E M' hp => ?_)
  · obtain ⟨z, rfl⟩ := h1 v M' hp
    refine l_i2l dL_undo_6 ?_
    refine l_lastore dL_undo_7 (fun f hf => ?_)
    refine l_goto (tgt := 14) dL_undo_8 rfl ?_
    refine l_iconst dL_undo_14 ?_
    exact l_ireturn dL_undo_15 (by omega) (by omega) (Or.inl ⟨z, M', rfl, hp, rfl, hf⟩)
  · obtain ⟨c, hc⟩ := h2 E M' hp
    rcases id hc with ⟨rfl, rfl⟩
    · refine ⟨11, 1, 2, ⟨[], _, _, rfl, by decide, by decide, rfl, rfl, fun z hz => absurd hz List.not_mem_nil⟩, Nat.le_of_ble_eq_true rfl, Or.inl ⟨2, rfl, dL_undo_11, rfl⟩, ?_⟩
      refine l_iconst dL_undo_12 ?_
      exact l_ireturn dL_undo_13 (by omega) (by omega) (Or.inr ⟨_, M', _, hc, hp, rfl, rfl⟩)
set_option maxHeartbeats 1000000 in
theorem w_save (hC : qCt mX7_save u' d' [.ref 0, .int (zI a)] w.1 P') (h1 : ∀ v M', P'.1 v M' → ∃ z, v = some (.int (zI z))) (h2 : ∀ E M', P'.2 E M' → ∃ c, W2 E c) : lCt mL_save u' (d' + 1) [.ref 0, .int (zI a), .ref 52] w (lPo W2 P' w) := by
  refine l_intro (L := [some (.ref 0), some (.int (zI a)), some (.ref 52), none]) mdL_save rfl rfl (Nat.le_of_ble_eq_true rfl) (fun X cy => ?_)
  refine l_aload_n dL_save_0 rfl ?_
  refine l_iconst dL_save_1 ?_
  refine l_aload_n dL_save_2 rfl ?_
  refine l_iload_n dL_save_3 rfl ?_
  refine l_callX (av := [.int (zI a)]) (o := 0) (rest := [.int (zI 0), .ref 52]) dL_save_4 mlL_158 md_X7_save hC rfl rfl rfl (by show d' + 7 ≤ d' + 1 + 6; omega) (by show 8 + (_ + 11) + (100 + 40 * d') ≤ 100 + 40 * (d' + 1); exact Nat.le_trans (Nat.add_le_add_right (Nat.le_of_ble_eq_true (rfl : Nat.ble _ 40 = true)) _) (by omega)) (by show 0 + u' ≤ u'; omega) (by show 0 + 6 * u' ≤ 6 * u'; omega) (Nat.le_of_ble_eq_true rfl) (fun v M' hp => ?_) (fun E M' hp => ?_)
  · obtain ⟨z, rfl⟩ := h1 v M' hp
    refine l_i2l dL_save_7 ?_
    refine l_lastore dL_save_8 (fun f hf => ?_)
    refine l_goto (tgt := 18) dL_save_9 rfl ?_
    refine l_iconst dL_save_18 ?_
    exact l_ireturn dL_save_19 (by omega) (by omega) (Or.inl ⟨z, M', rfl, hp, rfl, hf⟩)
  · obtain ⟨c, hc⟩ := h2 E M' hp
    rcases id hc with ⟨rfl, rfl | rfl⟩
    · refine ⟨12, 1, 3, ⟨[], _, _, rfl, by decide, by decide, rfl, rfl, fun z hz => absurd hz List.not_mem_nil⟩, Nat.le_of_ble_eq_true rfl, Or.inl ⟨3, rfl, dL_save_12, rfl⟩, ?_⟩
      refine l_iconst dL_save_13 ?_
      exact l_ireturn dL_save_14 (by omega) (by omega) (Or.inr ⟨_, M', _, hc, hp, rfl, rfl⟩)
    · refine ⟨15, 1, 3, ⟨[(0, 9, 12, 20)], _, _, rfl, by decide, by decide, rfl, rfl, fun z hz => by
        simp only [List.mem_cons, List.not_mem_nil, or_false] at hz
        rcases hz with rfl <;> exact ⟨_, rfl, by decide⟩⟩, Nat.le_of_ble_eq_true rfl, Or.inl ⟨3, rfl, dL_save_15, rfl⟩, ?_⟩
      refine l_iconst dL_save_16 ?_
      exact l_ireturn dL_save_17 (by omega) (by omega) (Or.inr ⟨_, M', _, hc, hp, rfl, rfl⟩)
set_option maxHeartbeats 1000000 in
theorem w_restore (hC : qCt mX7_restore u' d' [.ref 0, .int (zI a)] w.1 P') (h1 : ∀ v M', P'.1 v M' → ∃ z, v = some (.int (zI z))) (h2 : ∀ E M', P'.2 E M' → ∃ c, Wr E c) : lCt mL_restore u' (d' + 1) [.ref 0, .int (zI a), .ref 52] w (lPo Wr P' w) := by
  refine l_intro (L := [some (.ref 0), some (.int (zI a)), some (.ref 52), none]) mdL_restore rfl rfl (Nat.le_of_ble_eq_true rfl) (fun X cy => ?_)
  refine l_aload_n dL_restore_0 rfl ?_
  refine l_iconst dL_restore_1 ?_
  refine l_aload_n dL_restore_2 rfl ?_
  refine l_iload_n dL_restore_3 rfl ?_
  refine l_callX (av := [.int (zI a)]) (o := 0) (rest := [.int (zI 0), .ref 52]) dL_restore_4 mlL_161 md_X7_restore hC rfl rfl rfl (by show d' + 7 ≤ d' + 1 + 6; omega) (by show 8 + (_ + 11) + (100 + 40 * d') ≤ 100 + 40 * (d' + 1); exact Nat.le_trans (Nat.add_le_add_right (Nat.le_of_ble_eq_true (rfl : Nat.ble _ 40 = true)) _) (by omega)) (by show 0 + u' ≤ u'; omega) (by show 0 + 6 * u' ≤ 6 * u'; omega) (Nat.le_of_ble_eq_true rfl) (fun v M' hp => ?_) (fun E M' hp => ?_)
  · obtain ⟨z, rfl⟩ := h1 v M' hp
    refine l_i2l dL_restore_7 ?_
    refine l_lastore dL_restore_8 (fun f hf => ?_)
    refine l_goto (tgt := 18) dL_restore_9 rfl ?_
    refine l_iconst dL_restore_18 ?_
    exact l_ireturn dL_restore_19 (by omega) (by omega) (Or.inl ⟨z, M', rfl, hp, rfl, hf⟩)
  · obtain ⟨c, hc⟩ := h2 E M' hp
    rcases id hc with ⟨rfl, rfl⟩ | ⟨rfl, rfl⟩
    · refine ⟨12, 1, 3, ⟨[], _, _, rfl, by decide, by decide, rfl, rfl, fun z hz => absurd hz List.not_mem_nil⟩, Nat.le_of_ble_eq_true rfl, Or.inl ⟨3, rfl, dL_restore_12, rfl⟩, ?_⟩
      refine l_iconst dL_restore_13 ?_
      exact l_ireturn dL_restore_14 (by omega) (by omega) (Or.inr ⟨_, M', _, hc, hp, rfl, rfl⟩)
    · refine ⟨15, 1, 3, ⟨[(0, 9, 12, 13)], _, _, rfl, by decide, by decide, rfl, rfl, fun z hz => by
        simp only [List.mem_cons, List.not_mem_nil, or_false] at hz
        rcases hz with rfl <;> exact ⟨_, rfl, by decide⟩⟩, Nat.le_of_ble_eq_true rfl, Or.inl ⟨3, rfl, dL_restore_15, rfl⟩, ?_⟩
      refine l_iconst dL_restore_16 ?_
      exact l_ireturn dL_restore_17 (by omega) (by omega) (Or.inr ⟨_, M', _, hc, hp, rfl, rfl⟩)
end WR


/-! Trees of cells that are equal; the model: the tree of a map. -/
def cE (c c' : Int → Int) (L : Nat) : Prop := ∀ k, 0 ≤ k → k < p4 L → c k = c' k
theorem cE_blk {c c' : Int → Int} {L : Nat} (hL : L ≤ 4) (h : cE c c' L) {l x : Int} (hl : 0 ≤ l ∧ l ≤ L) (hx : 0 ≤ x ∧ x < p4 ((L : Int) - l)) : blkE c c' l x := fun k k0 k1 => by
  have := blk_in hL hl hx
  exact h _ (by omega) (by omega)
theorem qcode_e {c c' : Int → Int} {l b : Int} (hl : 0 ≤ l ∧ l < 4) (hb : 0 ≤ b) (e : blkE c c' (l + 1) b) {i : Nat} (hi : i < 4) : qcode c l b i = qcode c' l b i := (qlast_c hl hb e 4 (Nat.le_refl 4)).2 i hi
theorem tsum_e {c c' : Int → Int} {l : Nat} {b : Int} (hl : l < 4) (hb : 0 ≤ b) (e : blkE c c' ((l : Int) + 1) b) : ∀ i : Nat, i ≤ 4 → tsum c (tsz c l) l b i = tsum c' (tsz c' l) l b i ∧ thd c l b i = thd c' l b i := by
  intro i
  induction i with
  | zero => intro _; exact ⟨rfl, rfl⟩
  | succ i ih =>
    intro hi
    have hq := qcode_e (l := (l : Int)) (by omega) hb e (show i < 4 by omega)
    have ht := tsz_c l (by omega) (4 * b + i) (by omega) (blkE_kid (by omega) e (q := (i : Int)) (by omega))
    rw [tsum, tsum, thd, thd, (ih (by omega)).1, (ih (by omega)).2, hq, ht]
    exact ⟨rfl, rfl⟩
theorem sr_e {c c' : Int → Int} {L : Nat} (hL : L ≤ 4) (h : cE c c' L) : ∀ (d : Nat), d ≤ L → ∀ x, 0 ≤ x → x < p4 d → sr c L 0 d x = sr c' L 0 d x := by
  intro d
  induction d with
  | zero => intro _ x _ _; rfl
  | succ d ih =>
    intro hd x h0 h1
    have hps := p4_s (l := (d : Int)) (by omega)
    rw [show ((d + 1 : Nat) : Int) = (d : Int) + 1 by omega, hps] at h1
    have hi := ih (by omega) (x / 4) (by omega) (by omega)
    have hb : blkE c c' (((L - d - 1 : Nat) : Int) + 1) (x / 4) := cE_blk hL h (by omega) ⟨by omega, by rw [show (L : Int) - (((L - d - 1 : Nat) : Int) + 1) = d by omega]; omega⟩
    have hq := qcode_e (l := ((L - d - 1 : Nat) : Int)) (by omega) (show 0 ≤ x / 4 by omega) hb (show (x % 4).toNat < 4 by omega)
    have ht := (tsum_e (l := L - d - 1) (by omega) (show 0 ≤ x / 4 by omega) hb (x % 4).toNat (by omega)).1
    rw [show ((L - d - 1 : Nat) : Int) = (L : Int) - d - 1 by omega] at hq ht
    rw [sr_s, sr_s, hi, hq, ht]
theorem bcode_e {c c' : Int → Int} {L : Nat} (hL : L ≤ 4) (h : cE c c' L) {d : Nat} (hd : d ≤ L) {x : Int} (hx : 0 ≤ x ∧ x < p4 d) : bcode c L d x = bcode c' L d x := by
  cases d with
  | zero => rfl
  | succ d =>
    have h1 := hx.2
    have hps := p4_s (l := (d : Int)) (by omega)
    rw [show ((d + 1 : Nat) : Int) = (d : Int) + 1 by omega, hps] at h1
    have hi := sr_e hL h d (by omega) (x / 4) (by omega) (by omega)
    have hb : blkE c c' (((L - d - 1 : Nat) : Int) + 1) (x / 4) := cE_blk hL h (by omega) ⟨by omega, by rw [show (L : Int) - (((L - d - 1 : Nat) : Int) + 1) = d by omega]; omega⟩
    have hq := qcode_e (l := ((L - d - 1 : Nat) : Int)) (by omega) (show 0 ≤ x / 4 by omega) hb (show (x % 4).toNat < 4 by omega)
    rw [show ((L - d - 1 : Nat) : Int) = (L : Int) - d - 1 by omega] at hq
    rw [bcode, bcode, hi, hq]
theorem lay_e {c c' : Int → Int} : ∀ (l : Nat), l ≤ 4 → ∀ (b : Int) (T : Int → Int) (a : Int), 0 ≤ b → blkE c c' l b → lay c l b T a → lay c' l b T a := by
  intro l
  induction l with
  | zero =>
    intro _ b T a hb e h
    have := e 0 (by omega) (by decide)
    rw [show p4 ((0 : Nat) : Int) * b + 0 = b by rw [show p4 ((0 : Nat) : Int) = 1 from rfl]; omega] at this
    exact h.trans this
  | succ l ih =>
    intro hl b T a hb e h
    rw [show ((l + 1 : Nat) : Int) = (l : Int) + 1 by omega] at e
    refine ⟨h.1.trans (tsum_e (by omega) hb e 4 (Nat.le_refl 4)).2, fun i hi hq => ?_⟩
    have hqe := qcode_e (l := (l : Int)) (by omega) hb e hi
    have := h.2 i hi (by rw [hqe]; exact hq)
    rw [(tsum_e (by omega) hb e i (by omega)).1] at this
    exact ih (by omega) _ T _ (by omega) (blkE_kid (by omega) e (q := (i : Int)) (by omega)) this
theorem tsz_e {c c' : Int → Int} {L l : Nat} (hL : L ≤ 4) (h : cE c c' L) (hl : l ≤ L) {x : Int} (hx : 0 ≤ x ∧ x < p4 ((L : Int) - l)) : tsz c l x = tsz c' l x := tsz_c l (by omega) x hx.1 (cE_blk hL h (by omega) hx)
theorem Mt_e {c c' : Int → Int} {L : Nat} {T K F S : Int → Int} (hL : L ≤ 4) (h : cE c c' L) (hm : Mt c L T K F S) : Mt c' L T K F S := by
  obtain ⟨h1, h2, h3⟩ := hm
  refine ⟨lay_e L hL 0 T 0 (Int.le_refl 0) (cE_blk hL h (by omega) ⟨Int.le_refl 0, by rw [show (L : Int) - L = 0 by omega]; decide⟩) h1, fun d x a1 a2 a3 => ?_, h3⟩
  obtain ⟨e1, e2, e3⟩ := h2 d x a1 a2 a3
  have s := sr_e hL h d a1 x a2 a3
  refine ⟨e1.trans (bcode_e hL h a1 ⟨a2, a3⟩), e2.trans s, e3.trans ?_⟩
  rw [s, tsz_e hL h (l := L - d) (by omega) ⟨a2, by rw [show (L : Int) - ((L - d : Nat) : Int) = d by omega]; exact a3⟩]
theorem mtw_MS (M : qM) (T K F S : Int → Int) (n : Int) : MS M (mtw M T K F S n) := by
  refine ⟨fun o h37 h42 h43 h44 h45 h46 _ _ _ => ?_, fun k hk => ?_⟩
  · funext j
    unfold mtw
    rw [if_neg h43, if_neg h44, if_neg h45, if_neg h46, if_neg (fun w => h37 w.1)]
  · unfold mtw
    rw [if_neg (by decide), if_neg (by decide), if_neg (by decide), if_neg (by decide), if_neg (by omega)]
section MR
variable {M : qM} {L l : Nat} {c : Int → Int} {k o x y a b v p q f t n g : Int}
set_option maxHeartbeats 2000000 in
theorem m_fetchesTree (hM : MI M) (hL : M 37 2 = (L : Int)) (hk : 0 ≤ k ∧ k < 6) : qCt mX8_fetchesTree 0 8 [.ref 37, .int (zI k)] (qup M 37 0 g) (qph (fun M' => ∃ T K F S, M' = mtw (fW M g L k) T K F S (tsz (scl M k) L 0) ∧ Mt (scl M k) L T K F S)) := by
  have hL4 : L ≤ 4 := by have := hM.2.1; omega
  have he : cE (fW M g L k 42) (scl M k) L := fun i i0 i1 => fW_42 ⟨i0, i1⟩
  refine q_intro (own := 8) (L := [some (.ref 37), some (.int (zI k))]) md_X8_fetchesTree rfl rfl rfl (Nat.le_of_ble_eq_true rfl) (fun X => ?_)
  refine q_aload_n dX8_fetchesTree_0 rfl ?_
  refine q_iload_n dX8_fetchesTree_1 rfl ?_
  refine q_V1 dX8_fetchesTree_2 ml_8_117 md_X8_fetches (m_fetchG hM hL hk) rfl rfl rfl (by first | decide | omega) (Nat.le_of_ble_eq_true rfl) (Nat.le_of_ble_eq_true rfl) (qk_v ?_)
  refine q_aload_n dX8_fetchesTree_5 rfl ?_
  refine q_V0 dX8_fetchesTree_6 ml_8_121 md_X8_laysTree (m_laysTree hL4 fW_9 (fun _ => rfl) (fun i i0 i1 => fW_b hM hk ⟨i0, i1⟩)) rfl rfl rfl (by first | decide | omega) (Nat.le_of_ble_eq_true rfl) (Nat.le_of_ble_eq_true rfl) (qk_h (fun N6 hq6 => ?_))
  refine q_return dX8_fetchesTree_9 ?_
  obtain ⟨T, K, F, S, rfl, hm⟩ := hq6
  exact ⟨rfl, T, K, F, S, by rw [tsz_e hL4 he (Nat.le_refl L) ⟨Int.le_refl 0, by rw [show (L : Int) - L = 0 by omega]; decide⟩], Mt_e hL4 he hm⟩
set_option maxHeartbeats 2000000 in
theorem o_bytes (hM : MI M) (hL : M 37 2 = (L : Int)) (hk : zR k) : qCt mX8_bytes 0 9 [.ref 37, .int (zI k)] M (mpx (gG M k) (fun z M' => z = tsz (scl M k) L 0 ∧ MS (qup M 37 0 0) M') M) := by
  refine q_intro (own := 8) (L := [some (.ref 37), some (.int (zI k))]) md_X8_bytes rfl rfl rfl (Nat.le_of_ble_eq_true rfl) (fun X => ?_)
  refine q_aload_n dX8_bytes_0 rfl ?_
  refine q_iload_n dX8_bytes_1 rfl ?_
  refine q_V1 dX8_bytes_2 ml_8_292 md_X8_noMap (m_noMap hM.1 hM.2.2.2.1 hk) rfl rfl rfl (by first | decide | omega) (Nat.le_of_ble_eq_true rfl) (Nat.le_of_ble_eq_true rfl) (qk_e ?_)
  refine q_if_eq (tgt := 10) dX8_bytes_5 rfl (by exact zb_R _) (fun h5 => ?_) (fun h5 => ?_)
  ·
    have hg := zbz h5
    have hgk := gG_0 hM hg
    rw [hg]
    refine q_aload_n dX8_bytes_10 rfl ?_
    refine q_iload_n dX8_bytes_11 rfl ?_
    refine q_V1 dX8_bytes_12 ml_8_286 md_X8_fetchesTree (m_fetchesTree hM hL (by omega)) rfl rfl rfl (by first | decide | omega) (Nat.le_of_ble_eq_true rfl) (Nat.le_of_ble_eq_true rfl) (qk_h (fun N12 hq12 => ?_))
    obtain ⟨Tq, Kq, Fq, Sq, rfl, hm⟩ := hq12
    refine q_aload_n dX8_bytes_15 rfl ?_
    refine q_geti (j := 12) dX8_bytes_16 fl_8_101 rfl rfl rfl ?_
    rw [mtw_12]
    refine q_ireturn dX8_bytes_19 ?_
    exact mpx_k hg ⟨rfl, MS_tr (fW_MS M 0 L k) (mtw_MS _ _ _ _ _ _)⟩
  ·
    refine q_iconst dX8_bytes_8 ?_
    refine q_ireturn dX8_bytes_9 ?_
    exact mpx_g (zbn h5)
end MR


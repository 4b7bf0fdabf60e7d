/-! Doubles and floats: no quotient here is NaN; meanBits, share. -/
theorem enc_le {c : Nat} {q : Int} (hc : c < 9007199254740992) (h0 : -1074 ≤ q) (h1 : q ≤ 971) : FP.Core.encode FP.Core.b64 (.fin false c q) ≤ 9218868437227405312 := by
  show (if c < FP.Core.b64.tails then FP.Core.assemble FP.Core.b64 false 0 c else FP.Core.assemble FP.Core.b64 false ((q - FP.Core.b64.qmin).toNat + 1) (c - FP.Core.b64.tails)) ≤ _
  have ht : FP.Core.b64.tails = 4503599627370496 := by decide
  have hq : FP.Core.b64.qmin = -1074 := by decide
  have he : FP.Core.b64.exps = 2048 := by decide
  have hb : Bool.toNat false = 0 := rfl
  unfold FP.Core.assemble
  rw [ht, hq, he, hb]
  by_cases g : c < 4503599627370496
  · rw [if_pos g]; omega
  · rw [if_neg g]; omega
theorem inf_le : FP.Core.encode FP.Core.b64 (.inf false) ≤ 9218868437227405312 := by decide +kernel
theorem rr_le (n d : Nat) (e : Int) : FP.Core.encode FP.Core.b64 (FP.Core.roundRatio FP.Core.b64 false n d e) ≤ 9218868437227405312 := by
  have hm : FP.Core.b64.qmin = -1074 := by decide
  have hx : FP.Core.b64.qmax = 971 := by decide
  have hp : 2 ^ FP.Core.b64.p = 9007199254740992 := by decide
  have ht : FP.Core.b64.tails = 4503599627370496 := by decide
  unfold FP.Core.roundRatio
  by_cases g : n = 0
  · rw [if_pos g]; exact enc_le (by decide) (by omega) (by omega)
  · rw [if_neg g]
    have hq : -1074 ≤ FP.Core.quantum FP.Core.b64 n d e := by
      unfold FP.Core.quantum
      rw [hm]
      omega
    unfold FP.Core.roundAt FP.Core.settle
    generalize FP.Core.nearest _ _ = c
    generalize FP.Core.quantum FP.Core.b64 n d e = q at hq
    rw [hp]
    unfold FP.Core.bound
    rw [hx, ht]
    by_cases g1 : c < 9007199254740992
    · rw [if_pos g1]
      by_cases g2 : q ≤ 971
      · rw [if_pos g2]; exact enc_le g1 hq g2
      · rw [if_neg g2]; exact inf_le
    · rw [if_neg g1]
      by_cases g2 : q + 1 ≤ 971
      · rw [if_pos g2]; exact enc_le (by decide) (by omega) g2
      · rw [if_neg g2]; exact inf_le
theorem enc_le3 {c : Nat} {q : Int} (hc : c < 16777216) (h0 : -149 ≤ q) (h1 : q ≤ 104) : FP.Core.encode FP.Core.b32 (.fin false c q) ≤ 2139095040 := by
  show (if c < FP.Core.b32.tails then FP.Core.assemble FP.Core.b32 false 0 c else FP.Core.assemble FP.Core.b32 false ((q - FP.Core.b32.qmin).toNat + 1) (c - FP.Core.b32.tails)) ≤ _
  have ht : FP.Core.b32.tails = 8388608 := by decide
  have hq : FP.Core.b32.qmin = -149 := by decide
  have he : FP.Core.b32.exps = 256 := by decide
  have hb : Bool.toNat false = 0 := rfl
  unfold FP.Core.assemble
  rw [ht, hq, he, hb]
  by_cases g : c < 8388608
  · rw [if_pos g]; omega
  · rw [if_neg g]; omega
theorem inf_le3 : FP.Core.encode FP.Core.b32 (.inf false) ≤ 2139095040 := by decide +kernel
theorem rr_le3 (n d : Nat) (e : Int) : FP.Core.encode FP.Core.b32 (FP.Core.roundRatio FP.Core.b32 false n d e) ≤ 2139095040 := by
  have hm : FP.Core.b32.qmin = -149 := by decide
  have hx : FP.Core.b32.qmax = 104 := by decide
  have hp : 2 ^ FP.Core.b32.p = 16777216 := by decide
  have ht : FP.Core.b32.tails = 8388608 := by decide
  unfold FP.Core.roundRatio
  by_cases g : n = 0
  · rw [if_pos g]; exact enc_le3 (by decide) (by omega) (by omega)
  · rw [if_neg g]
    have hq : -149 ≤ FP.Core.quantum FP.Core.b32 n d e := by
      unfold FP.Core.quantum
      rw [hm]
      omega
    unfold FP.Core.roundAt FP.Core.settle
    generalize FP.Core.nearest _ _ = c
    generalize FP.Core.quantum FP.Core.b32 n d e = q at hq
    rw [hp]
    unfold FP.Core.bound
    rw [hx, ht]
    by_cases g1 : c < 16777216
    · rw [if_pos g1]
      by_cases g2 : q ≤ 104
      · rw [if_pos g2]; exact enc_le3 g1 hq g2
      · rw [if_neg g2]; exact inf_le3
    · rw [if_neg g1]
      by_cases g2 : q + 1 ≤ 104
      · rw [if_pos g2]; exact enc_le3 (by decide) (by omega) g2
      · rw [if_neg g2]; exact inf_le3
/-- the double of a number is a number, 0 for 0 alone -/
def fpos (d : FP.Core.Datum) (z : Bool) : Bool := match d with
  | .fin s c _ => !s && (decide (c = 0) == z)
  | _ => false
theorem fpos_i {d : FP.Core.Datum} {z : Bool} (h : fpos d z = true) : ∃ c q, d = .fin false c q ∧ (z = false → c ≠ 0) := by
  cases d with
  | nan => cases h
  | inf s => cases h
  | fin s c q =>
    cases s with
    | true => cases h
    | false =>
      refine ⟨c, q, rfl, fun hz hc => ?_⟩
      subst hz
      subst hc
      cases h
theorem i2d_fin : ∀ a : Fin 2049, fpos (FP.Core.decode FP.Core.b64 (FP.i2d (zI (a.val : Int))).toNat) (decide (a.val = 0)) = true := by decide +kernel
theorem i2f_fin : ∀ a : Fin 342, fpos (FP.Core.decode FP.Core.b32 (FP.i2f (zI (a.val : Int))).toNat) (decide (a.val = 0)) = true := by decide +kernel
def mbF (o t : Int) : UInt64 := FP.ddiv (FP.i2d (zI o)) (FP.i2d (zI t))
def shF (t p : Int) : UInt32 := FP.fdiv (FP.i2f (zI t)) (FP.i2f (zI p))
theorem mb_le {o t : Int} (ho : 0 ≤ o ∧ o ≤ 2048) (ht : 1 ≤ t ∧ t ≤ 341) : ∃ n : Nat, n ≤ 9218868437227405312 ∧ mbF o t = UInt64.ofNat n := by
  obtain ⟨a, rfl⟩ := z_nat ho.1
  obtain ⟨b, rfl⟩ := z_nat (show 0 ≤ t by omega)
  obtain ⟨c, q, h1, _⟩ := fpos_i (i2d_fin ⟨a, by omega⟩)
  obtain ⟨d, r, h2, h3⟩ := fpos_i (i2d_fin ⟨b, by omega⟩)
  have hd := h3 (decide_eq_false (by show ¬ b = 0; omega))
  refine ⟨_, ?_, rfl⟩
  dsimp only at h1 h2
  unfold FP.Core.div
  rw [h1, h2]
  show FP.Core.encode FP.Core.b64 (if d = 0 then (if c = 0 then .nan else .inf (false != false)) else FP.Core.roundRatio FP.Core.b64 (false != false) c d (q - r)) ≤ _
  rw [if_neg hd]
  exact rr_le c d (q - r)
theorem sh_le {t p : Int} (ht : 0 ≤ t ∧ t ≤ 341) (hp : 1 ≤ p ∧ p ≤ 341) : ∃ n : Nat, n ≤ 2139095040 ∧ shF t p = UInt32.ofNat n := by
  obtain ⟨a, rfl⟩ := z_nat ht.1
  obtain ⟨b, rfl⟩ := z_nat (show 0 ≤ p by omega)
  obtain ⟨c, q, h1, _⟩ := fpos_i (i2f_fin ⟨a, by omega⟩)
  obtain ⟨d, r, h2, h3⟩ := fpos_i (i2f_fin ⟨b, by omega⟩)
  have hd := h3 (decide_eq_false (by show ¬ b = 0; omega))
  refine ⟨_, ?_, rfl⟩
  dsimp only at h1 h2
  unfold FP.Core.div
  rw [h1, h2]
  show FP.Core.encode FP.Core.b32 (if d = 0 then (if c = 0 then .nan else .inf (false != false)) else FP.Core.roundRatio FP.Core.b32 (false != false) c d (q - r)) ≤ _
  rw [if_neg hd]
  exact rr_le3 c d (q - r)
theorem n64_of {n : Nat} (h : n ≤ 9218868437227405312) : vf_n64 (UInt64.ofNat n) := by
  unfold vf_n64
  rw [UInt64.le_iff_toNat_le, UInt64.toNat_and, UInt64.toNat_ofNat']
  show n % 2 ^ 64 &&& 9223372036854775807 ≤ 9218868437227405312
  have e : n % 2 ^ 64 &&& (2 ^ 63 - 1) = n % 2 ^ 64 % 2 ^ 63 := Nat.and_two_pow_sub_one_eq_mod _ 63
  rw [show (9223372036854775807 : Nat) = 2 ^ 63 - 1 by decide, e]
  omega
theorem n32_of {n : Nat} (h : n ≤ 2139095040) : vf_n32 (UInt32.ofNat n) := by
  unfold vf_n32
  rw [UInt32.le_iff_toNat_le, UInt32.toNat_and, UInt32.toNat_ofNat']
  show n % 2 ^ 32 &&& 2147483647 ≤ 2139095040
  have e : n % 2 ^ 32 &&& (2 ^ 31 - 1) = n % 2 ^ 32 % 2 ^ 31 := Nat.and_two_pow_sub_one_eq_mod _ 31
  rw [show (2147483647 : Nat) = 2 ^ 31 - 1 by decide, e]
  omega
section QFL
variable {X : qX} {own : Nat} {cc : ByteArray} {nL : Nat} {ret : Option FieldType} {u d : Nat} {P : qP} {b pc : Nat} {L : List (Option Value)} {st : List Value} {M : qM}
theorem q_i2d {a : Int} (dd : decode cc pc = .ok (.i2d, 1)) (k : QW X (own, cc, nL, ret, u, d) P b (pc + 1) L (.double (FP.i2d (zI a)) :: st) M) : QW X (own, cc, nL, ret, u, d) P b pc L (.int (zI a) :: st) M := by
  obtain ⟨p, l, e, s, m, args, below, meth, c, dC, dI, cyI, cyZ, ad⟩ := X
  intro ok H locs cells slots ls hP hS hl h1 h2
  obtain ⟨hx, hb, hml, hown, hts, hret, hlocks, hex, hK, hinj, henv, hst⟩ := id ok
  exact lv_i2d hx hb dd (k ok H locs cells slots ls hP hS hl h1 h2)
theorem q_i2f {a : Int} (dd : decode cc pc = .ok (.i2f, 1)) (k : QW X (own, cc, nL, ret, u, d) P b (pc + 1) L (.float (FP.i2f (zI a)) :: st) M) : QW X (own, cc, nL, ret, u, d) P b pc L (.int (zI a) :: st) M := by
  obtain ⟨p, l, e, s, m, args, below, meth, c, dC, dI, cyI, cyZ, ad⟩ := X
  intro ok H locs cells slots ls hP hS hl h1 h2
  obtain ⟨hx, hb, hml, hown, hts, hret, hlocks, hex, hK, hinj, henv, hst⟩ := id ok
  exact lv_i2f hx hb dd (k ok H locs cells slots ls hP hS hl h1 h2)
theorem q_ddiv {x y : UInt64} (dd : decode cc pc = .ok (.ddiv, 1)) (hne : vf_n64 (FP.ddiv x y)) (k : QW X (own, cc, nL, ret, u, d) P b (pc + 1) L (.double (FP.ddiv x y) :: st) M) : QW X (own, cc, nL, ret, u, d) P b pc L (.double y :: .double x :: st) M := by
  obtain ⟨p, l, e, s, m, args, below, meth, c, dC, dI, cyI, cyZ, ad⟩ := X
  intro ok H locs cells slots ls hP hS hl h1 h2
  obtain ⟨hx, hb, hml, hown, hts, hret, hlocks, hex, hK, hinj, henv, hst⟩ := id ok
  exact lv_ddiv hx hb dd hne (k ok H locs cells slots ls hP hS hl h1 h2)
theorem q_fdiv {x y : UInt32} (dd : decode cc pc = .ok (.fdiv, 1)) (hne : vf_n32 (FP.fdiv x y)) (k : QW X (own, cc, nL, ret, u, d) P b (pc + 1) L (.float (FP.fdiv x y) :: st) M) : QW X (own, cc, nL, ret, u, d) P b pc L (.float y :: .float x :: st) M := by
  obtain ⟨p, l, e, s, m, args, below, meth, c, dC, dI, cyI, cyZ, ad⟩ := X
  intro ok H locs cells slots ls hP hS hl h1 h2
  obtain ⟨hx, hb, hml, hown, hts, hret, hlocks, hex, hK, hinj, henv, hst⟩ := id ok
  exact lv_fdiv hx hb dd hne (k ok H locs cells slots ls hP hS hl h1 h2)
theorem q_dconst0 (dd : decode cc pc = .ok (.dconst 0, 1)) (k : QW X (own, cc, nL, ret, u, d) P b (pc + 1) L (.double FP.dconst0 :: st) M) : QW X (own, cc, nL, ret, u, d) P b pc L st M := by
  obtain ⟨p, l, e, s, m, args, below, meth, c, dC, dI, cyI, cyZ, ad⟩ := X
  intro ok H locs cells slots ls hP hS hl h1 h2
  obtain ⟨hx, hb, hml, hown, hts, hret, hlocks, hex, hK, hinj, henv, hst⟩ := id ok
  exact lv_dconst0 hx hb dd (k ok H locs cells slots ls hP hS hl h1 h2)
theorem q_fconst0 (dd : decode cc pc = .ok (.fconst 0, 1)) (k : QW X (own, cc, nL, ret, u, d) P b (pc + 1) L (.float FP.fconst0 :: st) M) : QW X (own, cc, nL, ret, u, d) P b pc L st M := by
  obtain ⟨p, l, e, s, m, args, below, meth, c, dC, dI, cyI, cyZ, ad⟩ := X
  intro ok H locs cells slots ls hP hS hl h1 h2
  obtain ⟨hx, hb, hml, hown, hts, hret, hlocks, hex, hK, hinj, henv, hst⟩ := id ok
  exact lv_fconst0 hx hb dd (k ok H locs cells slots ls hP hS hl h1 h2)
theorem q_dreturn {z : UInt64} (dd : decode cc pc = .ok (.dreturn, 1)) (h : P.1 (some (.double z)) M) : QW X (own, cc, nL, some .double, u, d) P b pc L [.double z] M := by
  obtain ⟨p, l, e, s, m, args, below, meth, c, dC, dI, cyI, cyZ, ad⟩ := X
  intro ok H locs cells slots ls hP hS hl h1 h2
  obtain ⟨hx, hb, hml, hown, hts, hret, hlocks, hex, hK, hinj, henv, hst⟩ := id ok
  refine W.widen (k := u) (n := 6 * u) (by omega) (by omega) (vx_ret ?_)
  refine W.dret hx hb hret  (fun t ht hW => ⟨⟨(some (.double z)), M, rfl, h, by rw [ht]; exact hP⟩, hS.F ht⟩) hS.2.2 dd hlocks
theorem q_freturn {z : UInt32} (dd : decode cc pc = .ok (.freturn, 1)) (h : P.1 (some (.float z)) M) : QW X (own, cc, nL, some .float, u, d) P b pc L [.float z] M := by
  obtain ⟨p, l, e, s, m, args, below, meth, c, dC, dI, cyI, cyZ, ad⟩ := X
  intro ok H locs cells slots ls hP hS hl h1 h2
  obtain ⟨hx, hb, hml, hown, hts, hret, hlocks, hex, hK, hinj, henv, hst⟩ := id ok
  refine W.widen (k := u) (n := 6 * u) (by omega) (by omega) (vx_ret ?_)
  refine W.fret hx hb hret  (fun t ht hW => ⟨⟨(some (.float z)), M, rfl, h, by rw [ht]; exact hP⟩, hS.F ht⟩) hS.2.2 dd hlocks
end QFL
def qpV (g : Int) (R : Value → qM → Prop) (Mx : qM → Prop) : qP := (fun v M' => g = 0 ∧ ∃ z, v = some z ∧ R z M', fun E M' => g ≠ 0 ∧ E = exN g ∧ Mx M')
def mpD (g : Int) (R : UInt64 → qM → Prop) (M : qM) : qP := (fun v M' => ∃ z, v = some (.double z) ∧ ((g ≠ 0 ∧ MS (qup M 37 0 g) M') ∨ (g = 0 ∧ R z M')), fun _ _ => False)
def mpF (g : Int) (R : UInt32 → qM → Prop) (M : qM) : qP := (fun v M' => ∃ z, v = some (.float z) ∧ ((g ≠ 0 ∧ MS (qup M 37 0 g) M') ∨ (g = 0 ∧ R z M')), fun _ _ => False)
section KFL
variable {M : qM} {L : Nat} {k : Int}
set_option maxHeartbeats 1500000 in
theorem k_meanBits (hC : CI M) (hL : M 0 10 = (L : Int)) (hk : zR k) : qCt mX7_meanBits 2 9 [.ref 0, .int (zI k)] M (qpV (gor (gText M) (gor (gMap M k) 0)) (fun z M' => z = .double (mbF (onesI (rowc M k) 0 (8 * p4 L - 1)) (tsz (rowc M k) L 0)) ∧ Scr M M') (Scr M)) := by
  refine q_intro (own := 7) (L := [some (.ref 0), some (.int (zI k)), none]) md_X7_meanBits rfl rfl rfl (Nat.le_of_ble_eq_true rfl) (fun X => ?_)
  refine q_aload_n dX7_meanBits_0 rfl ?_
  refine q_V0 dX7_meanBits_1 ml_7_141 md_X7_requireText (c_requireText hC) rfl rfl rfl (by first | decide | omega) (Nat.le_of_ble_eq_true rfl) (Nat.le_of_ble_eq_true rfl) (qk_Gp (fun hq1 => ?_) (fun h => ⟨by rw [gor_n h]; exact h, by rw [gor_n h], Scr_rf hC⟩))
  have hLv := CI_lv hC hL hq1
  have ht2 := tmax_in L hLv.2
  have hpL := p4_in (L : Int)
  refine q_aload_n dX7_meanBits_4 rfl ?_
  refine q_iload_n dX7_meanBits_5 rfl ?_
  refine q_V1 dX7_meanBits_6 ml_7_172 md_X7_requireMap (c_requireMap hC hk) rfl rfl rfl (by first | decide | omega) (Nat.le_of_ble_eq_true rfl) (Nat.le_of_ble_eq_true rfl) (qk_Gp (fun hq6 => ?_) (fun h => ⟨by rw [gor_0 hq1, gor_n h]; exact h, by rw [gor_0 hq1, gor_n h], Scr_rf hC⟩))
  have hmk := CI_mp hC hq6
  refine q_aload_n dX7_meanBits_9 rfl ?_
  refine q_iload_n dX7_meanBits_10 rfl ?_
  refine q_V1 dX7_meanBits_11 ml_7_202 md_X7_sizeOfRow (c_sizeR hC hL hLv (by omega)) rfl rfl rfl (by first | decide | omega) (Nat.le_of_ble_eq_true rfl) (Nat.le_of_ble_eq_true rfl) (qk_g (fun z11 N11 hq11 => ?_))
  obtain ⟨rfl, hS⟩ := hq11
  have hti := tsz_in (rowc M k) L 0
  refine q_istore_n dX7_meanBits_14 (Nat.le_of_ble_eq_true rfl) rfl ?_
  refine q_iload_n dX7_meanBits_15 rfl ?_
  refine q_iconst dX7_meanBits_16 ?_
  refine q_icmp_ge (tgt := 24) dX7_meanBits_17 rfl (by (first | (unfold zR; omega) | (unfold zLR; omega) | omega | (simp only [zR, qup] at *; omega) | (simp [zR, qup]; omega) | (simp [zR, qup]; done))) (by (first | (unfold zR; omega) | (unfold zLR; omega) | omega | (simp only [zR, qup] at *; omega) | (simp [zR, qup]; omega) | (simp [zR, qup]; done))) (fun h17 => ?_) (fun h17 => absurd h17 (by omega))
  refine q_aload_n dX7_meanBits_24 rfl ?_
  refine q_iload_n dX7_meanBits_25 rfl ?_
  refine q_V1 dX7_meanBits_26 ml_7_254 md_X7_onesOfRow (c_onesOfRow (Scr_CI hC hS) (by rw [Scr_lv hS]; exact hL) hLv (by omega)) rfl rfl rfl (by first | decide | omega) (Nat.le_of_ble_eq_true rfl) (Nat.le_of_ble_eq_true rfl) (qk_e ?_)
  have hrw : onesI (rowc N11 k) 0 (8 * p4 L - 1) = onesI (rowc M k) 0 (8 * p4 L - 1) := onesI_c (fun i i0 i1 => by unfold rowc; exact hS.2.1 _ (Or.inl (by omega))) _ _
  rw [hrw]
  have ho := zsum_in (f := ind (rowc M k) 0 (8 * p4 L - 1)) (a := 0) (B := 1) (n := 2048) (fun i _ _ => by have := ind_01 (rowc M k) 0 (8 * p4 L - 1) i; omega)
  obtain ⟨nn, hn1, hn2⟩ := mb_le (o := onesI (rowc M k) 0 (8 * p4 L - 1)) (t := tsz (rowc M k) L 0) (by unfold onesI; omega) (by omega)
  refine q_i2d dX7_meanBits_29 ?_
  refine q_iload_n dX7_meanBits_30 rfl ?_
  refine q_i2d dX7_meanBits_31 ?_
  refine q_ddiv dX7_meanBits_32 (by have := n64_of hn1; rw [← hn2] at this; exact this) ?_
  exact q_dreturn dX7_meanBits_33 ⟨by rw [gor_0 hq1, gor_0 hq6], _, rfl, rfl, hS⟩
set_option maxHeartbeats 1500000 in
theorem k_share (hC : CI M) (hL : M 0 10 = (L : Int)) (hk : zR k) : qCt mX7_share 2 9 [.ref 0, .int (zI k)] M (qpV (gor (gText M) (gor (gMap M k) 0)) (fun z M' => z = .float (shF (tsz (rowc M k) L 0) (p4 L)) ∧ Scr M M') (Scr M)) := by
  refine q_intro (own := 7) (L := [some (.ref 0), some (.int (zI k)), none]) md_X7_share rfl rfl rfl (Nat.le_of_ble_eq_true rfl) (fun X => ?_)
  refine q_aload_n dX7_share_0 rfl ?_
  refine q_V0 dX7_share_1 ml_7_141 md_X7_requireText (c_requireText hC) rfl rfl rfl (by first | decide | omega) (Nat.le_of_ble_eq_true rfl) (Nat.le_of_ble_eq_true rfl) (qk_Gp (fun hq1 => ?_) (fun h => ⟨by rw [gor_n h]; exact h, by rw [gor_n h], Scr_rf hC⟩))
  have hLv := CI_lv hC hL hq1
  have ht2 := tmax_in L hLv.2
  have hpL := p4_in (L : Int)
  refine q_aload_n dX7_share_4 rfl ?_
  refine q_iload_n dX7_share_5 rfl ?_
  refine q_V1 dX7_share_6 ml_7_172 md_X7_requireMap (c_requireMap hC hk) rfl rfl rfl (by first | decide | omega) (Nat.le_of_ble_eq_true rfl) (Nat.le_of_ble_eq_true rfl) (qk_Gp (fun hq6 => ?_) (fun h => ⟨by rw [gor_0 hq1, gor_n h]; exact h, by rw [gor_0 hq1, gor_n h], Scr_rf hC⟩))
  have hmk := CI_mp hC hq6
  refine q_aload_n dX7_share_9 rfl ?_
  refine q_geti (j := 10) dX7_share_10 fl_7_121 rfl rfl rfl ?_
  rw [hL]
  refine q_S1 dX7_share_13 ml_7_164 md_X7_cellsIn (c_cellsIn (by omega)) rfl (by first | decide | omega) (Nat.le_of_ble_eq_true rfl) (Nat.le_of_ble_eq_true rfl) (qk_e ?_)
  refine q_istore_n dX7_share_16 (Nat.le_of_ble_eq_true rfl) rfl ?_
  refine q_iload_n dX7_share_17 rfl ?_
  refine q_iconst dX7_share_18 ?_
  refine q_icmp_ge (tgt := 26) dX7_share_19 rfl (by (first | (unfold zR; omega) | (unfold zLR; omega) | omega | (simp only [zR, qup] at *; omega) | (simp [zR, qup]; omega) | (simp [zR, qup]; done))) (by (first | (unfold zR; omega) | (unfold zLR; omega) | omega | (simp only [zR, qup] at *; omega) | (simp [zR, qup]; omega) | (simp [zR, qup]; done))) (fun h19 => ?_) (fun h19 => absurd h19 (by omega))
  refine q_aload_n dX7_share_26 rfl ?_
  refine q_iload_n dX7_share_27 rfl ?_
  refine q_V1 dX7_share_28 ml_7_202 md_X7_sizeOfRow (c_sizeR hC hL hLv (by omega)) rfl rfl rfl (by first | decide | omega) (Nat.le_of_ble_eq_true rfl) (Nat.le_of_ble_eq_true rfl) (qk_g (fun z28 N28 hq28 => ?_))
  obtain ⟨rfl, hS⟩ := hq28
  have hti := tsz_in (rowc M k) L 0
  obtain ⟨nn, hn1, hn2⟩ := sh_le (t := tsz (rowc M k) L 0) (p := p4 L) (by omega) (by omega)
  refine q_i2f dX7_share_31 ?_
  refine q_iload_n dX7_share_32 rfl ?_
  refine q_i2f dX7_share_33 ?_
  refine q_fdiv dX7_share_34 (by have := n32_of hn1; rw [← hn2] at this; exact this) ?_
  exact q_freturn dX7_share_35 ⟨by rw [gor_0 hq1, gor_0 hq6], _, rfl, rfl, hS⟩
set_option maxHeartbeats 1500000 in
theorem o_meanBits (hM : MI M) (hL : M 37 2 = (L : Int)) (hk : zR k) : qCt mX8_meanBits 0 9 [.ref 37, .int (zI k)] M (mpD (gG M k) (fun z M' => z = mbF (zsum (bitP (scl M k)) 0 (8 * p4 L).toNat) (tsz (scl M k) L 0) ∧ MS (qup M 37 0 0) M') M) := by
  have hL4 : L ≤ 4 := by have := hM.2.1; omega
  have ht2 := tmax_in L hL4
  have hpL := p4_in (L : Int)
  refine q_intro (own := 8) (L := [some (.ref 37), some (.int (zI k))]) md_X8_meanBits rfl rfl rfl (Nat.le_of_ble_eq_true rfl) (fun X => ?_)
  refine q_aload_n dX8_meanBits_0 rfl ?_
  refine q_iload_n dX8_meanBits_1 rfl ?_
  refine q_V1 dX8_meanBits_2 ml_8_292 md_X8_noMap (m_noMap hM.1 hM.2.2.2.1 hk) rfl rfl rfl (by first | decide | omega) (Nat.le_of_ble_eq_true rfl) (Nat.le_of_ble_eq_true rfl) (qk_e ?_)
  refine q_if_eq (tgt := 10) dX8_meanBits_5 rfl (by exact zb_R _) (fun h5 => ?_) (fun h5 => ?_)
  ·
    have hg : gG M k = 0 := zbz h5
    have hgk := gG_0 hM hg
    rw [show gor (mT M) (mMp M k) = 0 from hg]
    refine q_aload_n dX8_meanBits_10 rfl ?_
    refine q_iload_n dX8_meanBits_11 rfl ?_
    refine q_V1 dX8_meanBits_12 ml_8_286 md_X8_fetchesTree (m_fetchesTree hM hL (by omega)) rfl rfl rfl (by first | decide | omega) (Nat.le_of_ble_eq_true rfl) (Nat.le_of_ble_eq_true rfl) (qk_h (fun N12 hq12 => ?_))
    obtain ⟨Tq, Kq, Fq, Sq, rfl, hm⟩ := hq12
    have hMS : MS (qup M 37 0 0) (mtw (fW M 0 L k) Tq Kq Fq Sq (tsz (scl M k) L 0)) := MS_tr (fW_MS M 0 L k) (mtw_MS _ _ _ _ _ _)
    refine q_aload_n dX8_meanBits_15 rfl ?_
    refine q_iconst dX8_meanBits_16 ?_
    refine q_aload_n dX8_meanBits_17 rfl ?_
    refine q_V0 dX8_meanBits_18 ml_8_225 md_X8_bits (m_bits (L := L) (by rw [mtw_9]; exact fW_9) hL4) rfl rfl rfl (by first | decide | omega) (Nat.le_of_ble_eq_true rfl) (Nat.le_of_ble_eq_true rfl) (qk_e ?_)
    refine q_iconst dX8_meanBits_21 ?_
    refine q_isub dX8_meanBits_22 ?_
    refine q_V2 dX8_meanBits_23 ml_8_305 md_X8_onesIn (m_onesIn (Int.le_refl 0) (by omega) (fun p p0 p1 => by rw [mtw_42]; exact fW_b hM (by omega) ⟨by omega, by omega⟩) (by omega)) rfl rfl rfl (by first | decide | omega) (Nat.le_of_ble_eq_true rfl) (Nat.le_of_ble_eq_true rfl) (qk_e ?_)
    rw [mtw_42, show 8 * p4 (L : Int) - 1 - 0 + 1 = 8 * p4 (L : Int) by omega, show zsum (bitP (fW M 0 L k 42)) 0 (8 * p4 (L : Int)).toNat = zsum (bitP (scl M k)) 0 (8 * p4 (L : Int)).toNat from zsum_congr (fun p p0 p1 => fW_bit (by omega))]
    have ho := zsum_bit_in (scl M k) 0 (8 * p4 (L : Int)).toNat
    have hti := tsz_in (scl M k) L 0
    obtain ⟨nn, hn1, hn2⟩ := mb_le (o := zsum (bitP (scl M k)) 0 (8 * p4 (L : Int)).toNat) (t := tsz (scl M k) L 0) (by omega) (by omega)
    refine q_i2d dX8_meanBits_26 ?_
    refine q_aload_n dX8_meanBits_27 rfl ?_
    refine q_geti (j := 12) dX8_meanBits_28 fl_8_101 rfl rfl rfl ?_
    rw [mtw_12]
    refine q_i2d dX8_meanBits_31 ?_
    refine q_ddiv dX8_meanBits_32 (by have := n64_of hn1; rw [← hn2] at this; exact this) ?_
    exact q_dreturn dX8_meanBits_33 ⟨_, rfl, Or.inr ⟨hg, rfl, hMS⟩⟩
  ·
    have h : gG M k ≠ 0 := zbn h5
    refine q_dconst0 dX8_meanBits_8 ?_
    exact q_dreturn dX8_meanBits_9 ⟨_, rfl, Or.inl ⟨h, MS_rf _⟩⟩
set_option maxHeartbeats 1500000 in
theorem o_share (hM : MI M) (hL : M 37 2 = (L : Int)) (hk : zR k) : qCt mX8_share 0 9 [.ref 37, .int (zI k)] M (mpF (gG M k) (fun z M' => z = shF (tsz (scl M k) L 0) (p4 L) ∧ MS (qup M 37 0 0) M') M) := by
  have hL4 : L ≤ 4 := by have := hM.2.1; omega
  have ht2 := tmax_in L hL4
  have hpL := p4_in (L : Int)
  refine q_intro (own := 8) (L := [some (.ref 37), some (.int (zI k))]) md_X8_share rfl rfl rfl (Nat.le_of_ble_eq_true rfl) (fun X => ?_)
  refine q_aload_n dX8_share_0 rfl ?_
  refine q_iload_n dX8_share_1 rfl ?_
  refine q_V1 dX8_share_2 ml_8_292 md_X8_noMap (m_noMap hM.1 hM.2.2.2.1 hk) rfl rfl rfl (by first | decide | omega) (Nat.le_of_ble_eq_true rfl) (Nat.le_of_ble_eq_true rfl) (qk_e ?_)
  refine q_if_eq (tgt := 10) dX8_share_5 rfl (by exact zb_R _) (fun h5 => ?_) (fun h5 => ?_)
  ·
    have hg : gG M k = 0 := zbz h5
    have hgk := gG_0 hM hg
    rw [show gor (mT M) (mMp M k) = 0 from hg]
    refine q_aload_n dX8_share_10 rfl ?_
    refine q_iload_n dX8_share_11 rfl ?_
    refine q_V1 dX8_share_12 ml_8_286 md_X8_fetchesTree (m_fetchesTree hM hL (by omega)) rfl rfl rfl (by first | decide | omega) (Nat.le_of_ble_eq_true rfl) (Nat.le_of_ble_eq_true rfl) (qk_h (fun N12 hq12 => ?_))
    obtain ⟨Tq, Kq, Fq, Sq, rfl, hm⟩ := hq12
    have hMS : MS (qup M 37 0 0) (mtw (fW M 0 L k) Tq Kq Fq Sq (tsz (scl M k) L 0)) := MS_tr (fW_MS M 0 L k) (mtw_MS _ _ _ _ _ _)
    refine q_aload_n dX8_share_15 rfl ?_
    refine q_geti (j := 12) dX8_share_16 fl_8_101 rfl rfl rfl ?_
    rw [mtw_12]
    have hti := tsz_in (scl M k) L 0
    obtain ⟨nn, hn1, hn2⟩ := sh_le (t := tsz (scl M k) L 0) (p := p4 L) (by omega) (by omega)
    refine q_i2f dX8_share_19 ?_
    refine q_aload_n dX8_share_20 rfl ?_
    refine q_V0 dX8_share_21 ml_8_86 md_X8_bytesOfMap (m_bytesOfMap (L := L) (by rw [mtw_9]; exact fW_9) hL4) rfl rfl rfl (by first | decide | omega) (Nat.le_of_ble_eq_true rfl) (Nat.le_of_ble_eq_true rfl) (qk_e ?_)
    refine q_i2f dX8_share_24 ?_
    refine q_fdiv dX8_share_25 (by have := n32_of hn1; rw [← hn2] at this; exact this) ?_
    exact q_freturn dX8_share_26 ⟨_, rfl, Or.inr ⟨hg, rfl, hMS⟩⟩
  ·
    have h : gG M k ≠ 0 := zbn h5
    refine q_fconst0 dX8_share_8 ?_
    exact q_freturn dX8_share_9 ⟨_, rfl, Or.inl ⟨h, MS_rf _⟩⟩
end KFL


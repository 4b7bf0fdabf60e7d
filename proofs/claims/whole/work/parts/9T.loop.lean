/-! The law's loop. -/
section LT
variable {X : qX} {cc : ByteArray} {nL : Nat} {ret : Option FieldType} {R : Room} {hh : lH} {cy : ClassId × ClassId} {A : Nat → Prop} {Q : State → Prop} {kc ks pc : Nat} {L : List (Option Value)} {st rest : List Value} {w : lM}
theorem l_tableIn {dflt lo hi : Int} {offs : Array Int} {len : Nat} {z off : Int} {tgt : Nat} (dd : decode cc pc = .ok (.tableswitch dflt lo hi offs, len)) (hz : zR z) (h3 : lo ≤ z) (h4 : z ≤ hi) (ho : offs[(z - lo).toNat]? = some off) (ht : (pc : Int) + off = (tgt : Int)) (k : LW X (cc, nL, ret, R, hh, cy, A, Q) kc ks (tgt) L (st) w) : LW X (cc, nL, ret, R, hh, cy, A, Q) kc ks (pc) L (.int (zI z) :: st) w := by
  obtain ⟨p, l, e, s, m, args, below, meth, c, dC, dI, cyI, cyZ, ad⟩ := X
  obtain ⟨cyL, cyD⟩ := cy
  intro ok H locs ls hP hS hl
  obtain ⟨hx, hb, hml, hown, hts, hret, hlocks, hex, hK, hinj, henv, hst, hne, hA1, hA2⟩ := id ok
  exact lv_tableIn hx hb dd (by rw [zI_toInt hz]; omega) (by rw [zI_toInt hz]; omega) (by rw [zI_toInt hz]; exact ho) ht (k ok H locs ls hP hS hl)
theorem l_tableOut {dflt lo hi : Int} {offs : Array Int} {len : Nat} {z : Int} {tgt : Nat} (dd : decode cc pc = .ok (.tableswitch dflt lo hi offs, len)) (hz : zR z) (h3 : z < lo ∨ hi < z) (ht : (pc : Int) + dflt = (tgt : Int)) (k : LW X (cc, nL, ret, R, hh, cy, A, Q) kc ks (tgt) L (st) w) : LW X (cc, nL, ret, R, hh, cy, A, Q) kc ks (pc) L (.int (zI z) :: st) w := by
  obtain ⟨p, l, e, s, m, args, below, meth, c, dC, dI, cyI, cyZ, ad⟩ := X
  obtain ⟨cyL, cyD⟩ := cy
  intro ok H locs ls hP hS hl
  obtain ⟨hx, hb, hml, hown, hts, hret, hlocks, hex, hK, hinj, henv, hst, hne, hA1, hA2⟩ := id ok
  exact lv_tableOut hx hb dd (by rw [zI_toInt hz]; exact h3) ht (k ok H locs ls hP hS hl)
end LT
section LOOP
variable {X : qX} {rt : Option FieldType} {cy : ClassId × ClassId} {A : Nat → Prop} {Q : State → Prop} {kc ks : Nat} {Ls : Nat} {xs : Nat → Int32} {i : Int} {w : lM}
theorem zand_63 (w : Int) : 0 ≤ zand w 63 ∧ zand w 63 < 64 := by
  unfold zand
  have h : (zI w &&& zI 63).toInt = ((zI w).toBitVec &&& (zI 63).toBitVec).toInt := rfl
  have h2 : ((zI w).toBitVec &&& (zI 63).toBitVec).toNat ≤ 63 := by
    rw [BitVec.toNat_and]
    exact Nat.le_trans Nat.and_le_right (by decide)
  rw [h, BitVec.toInt_eq_toNat_of_lt (by omega)]
  omega
theorem law_sw (hs : lScr X A Ls xs) (h2 : Ls ≤ 3072) (i0 : 0 ≤ i) (i6 : i + 6 ≤ Ls) (hI : Inv w.1) (hkc : kc + 6 ≤ 601024) (hks : ks + 36 ≤ 7293033) (loop : ∀ w' : lM, Inv w'.1 → LW X (cL_law, 9, rt, room_1, [], cy, A, Q) (kc + 6) (ks + 36) 3627 [some (.ref 54), some (.ref 0), some (.ref 37), some (.ref 52), some (.ref 53), some (.int (zI i)), none, none, none] [] w') : ∀ n : Nat, n < 52 → LW X (cL_law, 9, rt, room_1, [], cy, A, Q) kc ks 45 [some (.ref 54), some (.ref 0), some (.ref 37), some (.ref 52), some (.ref 53), some (.int (zI i)), none, none, none] [.int (zI (n : Int))] w := fun n hn => match n, hn with
  | 0, _ => l_tableIn (z := 0) (off := 223) (tgt := 268) dL_law_45 (by unfold zR; decide) (by decide) (by decide) rfl rfl (lc_0 hs h2 i0 i6 hI hkc hks loop)
  | 1, _ => l_tableIn (z := 1) (off := 296) (tgt := 341) dL_law_45 (by unfold zR; decide) (by decide) (by decide) rfl rfl (lc_1 hs h2 i0 i6 hI hkc hks loop)
  | 2, _ => l_tableIn (z := 2) (off := 352) (tgt := 397) dL_law_45 (by unfold zR; decide) (by decide) (by decide) rfl rfl (lc_2 hs h2 i0 i6 hI hkc hks loop)
  | 3, _ => l_tableIn (z := 3) (off := 365) (tgt := 410) dL_law_45 (by unfold zR; decide) (by decide) (by decide) rfl rfl (lc_3 hs h2 i0 i6 hI hkc hks loop)
  | 4, _ => l_tableIn (z := 4) (off := 378) (tgt := 423) dL_law_45 (by unfold zR; decide) (by decide) (by decide) rfl rfl (lc_4 hs h2 i0 i6 hI hkc hks loop)
  | 5, _ => l_tableIn (z := 5) (off := 391) (tgt := 436) dL_law_45 (by unfold zR; decide) (by decide) (by decide) rfl rfl (lc_5 hs h2 i0 i6 hI hkc hks loop)
  | 6, _ => l_tableIn (z := 6) (off := 447) (tgt := 492) dL_law_45 (by unfold zR; decide) (by decide) (by decide) rfl rfl (lc_6 hs h2 i0 i6 hI hkc hks loop)
  | 7, _ => l_tableIn (z := 7) (off := 503) (tgt := 548) dL_law_45 (by unfold zR; decide) (by decide) (by decide) rfl rfl (lc_7 hs h2 i0 i6 hI hkc hks loop)
  | 8, _ => l_tableIn (z := 8) (off := 559) (tgt := 604) dL_law_45 (by unfold zR; decide) (by decide) (by decide) rfl rfl (lc_8 hs h2 i0 i6 hI hkc hks loop)
  | 9, _ => l_tableIn (z := 9) (off := 627) (tgt := 672) dL_law_45 (by unfold zR; decide) (by decide) (by decide) rfl rfl (lc_9 hs h2 i0 i6 hI hkc hks loop)
  | 10, _ => l_tableIn (z := 10) (off := 707) (tgt := 752) dL_law_45 (by unfold zR; decide) (by decide) (by decide) rfl rfl (lc_10 hs h2 i0 i6 hI hkc hks loop)
  | 11, _ => l_tableIn (z := 11) (off := 787) (tgt := 832) dL_law_45 (by unfold zR; decide) (by decide) (by decide) rfl rfl (lc_11 hs h2 i0 i6 hI hkc hks loop)
  | 12, _ => l_tableIn (z := 12) (off := 855) (tgt := 900) dL_law_45 (by unfold zR; decide) (by decide) (by decide) rfl rfl (lc_12 hs h2 i0 i6 hI hkc hks loop)
  | 13, _ => l_tableIn (z := 13) (off := 923) (tgt := 968) dL_law_45 (by unfold zR; decide) (by decide) (by decide) rfl rfl (lc_13 hs h2 i0 i6 hI hkc hks loop)
  | 14, _ => l_tableIn (z := 14) (off := 991) (tgt := 1036) dL_law_45 (by unfold zR; decide) (by decide) (by decide) rfl rfl (lc_14 hs h2 i0 i6 hI hkc hks loop)
  | 15, _ => l_tableIn (z := 15) (off := 1047) (tgt := 1092) dL_law_45 (by unfold zR; decide) (by decide) (by decide) rfl rfl (lc_15 hs h2 i0 i6 hI hkc hks loop)
  | 16, _ => l_tableIn (z := 16) (off := 1115) (tgt := 1160) dL_law_45 (by unfold zR; decide) (by decide) (by decide) rfl rfl (lc_16 hs h2 i0 i6 hI hkc hks loop)
  | 17, _ => l_tableIn (z := 17) (off := 1183) (tgt := 1228) dL_law_45 (by unfold zR; decide) (by decide) (by decide) rfl rfl (lc_17 hs h2 i0 i6 hI hkc hks loop)
  | 18, _ => l_tableIn (z := 18) (off := 1275) (tgt := 1320) dL_law_45 (by unfold zR; decide) (by decide) (by decide) rfl rfl (lc_18 hs h2 i0 i6 hI hkc hks loop)
  | 19, _ => l_tableIn (z := 19) (off := 1343) (tgt := 1388) dL_law_45 (by unfold zR; decide) (by decide) (by decide) rfl rfl (lc_19 hs h2 i0 i6 hI hkc hks loop)
  | 20, _ => l_tableIn (z := 20) (off := 1411) (tgt := 1456) dL_law_45 (by unfold zR; decide) (by decide) (by decide) rfl rfl (lc_20 hs h2 i0 i6 hI hkc hks loop)
  | 21, _ => l_tableIn (z := 21) (off := 1467) (tgt := 1512) dL_law_45 (by unfold zR; decide) (by decide) (by decide) rfl rfl (lc_21 hs h2 i0 i6 hI hkc hks loop)
  | 22, _ => l_tableIn (z := 22) (off := 1535) (tgt := 1580) dL_law_45 (by unfold zR; decide) (by decide) (by decide) rfl rfl (lc_22 hs h2 i0 i6 hI hkc hks loop)
  | 23, _ => l_tableIn (z := 23) (off := 1579) (tgt := 1624) dL_law_45 (by unfold zR; decide) (by decide) (by decide) rfl rfl (lc_23 hs h2 i0 i6 hI hkc hks loop)
  | 24, _ => l_tableIn (z := 24) (off := 1656) (tgt := 1701) dL_law_45 (by unfold zR; decide) (by decide) (by decide) rfl rfl (lc_24 hs h2 i0 i6 hI hkc hks loop)
  | 25, _ => l_tableIn (z := 25) (off := 1734) (tgt := 1779) dL_law_45 (by unfold zR; decide) (by decide) (by decide) rfl rfl (lc_25 hs h2 i0 i6 hI hkc hks loop)
  | 26, _ => l_tableIn (z := 26) (off := 1802) (tgt := 1847) dL_law_45 (by unfold zR; decide) (by decide) (by decide) rfl rfl (lc_26 hs h2 i0 i6 hI hkc hks loop)
  | 27, _ => l_tableIn (z := 27) (off := 1870) (tgt := 1915) dL_law_45 (by unfold zR; decide) (by decide) (by decide) rfl rfl (lc_27 hs h2 i0 i6 hI hkc hks loop)
  | 28, _ => l_tableIn (z := 28) (off := 1938) (tgt := 1983) dL_law_45 (by unfold zR; decide) (by decide) (by decide) rfl rfl (lc_28 hs h2 i0 i6 hI hkc hks loop)
  | 29, _ => l_tableIn (z := 29) (off := 2013) (tgt := 2058) dL_law_45 (by unfold zR; decide) (by decide) (by decide) rfl rfl (lc_29 hs h2 i0 i6 hI hkc hks loop)
  | 30, _ => l_tableIn (z := 30) (off := 2093) (tgt := 2138) dL_law_45 (by unfold zR; decide) (by decide) (by decide) rfl rfl (lc_30 hs h2 i0 i6 hI hkc hks loop)
  | 31, _ => l_tableIn (z := 31) (off := 2173) (tgt := 2218) dL_law_45 (by unfold zR; decide) (by decide) (by decide) rfl rfl (lc_31 hs h2 i0 i6 hI hkc hks loop)
  | 32, _ => l_tableIn (z := 32) (off := 2229) (tgt := 2274) dL_law_45 (by unfold zR; decide) (by decide) (by decide) rfl rfl (lc_32 hs h2 i0 i6 hI hkc hks loop)
  | 33, _ => l_tableIn (z := 33) (off := 2297) (tgt := 2342) dL_law_45 (by unfold zR; decide) (by decide) (by decide) rfl rfl (lc_33 hs h2 i0 i6 hI hkc hks loop)
  | 34, _ => l_tableIn (z := 34) (off := 2377) (tgt := 2422) dL_law_45 (by unfold zR; decide) (by decide) (by decide) rfl rfl (lc_34 hs h2 i0 i6 hI hkc hks loop)
  | 35, _ => l_tableIn (z := 35) (off := 2469) (tgt := 2514) dL_law_45 (by unfold zR; decide) (by decide) (by decide) rfl rfl (lc_35 hs h2 i0 i6 hI hkc hks loop)
  | 36, _ => l_tableIn (z := 36) (off := 2537) (tgt := 2582) dL_law_45 (by unfold zR; decide) (by decide) (by decide) rfl rfl (lc_36 hs h2 i0 i6 hI hkc hks loop)
  | 37, _ => l_tableIn (z := 37) (off := 2617) (tgt := 2662) dL_law_45 (by unfold zR; decide) (by decide) (by decide) rfl rfl (lc_37 hs h2 i0 i6 hI hkc hks loop)
  | 38, _ => l_tableIn (z := 38) (off := 2673) (tgt := 2718) dL_law_45 (by unfold zR; decide) (by decide) (by decide) rfl rfl (lc_38 hs h2 i0 i6 hI hkc hks loop)
  | 39, _ => l_tableIn (z := 39) (off := 2753) (tgt := 2798) dL_law_45 (by unfold zR; decide) (by decide) (by decide) rfl rfl (lc_39 hs h2 i0 i6 hI hkc hks loop)
  | 40, _ => l_tableIn (z := 40) (off := 2809) (tgt := 2854) dL_law_45 (by unfold zR; decide) (by decide) (by decide) rfl rfl (lc_40 hs h2 i0 i6 hI hkc hks loop)
  | 41, _ => l_tableIn (z := 41) (off := 2865) (tgt := 2910) dL_law_45 (by unfold zR; decide) (by decide) (by decide) rfl rfl (lc_41 hs h2 i0 i6 hI hkc hks loop)
  | 42, _ => l_tableIn (z := 42) (off := 2957) (tgt := 3002) dL_law_45 (by unfold zR; decide) (by decide) (by decide) rfl rfl (lc_42 hs h2 i0 i6 hI hkc hks loop)
  | 43, _ => l_tableIn (z := 43) (off := 3037) (tgt := 3082) dL_law_45 (by unfold zR; decide) (by decide) (by decide) rfl rfl (lc_43 hs h2 i0 i6 hI hkc hks loop)
  | 44, _ => l_tableIn (z := 44) (off := 3129) (tgt := 3174) dL_law_45 (by unfold zR; decide) (by decide) (by decide) rfl rfl (lc_44 hs h2 i0 i6 hI hkc hks loop)
  | 45, _ => l_tableIn (z := 45) (off := 3221) (tgt := 3266) dL_law_45 (by unfold zR; decide) (by decide) (by decide) rfl rfl (lc_45 hs h2 i0 i6 hI hkc hks loop)
  | 46, _ => l_tableIn (z := 46) (off := 3289) (tgt := 3334) dL_law_45 (by unfold zR; decide) (by decide) (by decide) rfl rfl (lc_46 hs h2 i0 i6 hI hkc hks loop)
  | 47, _ => l_tableIn (z := 47) (off := 3345) (tgt := 3390) dL_law_45 (by unfold zR; decide) (by decide) (by decide) rfl rfl (lc_47 hs h2 i0 i6 hI hkc hks loop)
  | 48, _ => l_tableIn (z := 48) (off := 3413) (tgt := 3458) dL_law_45 (by unfold zR; decide) (by decide) (by decide) rfl rfl (lc_48 hs h2 i0 i6 hI hkc hks loop)
  | 49, _ => l_tableIn (z := 49) (off := 3457) (tgt := 3502) dL_law_45 (by unfold zR; decide) (by decide) (by decide) rfl rfl (lc_49 hs h2 i0 i6 hI hkc hks loop)
  | 50, _ => l_tableIn (z := 50) (off := 3470) (tgt := 3515) dL_law_45 (by unfold zR; decide) (by decide) (by decide) rfl rfl (lc_50 hs h2 i0 i6 hI hkc hks loop)
  | 51, _ => l_tableIn (z := 51) (off := 3526) (tgt := 3571) dL_law_45 (by unfold zR; decide) (by decide) (by decide) rfl rfl (lc_51 hs h2 i0 i6 hI hkc hks loop)
  | n + 52, h => absurd h (by omega)
theorem law_loop (hs : lScr X A Ls xs) (h2 : Ls ≤ 3072) (fin : ∀ (i : Int) (w' : lM), LW X (cL_law, 9, rt, room_1, [], cy, A, Q) 601024 7293033 3633 [some (.ref 54), some (.ref 0), some (.ref 37), some (.ref 52), some (.ref 53), some (.int (zI i)), none, none, none] [] w') : ∀ (n : Nat) (i : Int) (w : lM) (kc ks : Nat), 0 ≤ i → i ≤ 3078 → (Ls : Int) - i ≤ 6 * n → Inv w.1 → kc + 6 * n ≤ 601024 → ks + 36 * n ≤ 7293033 → LW X (cL_law, 9, rt, room_1, [], cy, A, Q) kc ks 28 [some (.ref 54), some (.ref 0), some (.ref 37), some (.ref 52), some (.ref 53), some (.int (zI i)), none, none, none] [] w := by
  intro n
  induction n with
  | zero =>
    intro i w kc ks i0 i9 hn hI hkc hks
    refine l_iload dL_law_28 rfl ?_
    refine l_aload_n dL_law_30 rfl ?_
    refine l_slen hs h2 dL_law_31 ?_
    refine l_bipush (n := 6) dL_law_32 (by decide) ?_
    refine l_isub dL_law_34 ?_
    refine l_icmp_gt (tgt := 3633) dL_law_35 rfl (by unfold zR; omega) (by unfold zR; omega) (fun _ => l_widen (by omega) (by omega) (fin i w)) (fun h => absurd h (by omega))
  | succ n ih =>
    intro i w kc ks i0 i9 hn hI hkc hks
    refine l_iload dL_law_28 rfl ?_
    refine l_aload_n dL_law_30 rfl ?_
    refine l_slen hs h2 dL_law_31 ?_
    refine l_bipush (n := 6) dL_law_32 (by decide) ?_
    refine l_isub dL_law_34 ?_
    refine l_icmp_gt (tgt := 3633) dL_law_35 rfl (by unfold zR; omega) (by unfold zR; omega) (fun _ => l_widen (by omega) (by omega) (fin i w)) (fun h => ?_)
    have loop : ∀ w' : lM, Inv w'.1 → LW X (cL_law, 9, rt, room_1, [], cy, A, Q) (kc + 6) (ks + 36) 3627 [some (.ref 54), some (.ref 0), some (.ref 37), some (.ref 52), some (.ref 53), some (.int (zI i)), none, none, none] [] w' := fun w' hI' => by
      refine l_iinc (z := i) (n := 6) dL_law_3627 rfl (by decide) rfl ?_
      refine l_goto (tgt := 28) dL_law_3630 rfl ?_
      exact ih (i + 6) w' (kc + 6) (ks + 36) (by omega) (by omega) (by omega) hI' (by omega) (by omega)
    refine l_aload_n dL_law_38 rfl ?_
    refine l_iload dL_law_39 rfl ?_
    refine l_sld hs i0 (by omega) h2 dL_law_41 ?_
    refine l_bipush (n := 63) dL_law_42 (by decide) ?_
    refine l_iand dL_law_44 ?_
    have hz := zand_63 (xs i.toNat).toInt
    by_cases g : zand (xs i.toNat).toInt 63 < 52
    · have e : zand (xs i.toNat).toInt 63 = ((zand (xs i.toNat).toInt 63).toNat : Int) := by omega
      rw [e]
      exact law_sw hs h2 i0 (by omega) hI (by omega) (by omega) loop _ (by omega)
    · exact l_tableOut (tgt := 3627) dL_law_45 (by unfold zR; omega) (Or.inr (by omega)) rfl (l_widen (by omega) (by omega) (loop w hI))
end LOOP


/-! The law's loop: rows, the wrappers called. -/
def lScr : qX → (Nat → Prop) → Nat → (Nat → Int32) → Prop := fun ⟨_, _, _, s, _, _, _, _, _, _, _, _, _, ad⟩ A Ls xs => va_X (ad 54) Ls xs s s.heap ∧ ad 54 < s.heap.size ∧ ¬ A (ad 54)
section LM
variable {X : qX} {cc : ByteArray} {nL : Nat} {ret : Option FieldType} {R : Room} {hh : lH} {cy : ClassId × ClassId} {A : Nat → Prop} {Q : State → Prop} {kc ks pc : Nat} {L : List (Option Value)} {st rest : List Value} {w : lM}
theorem l_istore {i : Nat} {x : Int32} (dd : decode cc pc = .ok (.istore i, 2)) (hn : i < nL) (ho : qOk1 L i = true) (k : LW X (cc, nL, ret, R, hh, cy, A, Q) kc ks (pc + 2) (L.set i (some (.int x))) (st) w) : LW X (cc, nL, ret, R, hh, cy, A, Q) kc ks (pc) L (.int x :: st) w := by
  obtain ⟨p, l, e, s, m, args, below, meth, c, dC, dI, cyI, cyZ, ad⟩ := X
  obtain ⟨cyL, cyD⟩ := cy
  intro ok H locs ls hP hS hl
  obtain ⟨hx, hb, hml, hown, hts, hret, hlocks, hex, hK, hinj, henv, hst, hne, hA1, hA2⟩ := id ok
  exact lv_istore hx hb dd hl hn rfl (fun ls' hl' => k ok H locs ls' hP hS (qLs_set ho hl'))
theorem l_weak {L' : List (Option Value)} (hw : wkB L' L) (k : LW X (cc, nL, ret, R, hh, cy, A, Q) kc ks (pc) L' (st) w) : LW X (cc, nL, ret, R, hh, cy, A, Q) kc ks (pc) L (st) w := by
  obtain ⟨p, l, e, s, m, args, below, meth, c, dC, dI, cyI, cyZ, ad⟩ := X
  obtain ⟨cyL, cyD⟩ := cy
  intro ok H locs ls hP hS hl
  obtain ⟨hx, hb, hml, hown, hts, hret, hlocks, hex, hK, hinj, henv, hst, hne, hA1, hA2⟩ := id ok
  exact k ok H locs ls hP hS (qLs_weak hl (wkB_of hw))
theorem l_widen {k n : Nat} (h1 : kc ≤ k) (h2 : ks ≤ n) (kk : LW X (cc, nL, ret, R, hh, cy, A, Q) k n (pc) L (st) w) : LW X (cc, nL, ret, R, hh, cy, A, Q) kc ks (pc) L (st) w := by
  obtain ⟨p, l, e, s, m, args, below, meth, c, dC, dI, cyI, cyZ, ad⟩ := X
  obtain ⟨cyL, cyD⟩ := cy
  intro ok H locs ls hP hS hl
  obtain ⟨hx, hb, hml, hown, hts, hret, hlocks, hex, hK, hinj, henv, hst, hne, hA1, hA2⟩ := id ok
  exact W.widen h1 h2 (kk ok H locs ls hP hS hl)
theorem l_icmp_eqT {x y : Int32} {off : Int} {tgt : Nat} (dd : decode cc pc = .ok (.if_icmp .eq off, 3)) (ht : (pc : Int) + off = (tgt : Int)) (h : x = y) (k : LW X (cc, nL, ret, R, hh, cy, A, Q) kc ks (tgt) L (st) w) : LW X (cc, nL, ret, R, hh, cy, A, Q) kc ks (pc) L (.int y :: .int x :: st) w := by
  obtain ⟨p, l, e, s, m, args, below, meth, c, dC, dI, cyI, cyZ, ad⟩ := X
  obtain ⟨cyL, cyD⟩ := cy
  intro ok H locs ls hP hS hl
  obtain ⟨hx, hb, hml, hown, hts, hret, hlocks, hex, hK, hinj, henv, hst, hne, hA1, hA2⟩ := id ok
  exact lv_icmp_eq hx hb dd ht (fun _ => k ok H locs ls hP hS hl) (fun g => absurd h g)
theorem l_iadd {a b : Int} (dd : decode cc pc = .ok (.iadd, 1)) (k : LW X (cc, nL, ret, R, hh, cy, A, Q) kc ks (pc + 1) L (.int (zI (a + b)) :: st) w) : LW X (cc, nL, ret, R, hh, cy, A, Q) kc ks (pc) L (.int (zI b) :: .int (zI a) :: st) w := by
  obtain ⟨p, l, e, s, m, args, below, meth, c, dC, dI, cyI, cyZ, ad⟩ := X
  obtain ⟨cyL, cyD⟩ := cy
  intro ok H locs ls hP hS hl
  obtain ⟨hx, hb, hml, hown, hts, hret, hlocks, hex, hK, hinj, henv, hst, hne, hA1, hA2⟩ := id ok
  refine lv_iadd hx hb dd ?_
  rw [zI_add]
  exact k ok H locs ls hP hS hl
theorem l_isub {a b : Int} (dd : decode cc pc = .ok (.isub, 1)) (k : LW X (cc, nL, ret, R, hh, cy, A, Q) kc ks (pc + 1) L (.int (zI (a - b)) :: st) w) : LW X (cc, nL, ret, R, hh, cy, A, Q) kc ks (pc) L (.int (zI b) :: .int (zI a) :: st) w := by
  obtain ⟨p, l, e, s, m, args, below, meth, c, dC, dI, cyI, cyZ, ad⟩ := X
  obtain ⟨cyL, cyD⟩ := cy
  intro ok H locs ls hP hS hl
  obtain ⟨hx, hb, hml, hown, hts, hret, hlocks, hex, hK, hinj, henv, hst, hne, hA1, hA2⟩ := id ok
  refine lv_isub hx hb dd ?_
  rw [zI_sub]
  exact k ok H locs ls hP hS hl
theorem l_bipush {n : Int} (dd : decode cc pc = .ok (.bipush n, 2)) (hv : (Int8.ofInt n).toInt32 = zI n) (k : LW X (cc, nL, ret, R, hh, cy, A, Q) kc ks (pc + 2) L (.int (zI n) :: st) w) : LW X (cc, nL, ret, R, hh, cy, A, Q) kc ks (pc) L (st) w := by
  obtain ⟨p, l, e, s, m, args, below, meth, c, dC, dI, cyI, cyZ, ad⟩ := X
  obtain ⟨cyL, cyD⟩ := cy
  intro ok H locs ls hP hS hl
  obtain ⟨hx, hb, hml, hown, hts, hret, hlocks, hex, hK, hinj, henv, hst, hne, hA1, hA2⟩ := id ok
  exact lv_bipush hx hb dd hv (k ok H locs ls hP hS hl)
theorem l_iand {a b : Int} (dd : decode cc pc = .ok (.iand, 1)) (k : LW X (cc, nL, ret, R, hh, cy, A, Q) kc ks (pc + 1) L (.int (zI (zand a b)) :: st) w) : LW X (cc, nL, ret, R, hh, cy, A, Q) kc ks (pc) L (.int (zI b) :: .int (zI a) :: st) w := by
  obtain ⟨p, l, e, s, m, args, below, meth, c, dC, dI, cyI, cyZ, ad⟩ := X
  obtain ⟨cyL, cyD⟩ := cy
  intro ok H locs ls hP hS hl
  obtain ⟨hx, hb, hml, hown, hts, hret, hlocks, hex, hK, hinj, henv, hst, hne, hA1, hA2⟩ := id ok
  refine lv_iand hx hb dd ?_
  have e : zI a &&& zI b = zI (zand a b) := by unfold zand; rw [zI_of]
  rw [e]
  exact k ok H locs ls hP hS hl
theorem l_icmp_gt {a b off : Int} {tgt : Nat} (dd : decode cc pc = .ok (.if_icmp .gt off, 3)) (ht : (pc : Int) + off = (tgt : Int)) (ha : zR a) (hb' : zR b) (kt : b < a → LW X (cc, nL, ret, R, hh, cy, A, Q) kc ks (tgt) L (st) w) (kf : a ≤ b → LW X (cc, nL, ret, R, hh, cy, A, Q) kc ks (pc + 3) L (st) w) : LW X (cc, nL, ret, R, hh, cy, A, Q) kc ks (pc) L (.int (zI b) :: .int (zI a) :: st) w := by
  obtain ⟨p, l, e, s, m, args, below, meth, c, dC, dI, cyI, cyZ, ad⟩ := X
  obtain ⟨cyL, cyD⟩ := cy
  intro ok H locs ls hP hS hl
  obtain ⟨hx, hb, hml, hown, hts, hret, hlocks, hex, hK, hinj, henv, hst, hne, hA1, hA2⟩ := id ok
  exact lv_icmp_gt hx hb dd ht (fun h => kt ((zI_lt hb' ha).mp h) ok H locs ls hP hS hl) (fun h => kf (Int.not_lt.mp (fun q => h ((zI_lt hb' ha).mpr q))) ok H locs ls hP hS hl)
theorem l_iinc {i : Nat} {n z : Int} (dd : decode cc pc = .ok (.iinc i n, 3)) (hv : L[i]? = some (some (.int (zI z)))) (hn : i < nL) (ho : qOk1 L i = true) (k : LW X (cc, nL, ret, R, hh, cy, A, Q) kc ks (pc + 3) (L.set i (some (.int (zI (z + n))))) (st) w) : LW X (cc, nL, ret, R, hh, cy, A, Q) kc ks (pc) L (st) w := by
  obtain ⟨p, l, e, s, m, args, below, meth, c, dC, dI, cyI, cyZ, ad⟩ := X
  obtain ⟨cyL, cyD⟩ := cy
  intro ok H locs ls hP hS hl
  obtain ⟨hx, hb, hml, hown, hts, hret, hlocks, hex, hK, hinj, henv, hst, hne, hA1, hA2⟩ := id ok
  obtain ⟨kk, hk⟩ := List.getElem?_of_mem (qAs_mem.mpr ⟨i, _, hv, rfl⟩ : (0 + i, qTr ad (.int (zI z))) ∈ qAs ad 0 L)
  rw [Nat.zero_add] at hk
  exact lv_iinc hx hb dd hl hk (zI_add z n) hn rfl (fun ls' hl' => k ok H locs ls' hP hS (qLs_set ho hl'))
theorem l_laload (dd : decode cc pc = .ok (.laload, 1)) (k : LW X (cc, nL, ret, R, hh, cy, A, Q) kc ks (pc + 1) L (.long (w.2.1 0) :: st) w) : LW X (cc, nL, ret, R, hh, cy, A, Q) kc ks (pc) L (.int (zI 0) :: .ref 52 :: st) w := by
  obtain ⟨p, l, e, s, m, args, below, meth, c, dC, dI, cyI, cyZ, ad⟩ := X
  obtain ⟨cyL, cyD⟩ := cy
  intro ok H locs ls hP hS hl
  obtain ⟨hx, hb, hml, hown, hts, hret, hlocks, hex, hK, hinj, henv, hst, hne, hA1, hA2⟩ := id ok
  refine va_lald hx hb hK hP 52 2 lWd_o rfl (zI_in (by decide) (by decide) (by decide)) dd ?_
  rw [show (zI 0).toNatClampNeg = 0 from zI_clamp (z := 0) (by decide) (by decide)]
  exact k ok H locs ls hP hS hl
theorem l_daload (dd : decode cc pc = .ok (.daload, 1)) (k : LW X (cc, nL, ret, R, hh, cy, A, Q) kc ks (pc + 1) L (.double (w.2.2 0) :: st) w) : LW X (cc, nL, ret, R, hh, cy, A, Q) kc ks (pc) L (.int (zI 0) :: .ref 53 :: st) w := by
  obtain ⟨p, l, e, s, m, args, below, meth, c, dC, dI, cyI, cyZ, ad⟩ := X
  obtain ⟨cyL, cyD⟩ := cy
  intro ok H locs ls hP hS hl
  obtain ⟨hx, hb, hml, hown, hts, hret, hlocks, hex, hK, hinj, henv, hst, hne, hA1, hA2⟩ := id ok
  refine va_dald hx hb hK hP 53 3 lWd_d rfl (zI_in (by decide) (by decide) (by decide)) dd ?_
  rw [show (zI 0).toNatClampNeg = 0 from zI_clamp (z := 0) (by decide) (by decide)]
  exact k ok H locs ls hP hS hl
theorem l_lcmpE {x y : Int64} (dd : decode cc pc = .ok (.lcmp, 1)) (h : x = y) (k : LW X (cc, nL, ret, R, hh, cy, A, Q) kc ks (pc + 1) L (.int (zI 0) :: st) w) : LW X (cc, nL, ret, R, hh, cy, A, Q) kc ks (pc) L (.long y :: .long x :: st) w := by
  obtain ⟨p, l, e, s, m, args, below, meth, c, dC, dI, cyI, cyZ, ad⟩ := X
  obtain ⟨cyL, cyD⟩ := cy
  intro ok H locs ls hP hS hl
  obtain ⟨hx, hb, hml, hown, hts, hret, hlocks, hex, hK, hinj, henv, hst, hne, hA1, hA2⟩ := id ok
  refine W.lcmp hx hb dd ?_
  have e : lg_cmp x y = zI 0 := by
    subst h
    unfold lg_cmp
    rw [if_neg (by simp), if_pos rfl]
    rfl
  rw [e]
  exact k ok H locs ls hP hS hl
theorem l_sld {Ls : Nat} {xs : Nat → Int32} {i : Int} (hs : lScr X A Ls xs) (h0 : 0 ≤ i) (h1 : i < Ls) (h2 : Ls ≤ 3072) (dd : decode cc pc = .ok (.iaload, 1)) (k : LW X (cc, nL, ret, R, hh, cy, A, Q) kc ks (pc + 1) L (.int (zI (xs i.toNat).toInt) :: st) w) : LW X (cc, nL, ret, R, hh, cy, A, Q) kc ks (pc) L (.int (zI i) :: .ref 54 :: st) w := by
  obtain ⟨p, l, e, s, m, args, below, meth, c, dC, dI, cyI, cyZ, ad⟩ := X
  obtain ⟨cyL, cyD⟩ := cy
  intro ok H locs ls hP hS hl
  obtain ⟨hx, hb, hml, hown, hts, hret, hlocks, hex, hK, hinj, henv, hst, hne, hA1, hA2⟩ := id ok
  refine va_sld hx hb hs.1 hs.2.1 hs.2.2 hS (zI_in h0 h1 (by omega)) dd ?_
  rw [zI_clamp h0 (by omega), ← zI_of (xs i.toNat)]
  have e : (zI (zI (xs i.toNat).toInt).toInt) = zI (xs i.toNat).toInt := zI_of _
  have k2 := k ok H locs ls hP hS hl
  exact k2
theorem l_slen {Ls : Nat} {xs : Nat → Int32} (hs : lScr X A Ls xs) (h2 : Ls ≤ 3072) (dd : decode cc pc = .ok (.arraylength, 1)) (k : LW X (cc, nL, ret, R, hh, cy, A, Q) kc ks (pc + 1) L (.int (zI Ls) :: st) w) : LW X (cc, nL, ret, R, hh, cy, A, Q) kc ks (pc) L (.ref 54 :: st) w := by
  obtain ⟨p, l, e, s, m, args, below, meth, c, dC, dI, cyI, cyZ, ad⟩ := X
  obtain ⟨cyL, cyD⟩ := cy
  intro ok H locs ls hP hS hl
  obtain ⟨hx, hb, hml, hown, hts, hret, hlocks, hex, hK, hinj, henv, hst, hne, hA1, hA2⟩ := id ok
  exact va_slen hx hb hs.1 hs.2.1 hs.2.2 hS dd (k ok H locs ls hP hS hl)
theorem l_arg {Ls : Nat} {xs : Nat → Int32} {i j : Int} (hs : lScr X A Ls xs) (h0 : 0 ≤ i + j) (h1 : i + j < Ls) (h2 : Ls ≤ 3072) (d0 : decode cc pc = .ok (.aload_n 0, 1)) (d1 : decode cc (pc + 1) = .ok (.iload 5, 2)) (d2 : decode cc (pc + 3) = .ok (.iconst j, 1)) (d3 : decode cc (pc + 4) = .ok (.iadd, 1)) (d4 : decode cc (pc + 5) = .ok (.iaload, 1)) (hv0 : L[0]? = some (some (.ref 54))) (hv5 : L[5]? = some (some (.int (zI i)))) (k : LW X (cc, nL, ret, R, hh, cy, A, Q) kc ks (pc + 6) L (.int (zI (xs (i + j).toNat).toInt) :: st) w) : LW X (cc, nL, ret, R, hh, cy, A, Q) kc ks (pc) L (st) w := by
  refine l_aload_n d0 hv0 ?_
  refine l_iload d1 hv5 ?_
  refine l_iconst d2 ?_
  refine l_iadd d3 ?_
  exact l_sld hs h0 h1 h2 d4 k
set_option maxHeartbeats 2000000 in
theorem l_callW {idx n : Nat} {y : lY} {u' d' : Nat} {av : List Value} {P' : Option Value → lM → Prop} (dd : decode cc pc = .ok (.invokestatic idx, 3)) (hlk : Cond.methodLink (qNm 9) idx y.1 ∈ qT) (hm : l_Md y n) (hC : lCt y u' d' av w P') (hn : av.length = n) (hfr : d' + 7 ≤ R.frames) (hlo : 8 + (y.2.2.1 + 11) + (100 + 40 * d') ≤ R.locals) (hrc : kc + u' ≤ R.cells) (hrs : ks + 6 * u' ≤ R.slots) (hr : (rest.map fun v => v.category).sum ≤ 8)
    (hk : ∀ v w', P' v w' → LW X (cc, nL, ret, R, hh, cy, A, Q) (kc + u') (ks + 6 * u') (pc + 3) L (v.toList ++ rest) w') : LW X (cc, nL, ret, R, hh, cy, A, Q) kc ks pc L (av.reverse ++ rest) w := by
  obtain ⟨p, l, e, s, m, args, below, meth, c, dC, dI, cyI, cyZ, ad⟩ := X
  obtain ⟨cyL, cyD⟩ := cy
  intro ok H locs ls hP hS hl
  obtain ⟨hx, hb, hml, hown, hts, hret, hlocks, hex, hK, hinj, henv, hst, hne, hA1, hA2⟩ := id ok
  have hC2 := hC l hst dC dI cyI cyZ cyL cyD ad H.size
  have hAq : ∀ q, lA ad H.size q → A q := fun q hq => hq.elim (fun ⟨k, hk, e⟩ => e ▸ hA1 k hk) (fun h => hA2 q (Nat.le_trans hS.1 h))
  have hwq : ∀ w ∈ (Cond.codeWith y.1 y.2.1 y.2.2.1 (some .int) y.2.2.2 :: qT), w ∈ qT := fun w hw => (List.mem_cons.mp hw).elim (fun h => h ▸ hm.1) id
  have hw : ∀ w ∈ (Cond.codeWith y.1 y.2.1 y.2.2.1 (some .int) y.2.2.2 :: qT), ∀ (a' : Array Value) (U : State), s.WarmedH U.vm → w.before a' U = true := fun w hw a' U hW => word_at hW (good_of_word (List.mem_filter.mp (hwq w hw)).2) (hts w (hwq w hw))
  have hcb : vx_CSW R s args (qNm 9) idx y.1 y.2.1 y.2.2.1 (some .int) y.2.2.2 (Cond.codeWith y.1 y.2.1 y.2.2.1 (some .int) y.2.2.2 :: qT) (qRm u' d') u' (6 * u') n :=
    ⟨⟨rfl, rfl, by show d' + 6 + 1 ≤ R.frames; omega, hlo, hw, List.mem_cons_self⟩, hts _ hm.1, hts _ hm.2.1, hm.2.2.2.1, fun sig hs => by have := hm.2.2.2.2.1; rw [hs] at this; exact (Option.some.inj this).symm, hts _ hlk, hts _ hm.2.2.1⟩
  have hpre : ∀ U : State, U.heap = H → s.WarmedH U.vm → lPc dC dI cyI cyZ cyL cyD ad H.size av w (av.map (qTr ad)).toArray U := fun U hU hW =>
    ⟨rfl, by rw [hU], by rw [hU]; exact hP, va_K.moved hW.alike hK, hinj, by rw [hU]; exact henv.to hW hS.2.1 hAq, fun x hx y hy h => va_Nc.moved hW.alike (hne x hx y hy h)⟩
  have hcats : (((rest.map (qTr ad)).map fun v => v.category).sum) ≤ 8 := by rw [qTr_cats]; exact hr
  have hbl : FrameBlind (lPc dC dI cyI cyZ cyL cyD ad H.size av w) := by
    intro a U g mk h
    obtain ⟨h1, h2, h3, h4, h5, h6, h7⟩ := h
    exact ⟨h1, h2, h3, va_K.moved (u := U) (U := U.calling g mk a) (Vm.Alike.refl U.vm) h4, h5, h6.to (qWarm0 U) (fun _ _ _ => rfl) (fun _ h => h), fun x hx y hy h => va_Nc.moved (u := U) (U := U.calling g mk a) (Vm.Alike.refl U.vm) (h7 x hx y hy h)⟩
  have hrun := vx_runSX (p := p) (l := l) (e := e) (R := R) (below := below) (meth := meth) (locs := locs) (cells := kc) (slots := ks) (own := qNm 9) (As := av.map (qTr ad)) (rest := rest.map (qTr ad)) (g := F0 m pc ls ((av.reverse ++ rest).map (qTr ad))) (Ts := qT) (cc := cc) (nL := nL) ⟨hx, hb, hml, hown, hts⟩ hC2
    hcb ⟨hbl, hpre⟩ rfl (by simpa using hn) hl.1 (by simp) (lv_room hcats) dd ⟨hrc, hrs⟩
  intro T hT XX
  rcases hrun T hT XX with ⟨v, st₀, t, T', LL, h0, X', hLL, e1, e2, ⟨⟨v', w', hv, hp, hPw⟩, hF⟩, stp⟩ | ⟨q, st₀, t, T', LL, E, ce, h0, X', hLL, e1, e2, hfalse, hce, hcv, hcl, stp⟩
  · obtain ⟨k1, k2, k3⟩ := vx_keep h0 e1 hS (fun q _ => hAq q) hAq hLL hF
    have hv2 : v = v'.map (qTr ad) := by cases hv; rfl
    subst hv2
    obtain ⟨t2, a1, b1⟩ := hk v' w' hp ok T'.heap (locs ++ LL) ls (by rw [e1]; exact hPw) k3 hl T' rfl X'
    refine ⟨t2, stp t2 ?_, b1⟩
    have : (v'.map (qTr ad)).toList ++ rest.map (qTr ad) = (v'.toList ++ rest).map (qTr ad) := by cases v' <;> simp
    rw [this]
    exact a1
  · exact hfalse.elim
/-- the model, or a method of the class that throws nothing -/
theorem l_callM {idx n : Nat} {y : qY} {u' d' : Nat} {av : List Value} {o ci : Nat} {fs : List (Option Nat)} {P' : qP} (dd : decode cc pc = .ok (.invokevirtual idx, 3)) (hlk : q_Ml 9 idx y) (hm : q_Md y n false) (hC : qCt y u' d' (.ref o :: av) w.1 P') (hn : av.length = n) (ho : qLay[o]? = some (.inl (ci, fs))) (hc : (vwCl.getD ci (RX0, TX0, 1)).1 = y.1.cls) (hfr : d' + 7 ≤ R.frames) (hlo : 8 + (y.2.2.1 + 11) + (100 + 40 * d') ≤ R.locals) (hrc : kc + u' ≤ R.cells) (hrs : ks + 6 * u' ≤ R.slots) (hr : (rest.map fun v => v.category).sum ≤ 8)
    (h2 : ∀ E M', ¬ P'.2 E M') (hk : ∀ v M', P'.1 v M' → LW X (cc, nL, ret, R, hh, cy, A, Q) (kc + u') (ks + 6 * u') (pc + 3) L (v.toList ++ rest) (M', w.2)) : LW X (cc, nL, ret, R, hh, cy, A, Q) kc ks pc L (av.reverse ++ .ref o :: rest) w := l_callX dd hlk hm hC hn ho hc hfr hlo hrc hrs hr hk (fun E M' h => absurd h (h2 E M'))
end LM


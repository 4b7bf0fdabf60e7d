/-! The law's wrappers: what they are called with, what they answer; a call that may throw. -/
abbrev lY : Type := MethodName × ByteArray × Nat × lH
def lA (ad : Nat → Nat) (sz : Nat) : Nat → Prop := fun q => (∃ k, k < 54 ∧ q = ad k) ∨ sz ≤ q
def lPc (dC : Nat → ClassId) (dI : Nat → Nat → Nat) (cyI cyZ cyL cyD : ClassId) (ad : Nat → Nat) (sz : Nat) (av : List Value) (w : lM) : Array Value → State → Prop := fun v U =>
  v = (av.map (qTr ad)).toArray ∧ U.heap.size = sz ∧ va_P (dC, dI) vwCl (lWd cyI cyZ cyL cyD ad w) U.heap ∧ va_K (dC, dI) vwCl (lTy cyI cyZ cyL cyD) U ∧ lInj ad ∧ qEnv ad (lA ad sz) U U.heap ∧ lEnv U
def lQc (dC : Nat → ClassId) (dI : Nat → Nat → Nat) (cyI cyZ cyL cyD : ClassId) (ad : Nat → Nat) (sz : Nat) (P : Option Value → lM → Prop) : Array Value → State → Outcome → State → Prop := fun _ st oc t =>
  (∃ (v : Option Value) (w : lM), oc = .returned (v.map (qTr ad)) ∧ P v w ∧ va_P (dC, dI) vwCl (lWd cyI cyZ cyL cyD ad w) t.heap) ∧ va_F (lA ad sz) st t
def lXC : String → State → State → Prop := fun _ _ _ => False
def lCt (y : lY) (u d : Nat) (av : List Value) (w : lM) (P : Option Value → lM → Prop) : Prop := ∀ (l : Launch), l.stackTraces = false → ∀ (dC : Nat → ClassId) (dI : Nat → Nat → Nat) (cyI cyZ cyL cyD : ClassId) (ad : Nat → Nat) (sz : Nat),
  vx_Met l y.1 (Cond.codeWith y.1 y.2.1 y.2.2.1 (some .int) y.2.2.2 :: qT) (qRm u d) (lPc dC dI cyI cyZ cyL cyD ad sz av w) (lQc dC dI cyI cyZ cyL cyD ad sz P) lXC u (6 * u) (lA ad sz)
def lQ : qX → ClassId × ClassId → (Option Value → lM → Prop) → Nat → State → Prop := fun ⟨_, _, _, s, _, args, below, _, _, dC, dI, cyI, cyZ, ad⟩ ⟨cyL, cyD⟩ P u => vx_MQ below (lQc dC dI cyI cyZ cyL cyD ad s.heap.size P) lXC args s u (6 * u) (lA ad s.heap.size)
def lAX : qX → Nat → Prop := fun ⟨_, _, _, s, _, _, _, _, _, _, _, _, _, ad⟩ => lA ad s.heap.size
/-- a wrapper: its words -/
def l_Md (y : lY) (n : Nat) : Prop := Cond.codeWith y.1 y.2.1 y.2.2.1 (some .int) y.2.2.2 ∈ qT ∧ Cond.initialized y.1.cls ∈ qT ∧ Cond.static y.1 ∈ qT ∧ (y.1.cls ≠ "java/lang/invoke/MethodHandle" ∧ y.1.cls ≠ "java/lang/invoke/VarHandle") ∧ (parseMethodDescriptor y.1.desc).map (fun d => d.parameters.length) = some n ∧ plainName y.1.cls = true ∧ y.1.cls = qNm 9
theorem l_intro {y : lY} {n u d : Nat} {av : List Value} {w : lM} {P : Option Value → lM → Prop} {L : List (Option Value)} (hm : l_Md y n) (hL : L = av.map some ++ List.replicate (y.2.2.1 - av.length) none) (hc : (av.map fun v => v.category).all (· == 1) = true) (hn : av.length ≤ y.2.2.1)
    (k : ∀ (X : qX) (cy : ClassId × ClassId), LW X (y.2.1, y.2.2.1, some .int, qRm u d, y.2.2.2, cy, lAX X, lQ X cy P u) 0 0 0 L [] w) : lCt y u d av w P := by
  intro l hl dC dI cyI cyZ cyL cyD ad sz
  have hcat : ∀ v ∈ av, v.category = 1 := fun v hv => by
    have := List.all_eq_true.mp hc v.category (List.mem_map_of_mem hv)
    simpa using this
  refine vx_ofWH hm.2.2.2.2.2.1 rfl ?_
  intro p e s m args below meth c s₁ B hml hpc
  obtain ⟨h1, h2, h3, h4, h5, h6, h7⟩ := hpc
  subst h1
  subst h2
  have hts : ∀ w ∈ qT, w.before (av.map (qTr ad)).toArray s = true := fun w hw => atoms_spec (ws := Cond.codeWith y.1 y.2.1 y.2.2.1 (some .int) y.2.2.2 :: qT) B.pre w (List.mem_cons_of_mem _ hw)
  have hown : s.vm.findClass (qNm 9) = some m.cls := by rw [← hm.2.2.2.2.2.2]; exact findClass_of_methodNamed B.named
  have htab := vx_table (x := y.1) B (hts _ hm.1)
  rw [lg_entry_eq]
  have hl0 := lv_entry (av.map (qTr ad)) (n := y.2.2.1) (by rw [lg1_len ad av hcat]; exact hn)
  rw [lv1_args ad av 0 (y.2.2.1 - av.length) hcat, ← hL] at hl0
  exact k (p, l, e, s, m, _, below, meth, c, dC, dI, cyI, cyZ, ad) (cyL, cyD) ⟨B.exec, B.bytes, hml, hown, hts, B.returns, B.notSynchronized, htab, h4, h5, h6, hl, h7, fun k hk => Or.inl ⟨k, hk, rfl⟩, fun q hq => Or.inr hq⟩ s.heap [] _ h3 va_S.rf hl0
section LJ
variable {X : qX} {cc : ByteArray} {nL : Nat} {ret : Option FieldType} {R : Room} {hh : lH} {cy : ClassId × ClassId} {A : Nat → Prop} {Q : State → Prop} {kc ks pc : Nat} {L : List (Option Value)} {st rest : List Value} {w : lM}
theorem l_ireturn {u : Nat} {z : Int} {P : Option Value → lM → Prop} (dd : decode cc pc = .ok (.ireturn, 1)) (h1 : kc ≤ u) (h2 : ks ≤ 6 * u) (h : P (some (.int (zI z))) w) : LW X (cc, nL, some .int, R, hh, cy, lAX X, lQ X cy P u) kc ks pc L [.int (zI z)] w := by
  obtain ⟨p, l, e, s, m, args, below, meth, c, dC, dI, cyI, cyZ, ad⟩ := X
  obtain ⟨cyL, cyD⟩ := cy
  intro ok H locs ls hP hS hl
  obtain ⟨hx, hb, hml, hown, hts, hret, hlocks, hex, hK, hinj, henv, hst, hne, hA1, hA2⟩ := id ok
  refine W.widen (k := u) (n := 6 * u) h1 h2 (vx_ret ?_)
  exact W.iret hx hb hret (fun t ht hW => ⟨⟨(some (.int (zI z))), w, rfl, h, by rw [ht]; exact hP⟩, hS.F ht⟩) hS.2.2 dd hlocks
def lNm : Nat → Option String := fun n => if n = 13 then some qEIOE else if n = 15 then some qEIAE else if n = 20 then some qEISE else none
theorem lNm_ok {n : Nat} {nm : String} (h : lNm n = some nm) : Cond.classLink (qNm 9) n nm ∈ qT ∧ nm ∈ qCs ∧ n ≠ 0 := by
  unfold lNm at h
  by_cases h1 : n = 13
  · rw [if_pos h1] at h; cases h; subst h1; exact ⟨qT_of 398 (by decide +kernel) (by decide +kernel), by decide, by decide⟩
  · rw [if_neg h1] at h
    by_cases h2 : n = 15
    · rw [if_pos h2] at h; cases h; subst h2; exact ⟨qT_of 399 (by decide +kernel) (by decide +kernel), by decide, by decide⟩
    · rw [if_neg h2] at h
      by_cases h3 : n = 20
      · rw [if_pos h3] at h; cases h; subst h3; exact ⟨qT_of 762 (by decide +kernel) (by decide +kernel), by decide, by decide⟩
      · rw [if_neg h3] at h; cases h
/-- E thrown at pc comes to hpc -/
def lHit (hh : lH) (pc : Nat) (E : String) (hpc : Nat) : Prop := ∃ (pre : lH) (q : Nat × Nat × Nat × Nat) (suf : lH), hh = pre ++ q :: suf ∧ q.1 ≤ pc ∧ pc < q.2.1 ∧ q.2.2.1 = hpc ∧ lNm q.2.2.2 = some E ∧ ∀ z ∈ pre, ∃ nm, lNm z.2.2.2 = some nm ∧ E ≠ nm
set_option maxHeartbeats 2000000 in
theorem l_callX {idx n : Nat} {y : qY} {u' d' : Nat} {av : List Value} {o ci : Nat} {fs : List (Option Nat)} {P' : qP} (dd : decode cc pc = .ok (.invokevirtual idx, 3)) (hlk : q_Ml 9 idx y) (hm : q_Md y n false) (hC : qCt y u' d' (.ref o :: av) w.1 P') (hn : av.length = n) (ho : qLay[o]? = some (.inl (ci, fs))) (hc : (vwCl.getD ci (RX0, TX0, 1)).1 = y.1.cls) (hfr : d' + 7 ≤ R.frames) (hlo : 8 + (y.2.2.1 + 11) + (100 + 40 * d') ≤ R.locals) (hrc : kc + u' ≤ R.cells) (hrs : ks + 6 * u' ≤ R.slots) (hr : (rest.map fun v => v.category).sum ≤ 8)
    (hk : ∀ v M', P'.1 v M' → LW X (cc, nL, ret, R, hh, cy, A, Q) (kc + u') (ks + 6 * u') (pc + 3) L (v.toList ++ rest) (M', w.2)) (hkx : ∀ E M', P'.2 E M' → ∃ (hpc len i : Nat), lHit hh pc E hpc ∧ i < nL ∧ ((∃ j : Fin 4, (j : Nat) = i ∧ decode cc hpc = .ok (.astore_n j, 1) ∧ len = 1) ∨ (decode cc hpc = .ok (.astore i, 2) ∧ len = 2)) ∧ LW X (cc, nL, ret, R, hh, cy, A, Q) (kc + u') (ks + 6 * u') (hpc + len) [] [] (M', w.2)) : LW X (cc, nL, ret, R, hh, cy, A, Q) kc ks pc L (av.reverse ++ .ref o :: rest) w := by
  obtain ⟨p, l, e, s, m, args, below, meth, c, dC, dI, cyI, cyZ, ad⟩ := X
  obtain ⟨cyL, cyD⟩ := cy
  intro ok H locs ls hP hS hl
  obtain ⟨hx, hb, hml, hown, hts, hret, hlocks, hex, hK, hinj, henv, hst, hne, hA1, hA2⟩ := id ok
  have hC2 := hC l hst dC dI cyI cyZ ad H.size
  have hPq := lP_q hP
  have hAq : ∀ q, qA ad H.size q → A q := fun q hq => hq.elim (fun ⟨k, hk, e⟩ => e ▸ hA1 k (Nat.lt_trans hk (by decide))) (fun h => hA2 q (Nat.le_trans hS.1 h))
  have hwq : ∀ w ∈ (Cond.code y.1 y.2.1 y.2.2.1 y.2.2.2 :: qT), w ∈ qT := fun w hw => (List.mem_cons.mp hw).elim (fun h => h ▸ hm.1) id
  have hw : ∀ w ∈ (Cond.code y.1 y.2.1 y.2.2.1 y.2.2.2 :: qT), ∀ (a' : Array Value) (U : State), s.WarmedH U.vm → w.before a' U = true := fun w hw a' U hW => word_at hW (good_of_word (List.mem_filter.mp (hwq w hw)).2) (hts w (hwq w hw))
  have hcb : CallB R s args (qNm 9) idx y.1 y.2.1 y.2.2.1 y.2.2.2 (Cond.code y.1 y.2.1 y.2.2.1 y.2.2.2 :: qT) (qRm u' d') u' (6 * u') n :=
    ⟨rfl, rfl, by show d' + 6 + 1 ≤ R.frames; omega, hlo, hw, List.mem_cons_self, hts _ hm.1, hts _ hm.2.1, hm.2.2.2.1, fun sig hs => by have := hm.2.2.2.2.1; rw [hs] at this; exact (Option.some.inj this).symm, hts _ hlk⟩
  have hpre : ∀ U : State, U.heap = H → s.WarmedH U.vm → qPc dC dI cyI cyZ ad H.size (.ref o :: av) w.1 ((.ref o :: av).map (qTr ad)).toArray U := fun U hU hW =>
    ⟨rfl, by rw [hU], by rw [hU]; exact hPq, va_K.moved hW.alike (lK_q hK), fun i j hi hj => hinj i j (Nat.lt_trans hi (by decide)) (Nat.lt_trans hj (by decide)), by rw [hU]; exact henv.to hW hS.2.1 hAq⟩
  have hcats : (((rest.map (qTr ad)).map fun v => v.category).sum) ≤ 8 := by rw [qTr_cats]; exact hr
  have hrecv : ∃ cellB : Cell, H[ad o]? = some cellB ∧ cellB.vm.isStatics = false ∧ s.vm.findClass y.1.cls = some cellB.cls := by
    have hlt : ∃ r, vwCl[ci]? = some r := by
      obtain ⟨r, hr, -⟩ := hPq o _ (qWd_get ho)
      exact ⟨r, hr⟩
    obtain ⟨r, hr⟩ := hlt
    have hc2 : r.1 = y.1.cls := by rw [List.getD_eq_getElem?_getD, hr] at hc; exact hc
    have := va_recv (lK_q hK) hPq hr (qWd_get ho)
    rw [hc2] at this
    exact this
  have hrun := vx_runV (p := p) (l := l) (e := e) (R := R) (below := below) (meth := meth) (locs := locs) (cells := kc) (slots := ks) (own := qNm 9) (C := y.1.cls) (b := ad o) (As := av.map (qTr ad)) (rest := rest.map (qTr ad)) (g := F0 m pc ls ((av.reverse ++ .ref o :: rest).map (qTr ad))) (Ts := qT) (cc := cc) (nL := nL) ⟨hx, hb, hml, hown, hts⟩ hC2
    ⟨hcb, hts _ hm.2.2.1.1, hts _ hm.2.2.1.2⟩ ⟨qPc_blind, hrecv, hpre⟩ rfl (by simpa using hn) hl.1 (by simp [qTr]) (lv_room hcats) dd ⟨hrc, hrs⟩
  intro T hT XX
  rcases hrun T hT XX with ⟨v, st₀, t, T', LL, h0, X', hLL, e1, e2, ⟨⟨v', M', hv, hp, hPw⟩, hF⟩, stp⟩ | ⟨q, st₀, t, T', LL, E, ce, h0, X', hLL, e1, e2, ⟨M', hp, hPw, hF⟩, hce, hcv, hcl, stp⟩
  · obtain ⟨k1, k2, k3⟩ := vx_keep h0 e1 hS (fun q _ => hAq q) hAq hLL hF
    have hv2 : v = v'.map (qTr ad) := by cases hv; rfl
    subst hv2
    obtain ⟨t2, a1, b1⟩ := hk v' M' hp ok T'.heap (locs ++ LL) ls (lP_to hinj hP (by rw [e1]; exact hPw) k2) k3 hl T' rfl X'
    refine ⟨t2, stp t2 ?_, b1⟩
    have : (v'.map (qTr ad)).toList ++ rest.map (qTr ad) = (v'.toList ++ rest).map (qTr ad) := by cases v' <;> simp
    rw [this]
    exact a1
  · obtain ⟨k1, k2, k3⟩ := vx_keep h0 e1 hS (fun q _ => hAq q) hAq hLL hF
    obtain ⟨hpc, len, i, ⟨pre, xx, suf, q1, q2, q3, q4, q5, q6⟩, hi, hst2, hW⟩ := hkx E M' hp
    obtain ⟨n1, n2, n3⟩ := lNm_ok q5
    have hcatch := vx_catch (p := p) (l := l) (e := e) (R := R) (s := s) (m := m) (args := args) (below := below) (meth := meth) (c := c) (H := T'.heap) (locs := locs ++ LL) (cells := kc + u') (slots := ks + 6 * u') (pc := pc) (ls := ls) (rest := rest.map (qTr ad)) (q := q) (Q := Q) (own := qNm 9) (name := E) (E := E) hown (pre.map fun q => ⟨q.1, q.2.1, q.2.2.1, q.2.2.2⟩) ⟨xx.1, xx.2.1, xx.2.2.1, xx.2.2.2⟩ (suf.map fun q => ⟨q.1, q.2.1, q.2.2.1, q.2.2.2⟩) (by rw [hex, q1]; simp [tableOf])
      (fun z hz => by
        obtain ⟨z0, hz0, rfl⟩ := List.mem_map.mp hz
        obtain ⟨nm, z1, z2⟩ := q6 z0 hz0
        obtain ⟨b1, b2, b3⟩ := lNm_ok z1
        exact Or.inr ⟨b3, nm, hts _ b1, hne E n2 nm b2 z2⟩) (by simp [covers]; omega) n3 (hts _ n1) (va_Nw.use rfl (henv.2.2.2.2.2.2.2.2.1 E n2)) (by rw [e1]; exact hce) hcv hcl
      (by
        have hP2 : va_P (dC, dI) vwCl (lWd cyI cyZ cyL cyD ad (M', w.2)) T'.heap := lP_to hinj hP (by rw [e1]; exact hPw) k2
        have fin : ∀ ls' : Array Slot, lv_has ls' nL [] → W p l e R s m args below meth c T'.heap (locs ++ LL) (kc + u') (ks + 6 * u') Q (F0 m (hpc + len) ls' []) := fun ls' h => hW ok T'.heap (locs ++ LL) ls' hP2 k3 h
        rcases hst2 with ⟨j, j1, j2, j3⟩ | ⟨j2, j3⟩
        · subst j3
          show W p l e R s m args below meth c T'.heap (locs ++ LL) (kc + u') (ks + 6 * u') Q (F0 m xx.2.2.1 ls [.ref q])
          rw [q4]
          exact lv_astore_n (lv := []) (lv' := [(i, .ref q)]) hx hb j2 j1 ⟨hl.1, hl.2.1, fun _ h => absurd h List.not_mem_nil⟩ hi rfl (fun ls' h => fin ls' ⟨h.1, h.2.1, fun _ h => absurd h List.not_mem_nil⟩)
        · subst j3
          show W p l e R s m args below meth c T'.heap (locs ++ LL) (kc + u') (ks + 6 * u') Q (F0 m xx.2.2.1 ls [.ref q])
          rw [q4]
          exact lv_astore (lv := []) (lv' := [(i, .ref q)]) hx hb j2 ⟨hl.1, hl.2.1, fun _ h => absurd h List.not_mem_nil⟩ hi rfl (fun ls' h => fin ls' ⟨h.1, h.2.1, fun _ h => absurd h List.not_mem_nil⟩))
    obtain ⟨t2, a1, b1⟩ := hcatch T' rfl X'
    exact ⟨t2, stp.trans a1, b1⟩
end LJ


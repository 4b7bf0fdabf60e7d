/-! The constructors: an engine over explicit worlds. -/
abbrev iX : Type := Program × Launch × Env × State × MethodId × Array Value × List Frame × Method × Code × (Nat → ClassId) × (Nat → Nat → Nat) × ClassId × ClassId
abbrev iJ : Type := Nat × ByteArray × Nat × Room × (Nat → Prop) × (State → Prop)
/-- the law's class makes Bits by a nest mate's link -/
def iNw : Cond := .methodLinkNest (qNm 7) 16 yX0_init (qNm 7)
def iI : iX → ClassId := fun ⟨_, _, _, _, _, _, _, _, _, _, _, cyI, _⟩ => cyI
def iZ : iX → ClassId := fun ⟨_, _, _, _, _, _, _, _, _, _, _, _, cyZ⟩ => cyZ
def iOk (p : Program) (s : State) (m : MethodId) (args : Array Value) (meth : Method) (c : Code) (dC : Nat → ClassId) (dI : Nat → Nat → Nat) (cyI cyZ : ClassId) (own : Nat) (cc : ByteArray) (nL : Nat) (A : Nat → Prop) : Prop :=
  p.tables.exec = Jvm.exec ∧ c.code = cc ∧ c.maxLocals = nL ∧ s.vm.findClass (qNm own) = some m.cls ∧ (∀ w ∈ qT, w.before args s = true) ∧ meth.locks = false ∧ (own ≠ 9 → meth.name = "<init>") ∧ va_K (dC, dI) vwCl [(cyI, .int), (cyZ, .boolean)] s ∧ va_Nw iNw s ∧ ∀ q, s.heap.size ≤ q → A q
def IW : iX → iJ → Nat → Nat → Nat → List (Nat × Value) → List Value → va_W → Prop := fun ⟨p, l, e, s, m, args, below, meth, c, dC, dI, cyI, cyZ⟩ ⟨own, cc, nL, R, A, Q⟩ kc ks pc L st ws =>
  iOk p s m args meth c dC dI cyI cyZ own cc nL A → ∀ (H : Heap) (locs : List Loc) (ls : Array Slot), va_P (dC, dI) vwCl ws H → va_D A ws → va_S A s.heap H locs → lv_has ls nL L →
    W p l e R s m args below meth c H locs kc ks Q (F0 m pc ls st)
/-- a class that can be made here: own class, place in its pool, class, its fields at first -/
def q_Nw (own idx ci N : Nat) (fs : List Value) : Prop := ∃ r : vw_C, vwCl[ci]? = some r ∧ r.2.2 = N ∧ Cond.classLink (qNm own) idx r.1 ∈ qT ∧ Cond.instantiable r.1 N ∈ qT ∧ Cond.initialized r.1 ∈ qT ∧ ∀ j, j < N → defaultValue (qTy ci j) = vp_V fs j
/-- a constructor -/
def q_Mi (y : qY) (n : Nat) : Prop := Cond.code y.1 y.2.1 y.2.2.1 none ∈ qT ∧ Cond.initialized y.1.cls ∈ qT ∧ Cond.instanceMethod y.1 ∈ qT ∧ y.1.name = "<init>" ∧ (y.1.cls ≠ "java/lang/invoke/MethodHandle" ∧ y.1.cls ≠ "java/lang/invoke/VarHandle") ∧ (parseMethodDescriptor y.1.desc).map (fun d => d.parameters.length) = some n ∧ plainName y.1.cls = true
/-- its contract: called on a fresh object h0 with these values; the world behind it, of the new addresses a 1, a 2 .. -/
def iCt (y : qY) (ci fr lo mc ms : Nat) (fs : List Value) (As : List Value) (wp : ClassId → ClassId → (Nat → Nat) → Nat → va_W) : Prop :=
  ∀ (l : Launch) (dC : Nat → ClassId) (dI : Nat → Nat → Nat) (cyI cyZ : ClassId) (h0 sz : Nat),
    Met l y.1 (Cond.code y.1 y.2.1 y.2.2.1 none :: qT) { frames := fr, cells := mc, slots := ms, locals := lo } (va_Pc (.ref h0 :: As) (fun U => U.heap.size = sz ∧ va_P (dC, dI) vwCl [(h0, .inr (ci, fs))] U.heap ∧ va_K (dC, dI) vwCl [(cyI, .int), (cyZ, .boolean)] U ∧ va_Nw iNw U))
      (va_Qv (fun _ : Nat → Nat => True) (fun a t => va_P (dC, dI) vwCl (wp cyI cyZ a h0) t.heap ∧ va_D (va_A [(h0, .inr (ci, fs))] sz) (wp cyI cyZ a h0)) (va_A [(h0, .inr (ci, fs))] sz)) mc ms (va_A [(h0, .inr (ci, fs))] sz)
theorem i_nd : ∀ n k : Nat, va_nd (List.range' k n) = true := by
  intro n
  induction n with
  | zero => intro k; rfl
  | succ n ih =>
    intro k
    rw [List.range'_succ, va_nd, ih (k + 1)]
    simp [List.mem_range'_1]
theorem i_join {A0 : Nat → Prop} {D : va_G} {cl : List vw_C} {ws wp : va_W} {x : Nat × va_E} {H H1 : Heap} (hP : va_P D cl (ws ++ [x]) H) (hD : va_D A0 (ws ++ [x])) (hk : ∀ q : Nat, q < H.size → ¬ va_A [x] H.size q → H1[q]? = H[q]?) (hF : ∀ q, va_A [x] H.size q → A0 q) (hP1 : va_P D cl wp H1) (hD1 : va_D (va_A [x] H.size) wp) : va_P D cl (ws ++ wp) H1 ∧ va_D A0 (ws ++ wp) := by
  refine va_join (wc := [x]) (wr := ws) hP hD [ws.length] (List.range' 0 ws.length) (by simp) ?_ (i_nd _ _) ?_ hk hF hP1 hD1
  · apply List.ext_getElem?
    intro i
    simp only [List.getElem?_map]
    by_cases h : i < ws.length
    · rw [List.getElem?_range' h]
      simp [List.getElem?_append_left h, List.getElem?_eq_getElem h]
    · have h1 : (List.range' 0 ws.length)[i]? = none := by
        rw [List.getElem?_eq_none]
        simp
        omega
      have h2 : ws[i]? = none := List.getElem?_eq_none (by omega)
      rw [h1, h2]
      rfl
  · intro i hi
    have := (List.mem_range'_1.mp hi).2
    simp
    omega
section IR
variable {X : iX} {own : Nat} {cc : ByteArray} {nL : Nat} {R : Room} {A : Nat → Prop} {Q : State → Prop} {kc ks pc : Nat} {L : List (Nat × Value)} {st : List Value} {ws : va_W}
theorem i_eq {ws' : va_W} (h : ws = ws') (k : IW X (own, cc, nL, R, A, Q) kc ks pc L st ws') : IW X (own, cc, nL, R, A, Q) kc ks pc L st ws := h ▸ k
theorem i_aload_n {i : Fin 4} (j : Nat) {x : Nat} (dd : decode cc pc = .ok (.aload_n i, 1)) (hv : L[j]? = some ((i : Nat), .ref x)) (k : IW X (own, cc, nL, R, A, Q) kc ks (pc + 1) L (.ref x :: st) ws) : IW X (own, cc, nL, R, A, Q) kc ks pc L st ws := by
  obtain ⟨p, l, e, s, m, args, below, meth, c, dC, dI, cyI, cyZ⟩ := X
  intro ok H locs ls hP hD hS hl
  obtain ⟨hx, hb, hml, hown, hts, hlocks, hin, hK, hNw, hA⟩ := id ok
  exact lv_aload_n hx hb dd rfl (lv_at hl j hv) (k ok H locs ls hP hD hS hl)
theorem i_iload_n {i : Fin 4} (j : Nat) {x : Int32} (dd : decode cc pc = .ok (.iload_n i, 1)) (hv : L[j]? = some ((i : Nat), .int x)) (k : IW X (own, cc, nL, R, A, Q) kc ks (pc + 1) L (.int x :: st) ws) : IW X (own, cc, nL, R, A, Q) kc ks pc L st ws := by
  obtain ⟨p, l, e, s, m, args, below, meth, c, dC, dI, cyI, cyZ⟩ := X
  intro ok H locs ls hP hD hS hl
  obtain ⟨hx, hb, hml, hown, hts, hlocks, hin, hK, hNw, hA⟩ := id ok
  exact lv_iload_n hx hb dd rfl (lv_at hl j hv) (k ok H locs ls hP hD hS hl)
theorem i_astore_n {i : Fin 4} {x : Nat} {L' : List (Nat × Value)} (dd : decode cc pc = .ok (.astore_n i, 1)) (hn : (i : Nat) < nL) (hl2 : ((i : Nat), Value.ref x) :: L.filter (fun q => !(q.1 == (i : Nat)) && !(q.1 + 1 == (i : Nat) && q.2.category == 2)) = L') (k : IW X (own, cc, nL, R, A, Q) kc ks (pc + 1) L' st ws) : IW X (own, cc, nL, R, A, Q) kc ks pc L (.ref x :: st) ws := by
  obtain ⟨p, l, e, s, m, args, below, meth, c, dC, dI, cyI, cyZ⟩ := X
  intro ok H locs ls hP hD hS hl
  obtain ⟨hx, hb, hml, hown, hts, hlocks, hin, hK, hNw, hA⟩ := id ok
  exact lv_astore_n hx hb dd rfl hl hn hl2 (fun ls' hl' => k ok H locs ls' hP hD hS hl')
theorem i_dup {v : Value} (dd : decode cc pc = .ok (.dup, 1)) (hv : v.category = 1) (k : IW X (own, cc, nL, R, A, Q) kc ks (pc + 1) L (v :: v :: st) ws) : IW X (own, cc, nL, R, A, Q) kc ks pc L (v :: st) ws := by
  obtain ⟨p, l, e, s, m, args, below, meth, c, dC, dI, cyI, cyZ⟩ := X
  intro ok H locs ls hP hD hS hl
  obtain ⟨hx, hb, hml, hown, hts, hlocks, hin, hK, hNw, hA⟩ := id ok
  exact lv_dup hx hb dd hv (k ok H locs ls hP hD hS hl)
theorem i_iconst {n : Int} (v : Int32) (dd : decode cc pc = .ok (.iconst n, 1)) (hv : Int32.ofInt n = v) (k : IW X (own, cc, nL, R, A, Q) kc ks (pc + 1) L (.int v :: st) ws) : IW X (own, cc, nL, R, A, Q) kc ks pc L st ws := by
  obtain ⟨p, l, e, s, m, args, below, meth, c, dC, dI, cyI, cyZ⟩ := X
  intro ok H locs ls hP hD hS hl
  obtain ⟨hx, hb, hml, hown, hts, hlocks, hin, hK, hNw, hA⟩ := id ok
  exact lv_iconst hx hb dd hv (k ok H locs ls hP hD hS hl)
theorem i_bipush {n : Int} (v : Int32) (dd : decode cc pc = .ok (.bipush n, 2)) (hv : (Int8.ofInt n).toInt32 = v) (k : IW X (own, cc, nL, R, A, Q) kc ks (pc + 2) L (.int v :: st) ws) : IW X (own, cc, nL, R, A, Q) kc ks pc L st ws := by
  obtain ⟨p, l, e, s, m, args, below, meth, c, dC, dI, cyI, cyZ⟩ := X
  intro ok H locs ls hP hD hS hl
  obtain ⟨hx, hb, hml, hown, hts, hlocks, hin, hK, hNw, hA⟩ := id ok
  exact lv_bipush hx hb dd hv (k ok H locs ls hP hD hS hl)
theorem i_sipush {n : Int} (v : Int32) (dd : decode cc pc = .ok (.sipush n, 3)) (hv : (Int16.ofInt n).toInt32 = v) (k : IW X (own, cc, nL, R, A, Q) kc ks (pc + 3) L (.int v :: st) ws) : IW X (own, cc, nL, R, A, Q) kc ks pc L st ws := by
  obtain ⟨p, l, e, s, m, args, below, meth, c, dC, dI, cyI, cyZ⟩ := X
  intro ok H locs ls hP hD hS hl
  obtain ⟨hx, hb, hml, hown, hts, hlocks, hin, hK, hNw, hA⟩ := id ok
  exact lv_sipush hx hb dd hv (k ok H locs ls hP hD hS hl)
theorem i_ge {x : Int32} {off : Int} {tgt : Nat} (dd : decode cc pc = .ok (.ifCond .ge off, 3)) (ht : (pc : Int) + off = (tgt : Int)) (h0 : 0 ≤ x) (k : IW X (own, cc, nL, R, A, Q) kc ks tgt L st ws) : IW X (own, cc, nL, R, A, Q) kc ks pc L (.int x :: st) ws := by
  obtain ⟨p, l, e, s, m, args, below, meth, c, dC, dI, cyI, cyZ⟩ := X
  intro ok H locs ls hP hD hS hl
  obtain ⟨hx, hb, hml, hown, hts, hlocks, hin, hK, hNw, hA⟩ := id ok
  exact lv_if_ge hx hb dd ht (fun _ => k ok H locs ls hP hD hS hl) (fun h => absurd h0 h)
theorem i_new {idx ci N : Nat} {fs : List Value} (dd : decode cc pc = .ok (.new idx, 3)) (hw : q_Nw own idx ci N fs) (hc : kc + 1 ≤ R.cells) (hs : ks + N ≤ R.slots) (k : ∀ q, IW X (own, cc, nL, R, A, Q) (kc + 1) (ks + N) (pc + 3) L (.ref q :: st) (ws ++ [(q, .inr (ci, fs))])) : IW X (own, cc, nL, R, A, Q) kc ks pc L st ws := by
  obtain ⟨p, l, e, s, m, args, below, meth, c, dC, dI, cyI, cyZ⟩ := X
  intro ok H locs ls hP hD hS hl
  obtain ⟨hx, hb, hml, hown, hts, hlocks, hin, hK, hNw, hA⟩ := id ok
  obtain ⟨r, hr, hN, h1, h2, h3, h4⟩ := hw
  subst hN
  exact va_new (Ts := qT) hx hb hts (q_cls ci r hr) (qTy ci) (q_clsT ci r hr).1 hown (hts _ h1) (hts _ h2) (hts _ h3) hK hP hD hS hA hr h4 hc hs dd (fun q H1 hP1 hD1 hS1 => k q ok H1 locs ls hP1 hD1 hS1 hl)
theorem i_newI {x : Int32} {N : Nat} (dd : decode cc pc = .ok (.newarray .int, 2)) (hw : Cond.arrayClass .int ∈ qT) (hx0 : ¬ x < 0) (hN : x.toNatClampNeg = N) (hb4 : N * componentBytes .int ≤ 536870912) (hc : kc + 1 ≤ R.cells) (hs : ks + N ≤ R.slots) (k : ∀ q, IW X (own, cc, nL, R, A, Q) (kc + 1) (ks + N) (pc + 2) L (.ref q :: st) (ws ++ [(q, .inl (iI X, N, .inl (fun _ => 0)))])) : IW X (own, cc, nL, R, A, Q) kc ks pc L (.int x :: st) ws := by
  obtain ⟨p, l, e, s, m, args, below, meth, c, dC, dI, cyI, cyZ⟩ := X
  intro ok H locs ls hP hD hS hl
  obtain ⟨hx, hb, hml, hown, hts, hlocks, hin, hK, hNw, hA⟩ := id ok
  refine va_newa (atype := .int) (ty := .int) (a0 := (N, .inl (fun _ => 0))) hx hb (hts _ hw) rfl hK hP hD hS hA (fun _ => rfl) hx0 hN hb4 hc hs dd (fun q cA H1 hK1 hP1 hD1 hS1 => ?_)
  have e1 : s.vm.findClass ("[" ++ FieldType.int.toString) = some cA := (hK1.2 2 (cA, .int) rfl).2
  have e2 : s.vm.findClass ("[" ++ FieldType.int.toString) = some cyI := (hK.2 0 (cyI, .int) rfl).2
  have e3 : cA = cyI := by
    rw [e2] at e1
    exact (Option.some.inj e1).symm
  subst e3
  exact k q ok H1 locs ls hP1 hD1 hS1 hl
theorem i_newZ {x : Int32} {N : Nat} (dd : decode cc pc = .ok (.newarray .boolean, 2)) (hw : Cond.arrayClass .boolean ∈ qT) (hx0 : ¬ x < 0) (hN : x.toNatClampNeg = N) (hb4 : N * componentBytes .boolean ≤ 536870912) (hc : kc + 1 ≤ R.cells) (hs : ks + N ≤ R.slots) (k : ∀ q, IW X (own, cc, nL, R, A, Q) (kc + 1) (ks + N) (pc + 2) L (.ref q :: st) (ws ++ [(q, .inl (iZ X, N, .inl (fun _ => 0)))])) : IW X (own, cc, nL, R, A, Q) kc ks pc L (.int x :: st) ws := by
  obtain ⟨p, l, e, s, m, args, below, meth, c, dC, dI, cyI, cyZ⟩ := X
  intro ok H locs ls hP hD hS hl
  obtain ⟨hx, hb, hml, hown, hts, hlocks, hin, hK, hNw, hA⟩ := id ok
  refine va_newa (atype := .boolean) (ty := .boolean) (a0 := (N, .inl (fun _ => 0))) hx hb (hts _ hw) rfl hK hP hD hS hA (fun _ => rfl) hx0 hN hb4 hc hs dd (fun q cA H1 hK1 hP1 hD1 hS1 => ?_)
  have e1 : s.vm.findClass ("[" ++ FieldType.boolean.toString) = some cA := (hK1.2 2 (cA, .boolean) rfl).2
  have e2 : s.vm.findClass ("[" ++ FieldType.boolean.toString) = some cyZ := (hK.2 1 (cyZ, .boolean) rfl).2
  have e3 : cA = cyZ := by
    rw [e2] at e1
    exact (Option.some.inj e1).symm
  subst e3
  exact k q ok H1 locs ls hP1 hD1 hS1 hl
theorem i_put {idx ci k : Nat} {a : Nat} {v : Value} {fs : List Value} (q0 : Nat) (dd : decode cc pc = .ok (.putfield idx, 3)) (hf : q_Fl own idx ci k) (he : ws[q0]? = some (a, .inr (ci, fs))) (hlen : k < fs.length) (h9 : own ≠ 9) (hdecl : (vwCl.getD ci (RX0, TX0, 1)).1 = qNm own) (hn : narrow (qTy ci k) v = v) (hfit : fits (qTy ci k) v = true)
    (kk : IW X (own, cc, nL, R, A, Q) kc ks (pc + 3) L st (ws.set q0 (a, .inr (ci, fs.set k v)))) : IW X (own, cc, nL, R, A, Q) kc ks pc L (v :: .ref a :: st) ws := by
  obtain ⟨p, l, e, s, m, args, below, meth, c, dC, dI, cyI, cyZ⟩ := X
  intro ok H locs ls hP hD hS hl
  obtain ⟨hx, hb, hml, hown, hts, hlocks, hin, hK, hNw, hA⟩ := id ok
  obtain ⟨r, hr, hk, hlk, hs1⟩ := hf
  have hr1 : r.1 = qNm own := by
    rw [List.getD_eq_getElem?_getD, hr] at hdecl
    exact hdecl
  by_cases hfin : (r.2.1 k).2.2.2 = true
  · exact va_putF (Ts := qT) (ty := qTy ci k) hx hb hts (q_cls ci r hr) (qTy ci) (q_clsT ci r hr).1 (q_clsT ci r hr).2 hown hK hP hD hS q0 he hr k hk (hts _ hlk) (fun x hx => by rw [hs1] at hx; exact hx) hfin (hin h9) (hs1.trans hr1) ((q_clsT ci r hr).1 k hk) hn hfit hlen dd (fun H1 locs1 hP1 hD1 hS1 => kk ok H1 locs1 ls hP1 hD1 hS1 hl)
  · have hfin2 : (r.2.1 k).2.2.2 = false := by
      cases h : (r.2.1 k).2.2.2 with
      | true => exact absurd h hfin
      | false => rfl
    exact va_put (Ts := qT) (ty := qTy ci k) hx hb hts (q_cls ci r hr) (qTy ci) (q_clsT ci r hr).1 (q_clsT ci r hr).2 hown hK hP hD hS q0 he hr k hk (hts _ hlk) (fun x hx => by rw [hs1] at hx; exact hx) hfin2 ((q_clsT ci r hr).1 k hk) hn hfit hlen dd (fun H1 locs1 hP1 hD1 hS1 => kk ok H1 locs1 ls hP1 hD1 hS1 hl)
theorem i_obj {idx a : Nat} (dd : decode cc pc = .ok (.invokespecial idx, 3)) (h1 : Cond.methodLink (qNm own) idx objectInit ∈ qT) (h2 : Cond.instanceMethod objectInit ∈ qT) (h3 : Cond.code objectInit ⟨#[0xb1]⟩ 1 none ∈ qT) (hfr : 1 ≤ R.frames) (hlo : (st.map fun v => v.category).sum + 12 ≤ R.locals) (k : IW X (own, cc, nL, R, A, Q) kc ks (pc + 3) L st ws) : IW X (own, cc, nL, R, A, Q) kc ks pc L (.ref a :: st) ws := by
  obtain ⟨p, l, e, s, m, args, below, meth, c, dC, dI, cyI, cyZ⟩ := X
  intro ok H locs ls hP hD hS hl
  obtain ⟨hx, hb, hml, hown, hts, hlocks, hin, hK, hNw, hA⟩ := id ok
  refine W.objInit hx hb hown (hts _ h1) (hts _ h2) (hts _ h3) rfl (by rw [hml]; exact hl.1) rfl dd hfr ?_ ?_
  · show 2 * 0 + (st.map fun v => v.category).sum + 12 ≤ R.locals
    omega
  · exact W.eq (g2 := F0 m (pc + 3) ls st) rfl (k ok H locs ls hP hD hS hl)
theorem i_hw {s : State} {args : Array Value} {y : qY} {n : Nat} (hm : q_Mi y n) (hts : ∀ w ∈ qT, w.before args s = true) : ∀ w ∈ (Cond.code y.1 y.2.1 y.2.2.1 none :: qT), ∀ (a' : Array Value) (U : State), s.WarmedH U.vm → w.before a' U = true := by
  have hwq : ∀ w ∈ (Cond.code y.1 y.2.1 y.2.2.1 none :: qT), w ∈ qT := fun w hw => (List.mem_cons.mp hw).elim (fun h => h ▸ hm.1) id
  exact fun w hw a' U hW => word_at hW (good_of_word (List.mem_filter.mp (hwq w hw)).2) (hts w (hwq w hw))
theorem i_blind {av : List Value} {dC : Nat → ClassId} {dI : Nat → Nat → Nat} {cyI cyZ : ClassId} {w : va_W} {sz : Nat} : FrameBlind (va_Pc av (fun U => U.heap.size = sz ∧ va_P (dC, dI) vwCl w U.heap ∧ va_K (dC, dI) vwCl [(cyI, .int), (cyZ, .boolean)] U ∧ va_Nw iNw U)) := by
  intro a U g mk q
  obtain ⟨q0, q1, qP, qK, qN⟩ := q
  exact ⟨q0, q1, qP, va_K.moved (u := U) (U := U.calling g mk a) (Vm.Alike.refl U.vm) qK, va_Nw.same (u := U) (U := U.calling g mk a) rfl rfl qN⟩
theorem i_call {idx ci n fr lo mc ms q : Nat} {y : qY} {fs As rest : List Value} {wp : ClassId → ClassId → (Nat → Nat) → Nat → va_W} (dd : decode cc pc = .ok (.invokespecial idx, 3)) (hC : iCt y ci fr lo mc ms fs As wp) (hlk : q_Ml own idx y) (hm : q_Mi y n) (hn : As.length = n) (hst : st = As.reverse ++ .ref q :: rest) (hfr : fr + 1 ≤ R.frames) (hlo : 8 + (y.2.2.1 + 11) + lo ≤ R.locals) (hc : kc + mc ≤ R.cells) (hs : ks + ms ≤ R.slots) (hr : (rest.map fun v => v.category).sum ≤ 8)
    (k : ∀ a, IW X (own, cc, nL, R, A, Q) (kc + mc) (ks + ms) (pc + 3) L rest (ws ++ wp (iI X) (iZ X) a q)) : IW X (own, cc, nL, R, A, Q) kc ks pc L st (ws ++ [(q, .inr (ci, fs))]) := by
  obtain ⟨p, l, e, s, m, args, below, meth, c, dC, dI, cyI, cyZ⟩ := X
  intro ok H locs ls hP hD hS hl
  obtain ⟨hx, hb, hml, hown, hts, hlocks, hin, hK, hNw, hA⟩ := id ok
  subst hst
  have hFc : ∀ x, va_A [(q, .inr (ci, fs))] H.size x → A x := va_free hD hS hA [ws.length] (by simp)
  have hPc : va_P (dC, dI) vwCl [(q, .inr (ci, fs))] H := hP.sub [ws.length] (by simp)
  refine va_callv (va_runI (own := qNm own) (b := q) (As := As) (rest := rest) (Ts := qT) (cc := cc) (nL := nL) (ws := Cond.code y.1 y.2.1 y.2.2.1 none :: qT) (bytes := y.2.1) (maxL := y.2.2.1) (n := n) ⟨hx, hb, hml, hown, hts⟩ (hC l dC dI cyI cyZ q H.size)
    ⟨⟨rfl, rfl, hfr, hlo, i_hw hm hts, List.mem_cons_self, hts _ hm.1, hts _ hm.2.1, hm.2.2.2.2.1, fun sig hq => by have := hm.2.2.2.2.2.1; rw [hq] at this; exact (Option.some.inj this).symm, hts _ hlk⟩, hm.2.2.2.1, hts _ hm.2.2.1⟩
    ⟨i_blind, fun U hU hW => ⟨rfl, by rw [hU], by rw [hU]; exact hPc, va_K.moved hW.alike hK, hNw.warmM hW⟩⟩ rfl hn hl.1 rfl (lv_room hr) dd ⟨hc, hs⟩) hS (fun q _ h => hFc q h) hFc (fun a t H1 locs1 ht hvm hw hB hz1 hk1 hS1 => ?_)
  obtain ⟨hP1, hD1⟩ := hB
  rw [ht] at hP1
  obtain ⟨hP2, hD2⟩ := i_join hP hD hk1 hFc hP1 hD1
  exact k a ok H1 locs1 ls hP2 hD2 hS1 hl
theorem i_callN {ci n fr lo mc ms q : Nat} {y : qY} {fs As rest : List Value} {wp : ClassId → ClassId → (Nat → Nat) → Nat → va_W} (dd : decode cc pc = .ok (.invokespecial 16, 3)) (hC : iCt y ci fr lo mc ms fs As wp) (h7 : own = 7) (hy : y.1 = yX0_init) (hm : q_Mi y n) (hn : As.length = n) (hst : st = As.reverse ++ .ref q :: rest) (hfr : fr + 1 ≤ R.frames) (hlo : 8 + (y.2.2.1 + 11) + lo ≤ R.locals) (hc : kc + mc ≤ R.cells) (hs : ks + ms ≤ R.slots) (hr : (rest.map fun v => v.category).sum ≤ 8)
    (k : ∀ a, IW X (own, cc, nL, R, A, Q) (kc + mc) (ks + ms) (pc + 3) L rest (ws ++ wp (iI X) (iZ X) a q)) : IW X (own, cc, nL, R, A, Q) kc ks pc L st (ws ++ [(q, .inr (ci, fs))]) := by
  obtain ⟨p, l, e, s, m, args, below, meth, c, dC, dI, cyI, cyZ⟩ := X
  intro ok H locs ls hP hD hS hl
  obtain ⟨hx, hb, hml, hown, hts, hlocks, hin, hK, hNw, hA⟩ := id ok
  subst hst
  subst h7
  have hFc : ∀ x, va_A [(q, .inr (ci, fs))] H.size x → A x := va_free hD hS hA [ws.length] (by simp)
  have hPc : va_P (dC, dI) vwCl [(q, .inr (ci, fs))] H := hP.sub [ws.length] (by simp)
  refine va_callv (va_runIN (own := qNm 7) (host := qNm 7) (b := q) (As := As) (rest := rest) (Ts := qT) (cc := cc) (nL := nL) (ws := Cond.code y.1 y.2.1 y.2.2.1 none :: qT) (bytes := y.2.1) (maxL := y.2.2.1) (n := n) ⟨hx, hb, hml, hown, hts⟩ (hC l dC dI cyI cyZ q H.size)
    ⟨⟨⟨rfl, rfl, hfr, hlo, i_hw hm hts, List.mem_cons_self⟩, hts _ hm.1, hts _ hm.2.1, hm.2.2.2.2.1, fun sig hq => by have := hm.2.2.2.2.2.1; rw [hq] at this; exact (Option.some.inj this).symm, by rw [hy]; exact va_Nw.use rfl hNw⟩, hm.2.2.2.1, hts _ hm.2.2.1⟩
    ⟨i_blind, fun U hU hW => ⟨rfl, by rw [hU], by rw [hU]; exact hPc, va_K.moved hW.alike hK, hNw.warmM hW⟩⟩ rfl hn hl.1 rfl (lv_room hr) dd ⟨hc, hs⟩) hS (fun q _ h => hFc q h) hFc (fun a t H1 locs1 ht hvm hw hB hz1 hk1 hS1 => ?_)
  obtain ⟨hP1, hD1⟩ := hB
  rw [ht] at hP1
  obtain ⟨hP2, hD2⟩ := i_join hP hD hk1 hFc hP1 hD1
  exact k a ok H1 locs1 ls hP2 hD2 hS1 hl
end IR
theorem i_D1 {A : Nat → Prop} {x : Nat × va_E} (h : A x.1) : va_D A [x] := by
  have key : ∀ {k : Nat} {q : Nat × va_E}, [x][k]? = some q → k = 0 ∧ q = x := by
    intro k q hk
    have hz : k < 1 := (List.getElem?_eq_some_iff.mp hk).1
    have h0 : k = 0 := by omega
    subst h0
    exact ⟨rfl, (Option.some.inj hk).symm⟩
  refine ⟨fun i j p q hi hj _ => ?_, fun k q hk => ?_⟩
  · rw [(key hi).1, (key hj).1]
  · rw [(key hk).2]
    exact h
theorem i_intro {y : qY} {own ci fr lo mc ms n : Nat} {fs As : List Value} {wp : ClassId → ClassId → (Nat → Nat) → Nat → va_W} (hm : q_Mi y n) (ho : qNm own = y.1.cls) (hA1 : 1 + (lg_sl As).length ≤ y.2.2.1)
    (k : ∀ (X : iX) (h0 : Nat) (A : Nat → Prop) (Q : State → Prop), (∀ (kc ks pc : Nat) (L : List (Nat × Value)) (a : Nat → Nat), decode y.2.1 pc = .ok (.return_, 1) → kc ≤ mc → ks ≤ ms → IW X (own, y.2.1, y.2.2.1, { frames := fr, cells := mc, slots := ms, locals := lo }, A, Q) kc ks pc L [] (wp (iI X) (iZ X) a h0)) →
      IW X (own, y.2.1, y.2.2.1, { frames := fr, cells := mc, slots := ms, locals := lo }, A, Q) 0 0 0 (lv_args 0 (.ref h0 :: As)) [] [(h0, .inr (ci, fs))]) : iCt y ci fr lo mc ms fs As wp := by
  intro l dC dI cyI cyZ h0 sz
  refine Met.ofW (cc := y.2.1) (maxL := y.2.2.1) (ret := none) hm.2.2.2.2.2.2 rfl ?_
  intro p e s m args below meth c s₁ B hml hv
  obtain ⟨rfl, hsz, hP, hK, hN⟩ := hv
  subst hsz
  have hts : ∀ w ∈ qT, w.before (Value.ref h0 :: As).toArray s = true := fun w hw => atoms_spec (ws := Cond.code y.1 y.2.1 y.2.2.1 none :: qT) B.pre w (List.mem_cons_of_mem _ hw)
  have hown : s.vm.findClass (qNm own) = some m.cls := by rw [ho]; exact findClass_of_methodNamed B.named
  have hin : meth.name = "<init>" := (name_of_methodNamed B.named B.method).1.trans hm.2.2.2.1
  have hx := B.exec
  have hb := B.bytes
  have hr := B.returns
  have hlocks := B.notSynchronized
  have hlen : (lg_sl (Value.ref h0 :: As)).length ≤ y.2.2.1 := by
    unfold lg_sl
    rw [List.flatMap_cons, List.length_append]
    exact hA1
  have hl := lv_entry (Value.ref h0 :: As) (n := y.2.2.1) hlen
  rw [lg_entry_eq]
  refine k (p, l, e, s, m, (Value.ref h0 :: As).toArray, below, meth, c, dC, dI, cyI, cyZ) h0 (va_A [(h0, .inr (ci, fs))] s.heap.size) _ ?_ ⟨hx, hb, hml, hown, hts, hlocks, fun _ => hin, hK, hN, fun q h => Or.inr h⟩ s.heap [] _ hP (i_D1 (Or.inl ⟨0, _, rfl⟩)) va_S.rf hl
  intro kc ks pc L a dd hk1 hk2 ok H locs ls hP hD hS hl
  refine W.widen hk1 hk2 ?_
  exact W.vret hx hb hr (fun t ht hW => ⟨⟨a, rfl, trivial, by rw [ht]; exact hP, hD⟩, hS.F ht⟩) hS.2.2 dd hlocks

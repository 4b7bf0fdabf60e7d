/-! ===== BEGIN words of one list among another's, by their places ===== -/
theorem goodIn_r {big : List Cond} (ws : List Cond) (ps : List Nat) (hp : ws = ps.filterMap (fun i => big[i]?)) (h : ws.all goodWord = true) : GoodIn big ws := by
  intro w hw
  have h1 := List.all_eq_true.mp h w hw
  rw [hp] at hw
  obtain ⟨i, -, hi⟩ := List.mem_filterMap.mp hw
  have hm : w ∈ big := by first | exact List.mem_of_getElem? hi | exact List.getElem?_mem hi
  exact ⟨hm, good_of_word h1⟩
theorem goodIn_app {big a b : List Cond} (ha : GoodIn big a) (hb : GoodIn big b) : GoodIn big (a ++ b) := fun w h => (List.mem_append.mp h).elim (ha w) (hb w)
theorem goodIn_ca {big a b : List Cond} {c : Cond} (ha : GoodIn big (c :: a)) (hb : GoodIn big b) : GoodIn big (c :: (a ++ b)) := fun w h => (List.mem_cons.mp h).elim (fun e => ha w (List.mem_cons.mpr (Or.inl e))) (fun h => (List.mem_append.mp h).elim (fun h => ha w (List.mem_cons.mpr (Or.inr h))) (hb w))
theorem goodIn_sub {big ws : List Cond} (hm : ∀ w ∈ ws, w ∈ big) (h : ws.all goodWord = true) : GoodIn big ws := fun w hw => ⟨hm w hw, good_of_word (List.all_eq_true.mp h w hw)⟩
/-! ===== END ===== -/

/-! ===== BEGIN exceptions that leave a method, and their catching by the caller (launches without stack traces) ===== -/
section VXA
/-! The laws vx_back, vx_callV, vx_callS, vx_callSW, vx_throw0, vx_throwS follow proofs of the library, with one case more: JvmDerived/Free/Laws.lean (Back.of_free), Shelf42/LK1.lean (callV, callS), Shelf/KitTraced.lean (throwNew0V, throwNewS). -/
/-- where a method has thrown q: the class by its name, the cell, what was written, the world -/
def vx_T (XC : String → State → State → Prop) (st : State) (q : Addr) (t : State) (mc ms : Nat) (free : Addr → Prop) : Prop :=
  ∃ (E : String) (ce : Cell) (L : List Loc), XC E st t ∧ t.heap[q]? = some ce ∧ ce.vm = .none ∧ st.vm.findClass E = some ce.cls ∧ st.WarmedH t.vm ∧ st.sameButNew ({ t with vm := st.vm } : State) L mc ms ∧ ∀ z ∈ L, free z.base
def vx_Q (Qc : Array Value → State → Outcome → State → Prop) (XC : String → State → State → Prop) (mc ms : Nat) (free : Addr → Prop) : Array Value → State → Outcome → State → Prop := fun a st o t =>
  (Qc a st o t ∧ ∃ L, FrameEnd st o t L mc ms ∧ ∀ q ∈ L, free q.base) ∨ ∃ q, o = .threw q ∧ vx_T XC st q t mc ms free
/-- a callee that returns or throws -/
def vx_Met (l : Launch) (y : MethodName) (ws : List Cond) (rm : Room) (Pc : Array Value → State → Prop) (Qc : Array Value → State → Outcome → State → Prop) (XC : String → State → State → Prop) (mc ms : Nat) (free : Addr → Prop) : Prop :=
  MetFree l y (headSpec ws rm) Pc (fun _ _ _ _ _ => True) (vx_Q Qc XC mc ms free)
def vx_Post (XC : String → State → State → Prop) (mc ms : Nat) (free : Addr → Prop) : Pt → Array Value → Addr → Pt → Prop := fun A a q B =>
  ∃ (g : JFrame) (mk : MethodId) (t : State) (L : List Loc) (E : String) (ce : Cell), B.U.heap = t.heap ∧ B.U.vm = t.vm ∧ XC E (A.U.calling g mk a) t ∧ t.heap[q]? = some ce ∧ ce.vm = .none ∧ A.U.vm.findClass E = some ce.cls ∧ B.locs = A.locs ++ L ∧ (∀ z ∈ L, free z.base) ∧ B.cells = A.cells + mc ∧ B.slots = A.slots + ms
def vx_Back (l : Launch) (R : Room) (p : Program) (e : Env) (below : List Frame) (s : State) (sargs : Array Value) (y : MethodName) (len W9 : Nat)
    (Pre : Pt → Array Value → Prop) (Post : Pt → Array Value → Option Value → Pt → Prop) (PostX : Pt → Array Value → Addr → Pt → Prop) : Prop :=
  ∀ (m : MethodId) (meth : Method) (c : Code) (A : Pt) (g : JFrame) (ig : Instr) (mk : MethodId) (a : Array Value),
    Stand p l e R s m sargs below meth c A.U A.locs A.cells A.slots → g.method = m → g.locals.size = c.maxLocals → decode c.code g.pc = .ok (ig, len) →
    2 * g.monitorRoom + (g.stack.map fun v => v.category).sum ≤ W9 → A.U.methodNamed? y = some mk → Pre A a →
    (∃ (v : Option Value) (B : Pt), Stand p l e R s m sargs below meth c B.U B.locs B.cells B.slots ∧ Post A a v B ∧
      Steps p.tables e below (doInvoke e (A.U.setTop g) [] mk a).1 (B.U.setTop { g with pc := g.pc + len, stack := v.toList ++ g.stack })) ∨
    (∃ (q : Addr) (B : Pt), Stand p l e R s m sargs below meth c B.U B.locs B.cells B.slots ∧ PostX A a q B ∧
      Steps p.tables e below (doInvoke e (A.U.setTop g) [] mk a).1 ((B.U.setTop g).pushFrame (.throwing q)))
section Payer
variable {l : Launch} {R : Room} {p : Program} {e : Env} {below : List Frame} {s : State} {sargs : Array Value} {y : MethodName} {len W9 : Nat}
theorem vx_back {ws : List Cond} {rm : Room} {Pc : Array Value → State → Prop} {Qc : Array Value → State → Outcome → State → Prop} {XC : String → State → State → Prop} {mc ms : Nat} {free : Addr → Prop} {bytes : ByteArray} {maxL : Nat} {ret : Option FieldType}
    (hM : vx_Met l y ws rm Pc Qc XC mc ms free) (hblind : FrameBlind Pc) (hrc : rm.cells = mc) (hrs : rm.slots = ms)
    (hframes : rm.frames + 1 ≤ R.frames) (hlocals : W9 + (maxL + 11) + rm.locals ≤ R.locals)
    (hws : ∀ w ∈ ws, ∀ a' U, s.WarmedH U.vm → w.before a' U = true) (hcode : Cond.code y bytes maxL ret ∈ ws) (hinit : ∀ a' U, s.WarmedH U.vm → (Cond.initialized y.cls).before a' U = true) :
    vx_Back l R p e below s sargs y len W9 (PreOf R mc ms Pc) (PostOf Qc mc ms free) (vx_Post XC mc ms free) := by
  intro m meth c A g ig mk a X hg hsize hdg hW hn hp
  have h1 : (headSpec ws rm).pre.before a A.U = true := atoms_intro fun w hw => hws w hw _ _ X.warmed
  have h2 : (Cond.code y bytes maxL ret).before a A.U = true := hws _ hcode _ _ X.warmed
  have h3 : (Cond.initialized y.cls).before a A.U = true := hinit _ _ X.warmed
  have h4 : A.cells + (headSpec ws rm).room.cells ≤ R.cells := by rw [show (headSpec ws rm).room.cells = mc from hrc]; exact hp.1
  have h5 : A.slots + (headSpec ws rm).room.slots ≤ R.slots := by rw [show (headSpec ws rm).room.slots = ms from hrs]; exact hp.2.1
  have hPc : Pc a (A.U.calling g mk a) := hblind _ _ _ _ hp.2.2
  obtain ⟨U, Ls, c0, s0⟩ := A
  dsimp only [Pt.U, Pt.locs, Pt.cells, Pt.slots] at h1 h2 h3 h4 h5 X hn hPc ⊢
  obtain ⟨methY, cY, hmY, hcY, -, hlY, -, -, -, -⟩ := Cond.code_spec hn h2
  obtain ⟨kY, hkY, -⟩ := className_of_methodNamed hn
  have hinitY : kY.init = .initialized := Cond.initialized_spec (findClass_of_methodNamed hn) hkY h3
  have h : At U g.method c below := by rw [hg]; exact X.here
  have hlocals9 : W9 + (maxL + 11) + (headSpec ws rm).room.locals ≤ R.locals := hlocals
  have happ : (headSpec ws rm).appliesLoose y e.platform (U.calling g mk a) = true :=
    Spec.appliesLoose_calling (g := g) h hdg hn hkY hinitY
      (X.room_calling (g := g) (R' := (headSpec ws rm).room) hsize hmY hcY hframes (by rw [hlY]; omega) h4 h5) h1
  obtain ⟨mid, hmid⟩ := h.above
  have hfr : (U.setTop g).frames = (.java g :: mid) ++ below := by rw [State.frames_setTop' g h.top, hmid]; rfl
  obtain ⟨o, s₂, hsteps, -, hend, hq⟩ := Steps.callFree hM p X.admits X.cas X.clock (acts := []) hfr happ hPc trivial
  have hq' : vx_Q Qc XC mc ms free a (U.calling g mk a) o s₂ := hq
  rw [State.frames_setTop' g h.top] at hend
  obtain ⟨g₀, hg0⟩ := Option.isSome_iff_exists.mp h.top
  obtain ⟨r, hr⟩ := State.topJava?_eq_some.mp hg0
  have hr' : (({ U with heap := s₂.heap, slotsUsed := s₂.slotsUsed } : State).setVm s₂.vm).frames = .java g₀ :: r := hr
  rcases hq' with ⟨hqc, L, hfe, hL⟩ | ⟨q, rfl, E, ce, L, hx, hce, hcv, hcl, hW₂, hsm, hL⟩
  · obtain ⟨⟨v, rfl⟩, hW₂, e2, q2, q3, q4, q5, q6⟩ := id hfe
    have e3 : s₂ = ({ (U.calling g mk a).setFrames s₂.frames with heap := s₂.heap, slotsUsed := s₂.slotsUsed } : State).setVm s₂.vm := by
      have : s₂ = ({ s₂ with vm := (U.calling g mk a).vm } : State).setVm s₂.vm := rfl
      rw [e2] at this
      exact this
    obtain ⟨c₂, i₂, len₂, hc₂, hd₂, hf₂⟩ := hend
    have hW' : U.WarmedH s₂.vm := hW₂
    have hcc : c₂ = c := by
      have h1 : s₂.code? g.method = U.code? g.method := by
        rw [State.code?_eq, State.code?_eq, hW'.alike.method?]
      exact Option.some.inj (hc₂.symm.trans (h1.trans h.code))
    subst hcc
    have hlen : len₂ = len := by rw [hdg] at hd₂; cases hd₂; rfl
    subst hlen
    have hs₂ : s₂ = (({ U with heap := s₂.heap, slotsUsed := s₂.slotsUsed } : State).setVm s₂.vm).setTop { g with pc := g.pc + len₂, stack := v.toList ++ g.stack } := by
      refine e3.trans ?_
      rw [hf₂, State.calling_eq h.top, State.setFrames_setFrames, State.setTop_of_frames _ hr', hr]
      rfl
    have hsame : U.sameButNew ({ U with heap := s₂.heap, slotsUsed := s₂.slotsUsed } : State) L mc ms := by
      refine ⟨?_, q2, q3, q4, q5, q6⟩
      obtain ⟨t, ht, -⟩ := State.frames_cons hr
      show ({ U with heap := s₂.heap, slotsUsed := s₂.slotsUsed } : State) = { U.setFrames U.frames with heap := s₂.heap, slotsUsed := s₂.slotsUsed }
      rw [State.setFrames_self ht]
    subst hg
    refine Or.inl ⟨v, ⟨(({ U with heap := s₂.heap, slotsUsed := s₂.slotsUsed } : State).setVm s₂.vm), Ls ++ L, c0 + mc, s0 + ms⟩,
      ⟨X.admits, X.cas, X.clock, X.frames, X.room, X.hears, X.method, X.code, (X.here.setHeapUsed s₂.heap s₂.slotsUsed).setVm hW'.alike, X.tail, State.WarmedH.trans X.warmed hW', X.limits, X.bytes, X.same.trans (hsame.setVm s.vm)⟩,
      ⟨g, mk, s₂, L, rfl, rfl, hqc, rfl, hL, rfl, rfl⟩, ?_⟩
    show Steps p.tables e below _ ((({ U with heap := s₂.heap, slotsUsed := s₂.slotsUsed } : State).setVm s₂.vm).setTop { g with pc := g.pc + len₂, stack := v.toList ++ g.stack })
    rw [← hs₂]
    exact hsteps
  · obtain ⟨e2, q2, q3, q4, q5, q6⟩ := id hsm
    have e3 : s₂ = ({ (U.calling g mk a).setFrames s₂.frames with heap := s₂.heap, slotsUsed := s₂.slotsUsed } : State).setVm s₂.vm := by
      have : s₂ = ({ s₂ with vm := (U.calling g mk a).vm } : State).setVm s₂.vm := rfl
      rw [e2] at this
      exact this
    have hf₂ : s₂.frames = .throwing q :: .java g :: U.frames.tail := hend
    have hW' : U.WarmedH s₂.vm := hW₂
    have hs₂ : s₂ = ((({ U with heap := s₂.heap, slotsUsed := s₂.slotsUsed } : State).setVm s₂.vm).setTop g).pushFrame (.throwing q) := by
      refine e3.trans ?_
      rw [hf₂, State.calling_eq h.top, State.setFrames_setFrames, State.pushFrame, State.frames_setTop _ hr', State.setTop_of_frames _ hr', State.setFrames_setFrames, hr]
      rfl
    have hsame : U.sameButNew ({ U with heap := s₂.heap, slotsUsed := s₂.slotsUsed } : State) L mc ms := by
      refine ⟨?_, q2, q3, q4, q5, q6⟩
      obtain ⟨t, ht, -⟩ := State.frames_cons hr
      show ({ U with heap := s₂.heap, slotsUsed := s₂.slotsUsed } : State) = { U.setFrames U.frames with heap := s₂.heap, slotsUsed := s₂.slotsUsed }
      rw [State.setFrames_self ht]
    subst hg
    refine Or.inr ⟨q, ⟨(({ U with heap := s₂.heap, slotsUsed := s₂.slotsUsed } : State).setVm s₂.vm), Ls ++ L, c0 + mc, s0 + ms⟩,
      ⟨X.admits, X.cas, X.clock, X.frames, X.room, X.hears, X.method, X.code, (X.here.setHeapUsed s₂.heap s₂.slotsUsed).setVm hW'.alike, X.tail, State.WarmedH.trans X.warmed hW', X.limits, X.bytes, X.same.trans (hsame.setVm s.vm)⟩,
      ⟨g, mk, s₂, L, E, ce, rfl, rfl, hx, hce, hcv, hcl, rfl, hL, rfl, rfl⟩, ?_⟩
    show Steps p.tables e below _ (((({ U with heap := s₂.heap, slotsUsed := s₂.slotsUsed } : State).setVm s₂.vm).setTop g).pushFrame (.throwing q))
    rw [← hs₂]
    exact hsteps
end Payer
section Calls
variable {p : Program} {l : Launch} {e : Env} {R : Room} {s : State} {m : MethodId} {args : Array Value} {below : List Frame} {meth : Method} {c : Code} {T : State} {locs : List Loc} {cells slots : Nat}
theorem vx_callV (X : Stand p l e R s m args below meth c T locs cells slots) (hexec : p.tables.exec = Jvm.exec) {own C : String} {index : Nat} {y : MethodName} {bytes : ByteArray} {maxL : Nat} {ret : Option FieldType}
    (hown : s.vm.findClass own = some m.cls) (hlink : (Cond.methodLink own index y).before args s = true) (hinst : (Cond.instanceMethod y).before args s = true) (hsel : (Cond.selects C y y).before args s = true)
    (hcode : (Cond.code y bytes maxL ret).before args s = true) (hy : y.cls ≠ "java/lang/invoke/MethodHandle" ∧ y.cls ≠ "java/lang/invoke/VarHandle")
    {W9 : Nat} {Pre : Pt → Array Value → Prop} {Post : Pt → Array Value → Option Value → Pt → Prop} {PostX : Pt → Array Value → Addr → Pt → Prop} (hK : vx_Back l R p e below s args y 3 W9 Pre Post PostX)
    {b : Addr} {cellB : Cell} (hcell : T.heap[b]? = some cellB) (hobj : cellB.vm.isStatics = false) (hcls : s.vm.findClass C = some cellB.cls)
    {g : JFrame} (hg : g.method = m) (hsize : g.locals.size = c.maxLocals) {argsL rest : List Value} (hlen : ∀ sig, parseMethodDescriptor y.desc = some sig → argsL.length = sig.parameters.length)
    (hstack : g.stack = argsL.reverse ++ .ref b :: rest) (hW : 2 * g.monitorRoom + (rest.map fun v => v.category).sum ≤ W9) (hdg : decode c.code g.pc = .ok (.invokevirtual index, 3))
    (hpre : ∀ vm₁, s.WarmedH vm₁ → Pre ⟨T.setVm vm₁, locs, cells, slots⟩ (Value.ref b :: argsL).toArray) :
    (∃ (v : Option Value) (vm₁ : Vm) (B : Pt), s.WarmedH vm₁ ∧ Stand p l e R s m args below meth c B.U B.locs B.cells B.slots ∧ Post ⟨T.setVm vm₁, locs, cells, slots⟩ (Value.ref b :: argsL).toArray v B ∧
      ∀ target, Steps p.tables e below (B.U.setTop { g with pc := g.pc + 3, stack := v.toList ++ rest }) target → Steps p.tables e below (T.setTop g) target) ∨
    (∃ (q : Addr) (vm₁ : Vm) (B : Pt), s.WarmedH vm₁ ∧ Stand p l e R s m args below meth c B.U B.locs B.cells B.slots ∧ PostX ⟨T.setVm vm₁, locs, cells, slots⟩ (Value.ref b :: argsL).toArray q B ∧
      Steps p.tables e below (T.setTop g) ((B.U.setTop { g with stack := rest }).pushFrame (.throwing q))) := by
  obtain ⟨mk, methM, hnamed, hmethM, hstM, habM⟩ := Cond.instanceMethod_spec hinst
  obtain ⟨methM', cM, hmethM', -, -, -, -, -, -, hsigM⟩ := Cond.code_spec hnamed hcode
  cases hmethM.symm.trans hmethM'
  obtain ⟨c2, r2, m2, q1, q2, q3, q4, kP, hkP, hkPi⟩ := Cond.selects_spec hsel
  cases hcls.symm.trans q1
  cases (State.methodFound?_of_named hnamed hy).symm.trans q2
  cases hnamed.symm.trans q3
  have hselP : selectMethod e.platform s.vm cellB.cls mk = .method mk := by rw [Launch.admits_selectMethod X.admits]; exact q4
  obtain ⟨vm₁, X₁, hstep₁⟩ := X.invokevirtual hexec hown hlink hnamed hmethM hstM hkP hkPi hy (a := b) (cell := cellB) hcell
    (fun z h => by rw [h] at hobj; cases hobj) hselP hmethM habM hkP hkPi (g := g) hg (argsL := argsL) (rest := rest) (hlen _ hsigM) hstack hdg
  rcases hK m meth c ⟨T.setVm vm₁, locs, cells, slots⟩ { g with stack := rest } (.invokevirtual index) mk (Value.ref b :: argsL).toArray X₁ hg hsize hdg hW (X₁.named hnamed) (hpre vm₁ X₁.warmed) with ⟨v, B, X', hpost, hsteps⟩ | ⟨q, B, X', hpost, hsteps⟩
  · exact Or.inl ⟨v, vm₁, B, X₁.warmed, X', hpost, fun target h => hstep₁ _ fun acts => by rw [doInvoke_state]; exact hsteps.trans h⟩
  · exact Or.inr ⟨q, vm₁, B, X₁.warmed, X', hpost, hstep₁ _ fun acts => by rw [doInvoke_state]; exact hsteps⟩
theorem vx_callS (X : Stand p l e R s m args below meth c T locs cells slots) (hexec : p.tables.exec = Jvm.exec) {own : String} {index : Nat} {y : MethodName} {bytes : ByteArray} {maxL : Nat} {ret : Option FieldType}
    (hown : s.vm.findClass own = some m.cls) (hlink : (Cond.methodLink own index y).before args s = true) (hstat : (Cond.static y).before args s = true) (hinit : (Cond.initialized y.cls).before args s = true)
    (hcode : (Cond.code y bytes maxL ret).before args s = true) (hy : y.cls ≠ "java/lang/invoke/MethodHandle" ∧ y.cls ≠ "java/lang/invoke/VarHandle")
    {W9 : Nat} {Pre : Pt → Array Value → Prop} {Post : Pt → Array Value → Option Value → Pt → Prop} {PostX : Pt → Array Value → Addr → Pt → Prop} (hK : vx_Back l R p e below s args y 3 W9 Pre Post PostX)
    {g : JFrame} (hg : g.method = m) (hsize : g.locals.size = c.maxLocals) {argsL rest : List Value} (hlen : ∀ sig, parseMethodDescriptor y.desc = some sig → argsL.length = sig.parameters.length)
    (hstack : g.stack = argsL.reverse ++ rest) (hW : 2 * g.monitorRoom + (rest.map fun v => v.category).sum ≤ W9) (hdg : decode c.code g.pc = .ok (.invokestatic index, 3))
    (hpre : ∀ vm₁, s.WarmedH vm₁ → Pre ⟨T.setVm vm₁, locs, cells, slots⟩ argsL.toArray) :
    (∃ (v : Option Value) (vm₁ : Vm) (B : Pt), s.WarmedH vm₁ ∧ Stand p l e R s m args below meth c B.U B.locs B.cells B.slots ∧ Post ⟨T.setVm vm₁, locs, cells, slots⟩ argsL.toArray v B ∧
      ∀ target, Steps p.tables e below (B.U.setTop { g with pc := g.pc + 3, stack := v.toList ++ rest }) target → Steps p.tables e below (T.setTop g) target) ∨
    (∃ (q : Addr) (vm₁ : Vm) (B : Pt), s.WarmedH vm₁ ∧ Stand p l e R s m args below meth c B.U B.locs B.cells B.slots ∧ PostX ⟨T.setVm vm₁, locs, cells, slots⟩ argsL.toArray q B ∧
      Steps p.tables e below (T.setTop g) ((B.U.setTop { g with stack := rest }).pushFrame (.throwing q))) := by
  obtain ⟨mk, hnamed⟩ := Cond.code_named hcode
  obtain ⟨methM, cM, hmethM, -, -, -, -, -, -, hsigM⟩ := Cond.code_spec hnamed hcode
  have hstatic : methM.isStatic = true := Cond.static_spec hnamed hmethM hstat
  obtain ⟨kP, hkP, -⟩ := className_of_methodNamed hnamed
  have hinitP : kP.init = .initialized := Cond.initialized_spec (findClass_of_methodNamed hnamed) hkP hinit
  obtain ⟨vm₁, X₁, hstep₁⟩ := X.invokestatic hexec hown hlink hnamed hmethM hstatic hkP hinitP hy (g := g) hg (argsL := argsL) (rest := rest) (hlen _ hsigM) hstack hdg
  rcases hK m meth c ⟨T.setVm vm₁, locs, cells, slots⟩ { g with stack := rest } (.invokestatic index) mk argsL.toArray X₁ hg hsize hdg hW (X₁.named hnamed) (hpre vm₁ X₁.warmed) with ⟨v, B, X', hpost, hsteps⟩ | ⟨q, B, X', hpost, hsteps⟩
  · exact Or.inl ⟨v, vm₁, B, X₁.warmed, X', hpost, fun target h => hstep₁ _ fun acts => by rw [doInvoke_state]; exact hsteps.trans h⟩
  · exact Or.inr ⟨q, vm₁, B, X₁.warmed, X', hpost, hstep₁ _ fun acts => by rw [doInvoke_state]; exact hsteps⟩
end Calls
theorem vx_cls {s : State} {T : State} {vm₁ : Vm} {E : String} {k : ClassId} (hW : s.WarmedH vm₁) (h : (T.setVm vm₁).vm.findClass E = some k) : s.vm.findClass E = some k := by
  have h1 : vm₁.findClass E = some k := h
  rw [hW.alike.findClass] at h1
  exact h1
/-- the method's frame g, with q thrown over it -/
def vx_W (p : Program) (l : Launch) (e : Env) (R : Room) (s : State) (m : MethodId) (args : Array Value) (below : List Frame) (meth : Method) (c : Code) (H : Heap) (locs : List Loc) (cells slots : Nat) (Q : State → Prop) (g : JFrame) (q : Addr) : Prop :=
  ∀ T : State, T.heap = H → Stand p l e R s m args below meth c T locs cells slots → ∃ t, Steps p.tables e below ((T.setTop g).pushFrame (.throwing q)) t ∧ Q t
def vx_Run (p : Program) (l : Launch) (e : Env) (R : Room) (s : State) (m : MethodId) (args : Array Value) (below : List Frame) (meth : Method) (c : Code) (H : Heap) (locs : List Loc) (cells slots mc ms : Nat) (g : JFrame) (rest : List Value) (Qa : State → Outcome → State → Prop) (XC : String → State → State → Prop) (free : Addr → Prop) : Prop :=
  ∀ T : State, T.heap = H → Stand p l e R s m args below meth c T locs cells slots →
    (∃ (v : Option Value) (st₀ t T' : State) (L : List Loc), st₀.heap = H ∧ Stand p l e R s m args below meth c T' (locs ++ L) (cells + mc) (slots + ms) ∧ (∀ q ∈ L, free q.base) ∧ T'.heap = t.heap ∧ T'.vm = t.vm ∧ Qa st₀ (.returned v) t ∧
      Goes p e below T g T' { g with pc := g.pc + 3, stack := v.toList ++ rest }) ∨
    (∃ (q : Addr) (st₀ t T' : State) (L : List Loc) (E : String) (ce : Cell), st₀.heap = H ∧ Stand p l e R s m args below meth c T' (locs ++ L) (cells + mc) (slots + ms) ∧ (∀ z ∈ L, free z.base) ∧ T'.heap = t.heap ∧ T'.vm = t.vm ∧ XC E st₀ t ∧ t.heap[q]? = some ce ∧ ce.vm = .none ∧ s.vm.findClass E = some ce.cls ∧
      Steps p.tables e below (T.setTop g) ((T'.setTop { g with stack := rest }).pushFrame (.throwing q)))
def vx_X {S : Type} (px : S → Prop) (B : String → S → State → Prop) (A : Nat → Prop) : String → State → State → Prop := fun E st t => ∃ u : S, px u ∧ B E u t ∧ va_F A st t
section Runs
variable {p : Program} {l : Launch} {e : Env} {R : Room} {s : State} {m : MethodId} {args : Array Value} {below : List Frame} {meth : Method} {c : Code} {H : Heap} {locs : List Loc} {cells slots : Nat}
variable {y : MethodName} {bytes cc : ByteArray} {maxL nL mc ms n index : Nat} {ret : Option FieldType} {ws : List Cond} {rm : Room} {Pc : Array Value → State → Prop} {Qc : Array Value → State → Outcome → State → Prop} {XC : String → State → State → Prop} {free : Addr → Prop} {Ts : List Cond} {own C : String} {b : Addr} {As rest : List Value} {g : JFrame}
theorem vx_callBack (cb : CallB R s args own index y bytes maxL ret ws rm mc ms n) (hM : vx_Met l y ws rm Pc Qc XC mc ms free) (hbl : FrameBlind Pc) : vx_Back l R p e below s args y 3 8 (PreOf R mc ms Pc) (PostOf Qc mc ms free) (vx_Post XC mc ms free) := by
  obtain ⟨hrc, hrs, hfr, hlo, hws, hcw, -, hini, -⟩ := cb
  exact vx_back (bytes := bytes) (maxL := maxL) (ret := ret) hM hbl hrc hrs hfr hlo hws hcw (fun a' U hW => word_at hW (Or.inl (by first | rfl | simp [Cond.onTables, Cond.keeps, Cond.steady])) hini)
theorem vx_runV (S : CallFix p m c cc nL s args Ts own) (hM : vx_Met l y ws rm Pc Qc XC mc ms free) (cw : CallW R s args own C index y bytes maxL ret ws rm mc ms n) (hp : PreV s H C b Pc As)
    (hg : g.method = m) (hn : As.length = n) (hsize : g.locals.size = nL) (hstack : g.stack = As.reverse ++ .ref b :: rest) (hW : 2 * g.monitorRoom + (rest.map fun v => v.category).sum ≤ 8) (hdg : decode cc g.pc = .ok (.invokevirtual index, 3)) (hf : cells + mc ≤ R.cells ∧ slots + ms ≤ R.slots) :
    vx_Run p l e R s m args below meth c H locs cells slots mc ms g rest (Qc (Value.ref b :: As).toArray) XC free := by
  have hK : vx_Back l R p e below s args y 3 8 (PreOf R mc ms Pc) (PostOf Qc mc ms free) (vx_Post XC mc ms free) := vx_callBack cw.1 hM hp.1
  obtain ⟨⟨-, -, -, -, -, -, hcode, -, hy, hlen, hl⟩, hin, hse⟩ := cw
  obtain ⟨hx, hb, hml, ho, -⟩ := S
  obtain ⟨-, ⟨cellB, hcB, hoB, hclB⟩, hPc⟩ := hp
  intro T hT X
  rcases vx_callV X hx (C := C) (bytes := bytes) (maxL := maxL) (ret := ret) ho hl hin hse hcode hy hK (by rw [hT]; exact hcB) hoB hclB hg (hsize.trans hml.symm) (argsL := As) (rest := rest) (fun sig h => hn.trans (hlen sig h)) hstack hW (by rw [hb]; exact hdg)
    (fun vm₁ hW₁ => ⟨hf.1, hf.2, hPc (T.setVm vm₁) hT hW₁⟩) with ⟨v, vm₁, ⟨U', l2, c2, s2⟩, hW₁, X', ⟨g', mk, t, L, e1, e2, hq, h1, hL, h2, h3⟩, st⟩ | ⟨q, vm₁, ⟨U', l2, c2, s2⟩, hW₁, X', ⟨g', mk, t, L, E, ce, e1, e2, hq, hce, hcv, hcl, h1, hL, h2, h3⟩, st⟩
  · dsimp only [Pt.U, Pt.locs, Pt.cells, Pt.slots] at X' e1 e2 h1 h2 h3 st
    subst h1; subst h2; subst h3
    exact Or.inl ⟨v, (T.setVm vm₁).calling g' mk (Value.ref b :: As).toArray, t, U', L, hT, X', hL, e1, e2, hq, st⟩
  · dsimp only [Pt.U, Pt.locs, Pt.cells, Pt.slots] at X' e1 e2 h1 h2 h3 st hcl
    subst h1; subst h2; subst h3
    exact Or.inr ⟨q, (T.setVm vm₁).calling g' mk (Value.ref b :: As).toArray, t, U', L, E, ce, hT, X', hL, e1, e2, hq, hce, hcv, vx_cls hW₁ hcl, st⟩
theorem vx_runS (S : CallFix p m c cc nL s args Ts own) (hM : vx_Met l y ws rm Pc Qc XC mc ms free) (cw : CallB R s args own index y bytes maxL ret ws rm mc ms n ∧ (Cond.static y).before args s = true) (hp : PreS s H Pc As)
    (hg : g.method = m) (hn : As.length = n) (hsize : g.locals.size = nL) (hstack : g.stack = As.reverse ++ rest) (hW : 2 * g.monitorRoom + (rest.map fun v => v.category).sum ≤ 8) (hdg : decode cc g.pc = .ok (.invokestatic index, 3)) (hf : cells + mc ≤ R.cells ∧ slots + ms ≤ R.slots) :
    vx_Run p l e R s m args below meth c H locs cells slots mc ms g rest (Qc As.toArray) XC free := by
  have hK : vx_Back l R p e below s args y 3 8 (PreOf R mc ms Pc) (PostOf Qc mc ms free) (vx_Post XC mc ms free) := vx_callBack cw.1 hM hp.1
  obtain ⟨⟨-, -, -, -, -, -, hcode, hini, hy, hlen, hl⟩, hstt⟩ := cw
  obtain ⟨hx, hb, hml, ho, -⟩ := S
  intro T hT X
  rcases vx_callS X hx (bytes := bytes) (maxL := maxL) (ret := ret) ho hl hstt hini hcode hy hK hg (hsize.trans hml.symm) (argsL := As) (rest := rest) (fun sig h => hn.trans (hlen sig h)) hstack hW (by rw [hb]; exact hdg)
    (fun vm₁ hW₁ => ⟨hf.1, hf.2, hp.2 (T.setVm vm₁) hT hW₁⟩) with ⟨v, vm₁, ⟨U', l2, c2, s2⟩, hW₁, X', ⟨g', mk, t, L, e1, e2, hq, h1, hL, h2, h3⟩, st⟩ | ⟨q, vm₁, ⟨U', l2, c2, s2⟩, hW₁, X', ⟨g', mk, t, L, E, ce, e1, e2, hq, hce, hcv, hcl, h1, hL, h2, h3⟩, st⟩
  · dsimp only [Pt.U, Pt.locs, Pt.cells, Pt.slots] at X' e1 e2 h1 h2 h3 st
    subst h1; subst h2; subst h3
    exact Or.inl ⟨v, (T.setVm vm₁).calling g' mk As.toArray, t, U', L, hT, X', hL, e1, e2, hq, st⟩
  · dsimp only [Pt.U, Pt.locs, Pt.cells, Pt.slots] at X' e1 e2 h1 h2 h3 st hcl
    subst h1; subst h2; subst h3
    exact Or.inr ⟨q, (T.setVm vm₁).calling g' mk As.toArray, t, U', L, E, ce, hT, X', hL, e1, e2, hq, hce, hcv, vx_cls hW₁ hcl, st⟩
end Runs
section Rows
variable {p : Program} {l : Launch} {e : Env} {R : Room} {s : State} {m : MethodId} {args : Array Value} {below : List Frame} {meth : Method} {c : Code} {H : Heap} {locs : List Loc} {cells slots : Nat} {Q : State → Prop}
variable {mc ms : Nat} {free : Addr → Prop} {A0 A1 : Nat → Prop} {H0 : Heap} {a : Array Value} {pc : Nat} {ls : Array Slot} {st0 rest : List Value}
theorem vx_keep {st₀ t T' : State} {L : List Loc} (h0 : st₀.heap = H) (e1 : T'.heap = t.heap) (hS : va_S A0 H0 H locs) (hA : ∀ q, q < H.size → A1 q → A0 q) (hf : ∀ q, free q → A0 q) (hL : ∀ q ∈ L, free q.base) (hF : va_F A1 st₀ t) :
    H.size ≤ T'.heap.size ∧ (∀ q : Nat, q < H.size → ¬ A1 q → T'.heap[q]? = H[q]?) ∧ va_S A0 H0 T'.heap (locs ++ L) := by
  obtain ⟨hz, hk⟩ := hF
  rw [h0] at hz hk
  exact ⟨by rw [e1]; exact hz, fun q h1 h2 => by rw [e1]; exact hk q h1 h2,
    ⟨Nat.le_trans hS.1 (by rw [e1]; exact hz), fun q h1 h2 => by rw [e1, hk q (Nat.lt_of_lt_of_le h1 hS.1) (fun z => h2 (hA q (Nat.lt_of_lt_of_le h1 hS.1) z))]; exact hS.2.1 q h1 h2, fun q hq => by
      rcases List.mem_append.mp hq with h | h
      · exact hS.2.2 q h
      · exact hf _ (hL q h)⟩⟩
theorem vx_calli {S SX : Type} {post : Int32 → S → Prop} {px : SX → Prop} {B : S → State → Prop} {BX : String → SX → State → Prop} {AX : Nat → Prop} (hr : vx_Run p l e R s m args below meth c H locs cells slots mc ms (F0 m pc ls st0) rest (va_Qi post B A1 a) (vx_X px BX AX) free) (hS : va_S A0 H0 H locs) (hA : ∀ q, q < H.size → A1 q → A0 q) (hf : ∀ q, free q → A0 q) (hAX : ∀ q, q < H.size → AX q → A0 q)
    (kx : ∀ (E : String) (ce : Cell) (q9 : Addr) (u : SX) (t : State) (H1 : Heap) (locs1 : List Loc), t.heap = H1 → s.vm.Alike t.vm → px u → BX E u t → H.size ≤ H1.size → (∀ q : Nat, q < H.size → ¬ AX q → H1[q]? = H[q]?) → va_S A0 H0 H1 locs1 → H1[q9]? = some ce → ce.vm = .none → s.vm.findClass E = some ce.cls → vx_W p l e R s m args below meth c H1 locs1 (cells + mc) (slots + ms) Q (F0 m pc ls rest) q9)
    (kk : ∀ (r : Int32) (u : S) (t : State) (H1 : Heap) (locs1 : List Loc), t.heap = H1 → s.vm.Alike t.vm → post r u → B u t → H.size ≤ H1.size → (∀ q : Nat, q < H.size → ¬ A1 q → H1[q]? = H[q]?) → va_S A0 H0 H1 locs1 → W p l e R s m args below meth c H1 locs1 (cells + mc) (slots + ms) Q (F0 m (pc + 3) ls (.int r :: rest))) : W p l e R s m args below meth c H locs cells slots Q (F0 m pc ls st0) := by
  intro T hT X
  rcases hr T hT X with ⟨v, st₀, t, T', L, h0, X', hL, e1, e2, ⟨⟨r, u, hv, hp, hb⟩, hF⟩, st⟩ | ⟨q, st₀, t, T', L, E, ce, h0, X', hL, e1, e2, ⟨u, hp, hb, hF⟩, hce, hcv, hcl, st⟩
  · cases hv
    obtain ⟨k1, k2, k3⟩ := vx_keep h0 e1 hS hA hf hL hF
    obtain ⟨t2, a1, b1⟩ := kk r u t T'.heap (locs ++ L) e1.symm (by rw [← e2]; exact X'.warmed.alike) hp hb k1 k2 k3 T' rfl X'
    exact ⟨t2, st t2 a1, b1⟩
  · obtain ⟨k1, k2, k3⟩ := vx_keep h0 e1 hS hAX hf hL hF
    obtain ⟨t2, a1, b1⟩ := kx E ce q u t T'.heap (locs ++ L) e1.symm (by rw [← e2]; exact X'.warmed.alike) hp hb k1 k2 k3 (by rw [e1]; exact hce) hcv hcl T' rfl X'
    exact ⟨t2, st.trans a1, b1⟩
theorem vx_calll {S SX : Type} {post : Int64 → S → Prop} {px : SX → Prop} {B : S → State → Prop} {BX : String → SX → State → Prop} {AX : Nat → Prop} (hr : vx_Run p l e R s m args below meth c H locs cells slots mc ms (F0 m pc ls st0) rest (va_Ql post B A1 a) (vx_X px BX AX) free) (hS : va_S A0 H0 H locs) (hA : ∀ q, q < H.size → A1 q → A0 q) (hf : ∀ q, free q → A0 q) (hAX : ∀ q, q < H.size → AX q → A0 q)
    (kx : ∀ (E : String) (ce : Cell) (q9 : Addr) (u : SX) (t : State) (H1 : Heap) (locs1 : List Loc), t.heap = H1 → s.vm.Alike t.vm → px u → BX E u t → H.size ≤ H1.size → (∀ q : Nat, q < H.size → ¬ AX q → H1[q]? = H[q]?) → va_S A0 H0 H1 locs1 → H1[q9]? = some ce → ce.vm = .none → s.vm.findClass E = some ce.cls → vx_W p l e R s m args below meth c H1 locs1 (cells + mc) (slots + ms) Q (F0 m pc ls rest) q9)
    (kk : ∀ (r : Int64) (u : S) (t : State) (H1 : Heap) (locs1 : List Loc), t.heap = H1 → s.vm.Alike t.vm → post r u → B u t → H.size ≤ H1.size → (∀ q : Nat, q < H.size → ¬ A1 q → H1[q]? = H[q]?) → va_S A0 H0 H1 locs1 → W p l e R s m args below meth c H1 locs1 (cells + mc) (slots + ms) Q (F0 m (pc + 3) ls (.long r :: rest))) : W p l e R s m args below meth c H locs cells slots Q (F0 m pc ls st0) := by
  intro T hT X
  rcases hr T hT X with ⟨v, st₀, t, T', L, h0, X', hL, e1, e2, ⟨⟨r, u, hv, hp, hb⟩, hF⟩, st⟩ | ⟨q, st₀, t, T', L, E, ce, h0, X', hL, e1, e2, ⟨u, hp, hb, hF⟩, hce, hcv, hcl, st⟩
  · cases hv
    obtain ⟨k1, k2, k3⟩ := vx_keep h0 e1 hS hA hf hL hF
    obtain ⟨t2, a1, b1⟩ := kk r u t T'.heap (locs ++ L) e1.symm (by rw [← e2]; exact X'.warmed.alike) hp hb k1 k2 k3 T' rfl X'
    exact ⟨t2, st t2 a1, b1⟩
  · obtain ⟨k1, k2, k3⟩ := vx_keep h0 e1 hS hAX hf hL hF
    obtain ⟨t2, a1, b1⟩ := kx E ce q u t T'.heap (locs ++ L) e1.symm (by rw [← e2]; exact X'.warmed.alike) hp hb k1 k2 k3 (by rw [e1]; exact hce) hcv hcl T' rfl X'
    exact ⟨t2, st.trans a1, b1⟩
theorem vx_callf {S SX : Type} {post : UInt32 → S → Prop} {px : SX → Prop} {B : S → State → Prop} {BX : String → SX → State → Prop} {AX : Nat → Prop} (hr : vx_Run p l e R s m args below meth c H locs cells slots mc ms (F0 m pc ls st0) rest (va_Qf post B A1 a) (vx_X px BX AX) free) (hS : va_S A0 H0 H locs) (hA : ∀ q, q < H.size → A1 q → A0 q) (hf : ∀ q, free q → A0 q) (hAX : ∀ q, q < H.size → AX q → A0 q)
    (kx : ∀ (E : String) (ce : Cell) (q9 : Addr) (u : SX) (t : State) (H1 : Heap) (locs1 : List Loc), t.heap = H1 → s.vm.Alike t.vm → px u → BX E u t → H.size ≤ H1.size → (∀ q : Nat, q < H.size → ¬ AX q → H1[q]? = H[q]?) → va_S A0 H0 H1 locs1 → H1[q9]? = some ce → ce.vm = .none → s.vm.findClass E = some ce.cls → vx_W p l e R s m args below meth c H1 locs1 (cells + mc) (slots + ms) Q (F0 m pc ls rest) q9)
    (kk : ∀ (r : UInt32) (u : S) (t : State) (H1 : Heap) (locs1 : List Loc), t.heap = H1 → s.vm.Alike t.vm → post r u → B u t → H.size ≤ H1.size → (∀ q : Nat, q < H.size → ¬ A1 q → H1[q]? = H[q]?) → va_S A0 H0 H1 locs1 → W p l e R s m args below meth c H1 locs1 (cells + mc) (slots + ms) Q (F0 m (pc + 3) ls (.float r :: rest))) : W p l e R s m args below meth c H locs cells slots Q (F0 m pc ls st0) := by
  intro T hT X
  rcases hr T hT X with ⟨v, st₀, t, T', L, h0, X', hL, e1, e2, ⟨⟨r, u, hv, hp, hb⟩, hF⟩, st⟩ | ⟨q, st₀, t, T', L, E, ce, h0, X', hL, e1, e2, ⟨u, hp, hb, hF⟩, hce, hcv, hcl, st⟩
  · cases hv
    obtain ⟨k1, k2, k3⟩ := vx_keep h0 e1 hS hA hf hL hF
    obtain ⟨t2, a1, b1⟩ := kk r u t T'.heap (locs ++ L) e1.symm (by rw [← e2]; exact X'.warmed.alike) hp hb k1 k2 k3 T' rfl X'
    exact ⟨t2, st t2 a1, b1⟩
  · obtain ⟨k1, k2, k3⟩ := vx_keep h0 e1 hS hAX hf hL hF
    obtain ⟨t2, a1, b1⟩ := kx E ce q u t T'.heap (locs ++ L) e1.symm (by rw [← e2]; exact X'.warmed.alike) hp hb k1 k2 k3 (by rw [e1]; exact hce) hcv hcl T' rfl X'
    exact ⟨t2, st.trans a1, b1⟩
theorem vx_calld {S SX : Type} {post : UInt64 → S → Prop} {px : SX → Prop} {B : S → State → Prop} {BX : String → SX → State → Prop} {AX : Nat → Prop} (hr : vx_Run p l e R s m args below meth c H locs cells slots mc ms (F0 m pc ls st0) rest (va_Qd post B A1 a) (vx_X px BX AX) free) (hS : va_S A0 H0 H locs) (hA : ∀ q, q < H.size → A1 q → A0 q) (hf : ∀ q, free q → A0 q) (hAX : ∀ q, q < H.size → AX q → A0 q)
    (kx : ∀ (E : String) (ce : Cell) (q9 : Addr) (u : SX) (t : State) (H1 : Heap) (locs1 : List Loc), t.heap = H1 → s.vm.Alike t.vm → px u → BX E u t → H.size ≤ H1.size → (∀ q : Nat, q < H.size → ¬ AX q → H1[q]? = H[q]?) → va_S A0 H0 H1 locs1 → H1[q9]? = some ce → ce.vm = .none → s.vm.findClass E = some ce.cls → vx_W p l e R s m args below meth c H1 locs1 (cells + mc) (slots + ms) Q (F0 m pc ls rest) q9)
    (kk : ∀ (r : UInt64) (u : S) (t : State) (H1 : Heap) (locs1 : List Loc), t.heap = H1 → s.vm.Alike t.vm → post r u → B u t → H.size ≤ H1.size → (∀ q : Nat, q < H.size → ¬ A1 q → H1[q]? = H[q]?) → va_S A0 H0 H1 locs1 → W p l e R s m args below meth c H1 locs1 (cells + mc) (slots + ms) Q (F0 m (pc + 3) ls (.double r :: rest))) : W p l e R s m args below meth c H locs cells slots Q (F0 m pc ls st0) := by
  intro T hT X
  rcases hr T hT X with ⟨v, st₀, t, T', L, h0, X', hL, e1, e2, ⟨⟨r, u, hv, hp, hb⟩, hF⟩, st⟩ | ⟨q, st₀, t, T', L, E, ce, h0, X', hL, e1, e2, ⟨u, hp, hb, hF⟩, hce, hcv, hcl, st⟩
  · cases hv
    obtain ⟨k1, k2, k3⟩ := vx_keep h0 e1 hS hA hf hL hF
    obtain ⟨t2, a1, b1⟩ := kk r u t T'.heap (locs ++ L) e1.symm (by rw [← e2]; exact X'.warmed.alike) hp hb k1 k2 k3 T' rfl X'
    exact ⟨t2, st t2 a1, b1⟩
  · obtain ⟨k1, k2, k3⟩ := vx_keep h0 e1 hS hAX hf hL hF
    obtain ⟨t2, a1, b1⟩ := kx E ce q u t T'.heap (locs ++ L) e1.symm (by rw [← e2]; exact X'.warmed.alike) hp hb k1 k2 k3 (by rw [e1]; exact hce) hcv hcl T' rfl X'
    exact ⟨t2, st.trans a1, b1⟩
theorem vx_callv {S SX : Type} {post : S → Prop} {px : SX → Prop} {B : S → State → Prop} {BX : String → SX → State → Prop} {AX : Nat → Prop} (hr : vx_Run p l e R s m args below meth c H locs cells slots mc ms (F0 m pc ls st0) rest (va_Qv post B A1 a) (vx_X px BX AX) free) (hS : va_S A0 H0 H locs) (hA : ∀ q, q < H.size → A1 q → A0 q) (hf : ∀ q, free q → A0 q) (hAX : ∀ q, q < H.size → AX q → A0 q)
    (kx : ∀ (E : String) (ce : Cell) (q9 : Addr) (u : SX) (t : State) (H1 : Heap) (locs1 : List Loc), t.heap = H1 → s.vm.Alike t.vm → px u → BX E u t → H.size ≤ H1.size → (∀ q : Nat, q < H.size → ¬ AX q → H1[q]? = H[q]?) → va_S A0 H0 H1 locs1 → H1[q9]? = some ce → ce.vm = .none → s.vm.findClass E = some ce.cls → vx_W p l e R s m args below meth c H1 locs1 (cells + mc) (slots + ms) Q (F0 m pc ls rest) q9)
    (kk : ∀ (u : S) (t : State) (H1 : Heap) (locs1 : List Loc), t.heap = H1 → s.vm.Alike t.vm → post u → B u t → H.size ≤ H1.size → (∀ q : Nat, q < H.size → ¬ A1 q → H1[q]? = H[q]?) → va_S A0 H0 H1 locs1 → W p l e R s m args below meth c H1 locs1 (cells + mc) (slots + ms) Q (F0 m (pc + 3) ls (rest))) : W p l e R s m args below meth c H locs cells slots Q (F0 m pc ls st0) := by
  intro T hT X
  rcases hr T hT X with ⟨v, st₀, t, T', L, h0, X', hL, e1, e2, ⟨⟨u, hv, hp, hb⟩, hF⟩, st⟩ | ⟨q, st₀, t, T', L, E, ce, h0, X', hL, e1, e2, ⟨u, hp, hb, hF⟩, hce, hcv, hcl, st⟩
  · cases hv
    obtain ⟨k1, k2, k3⟩ := vx_keep h0 e1 hS hA hf hL hF
    obtain ⟨t2, a1, b1⟩ := kk u t T'.heap (locs ++ L) e1.symm (by rw [← e2]; exact X'.warmed.alike) hp hb k1 k2 k3 T' rfl X'
    exact ⟨t2, st t2 a1, b1⟩
  · obtain ⟨k1, k2, k3⟩ := vx_keep h0 e1 hS hAX hf hL hF
    obtain ⟨t2, a1, b1⟩ := kx E ce q u t T'.heap (locs ++ L) e1.symm (by rw [← e2]; exact X'.warmed.alike) hp hb k1 k2 k3 (by rw [e1]; exact hce) hcv hcl T' rfl X'
    exact ⟨t2, st.trans a1, b1⟩
/-- caught by the row x of this method's table; the rows ahead don't take it -/
theorem vx_catch {own name : String} {E : String} {ce : Cell} {q : Addr} (hown : s.vm.findClass own = some m.cls) (pre : List ExceptionTableEntry) (x : ExceptionTableEntry) (suf : List ExceptionTableEntry) (hsplit : c.exceptionTable.toList = pre ++ x :: suf)
    (hpass : ∀ z ∈ pre, covers z pc = false ∨ (z.catchType ≠ 0 ∧ ∃ nm : String, (Cond.classLink own z.catchType nm).before args s = true ∧ va_Nc E nm s)) (hx : covers x pc = true) (h0 : x.catchType ≠ 0)
    (hlink : (Cond.classLink own x.catchType name).before args s = true) (hcast : (Cond.castable E name).before args s = true) (hcell : H[q]? = some ce) (hv : ce.vm = .none) (hcl : s.vm.findClass E = some ce.cls)
    (kk : W p l e R s m args below meth c H locs cells slots Q (F0 m x.handlerPc ls [.ref q])) : vx_W p l e R s m args below meth c H locs cells slots Q (F0 m pc ls rest) q := by
  intro T hT X
  have hpl : e.platform.magicAccessors = ({} : Platform).magicAccessors := by rw [X.admits.platform]
  obtain ⟨c3, c4, hc3, hc4, hasg⟩ := Cond.castable_spec hcast
  cases Option.some.inj (hc3.symm.trans hcl)
  obtain ⟨c5, hc5, hcl5⟩ := Cond.classLink_spec hown hlink e.platform hpl
  cases Option.some.inj (hc4.symm.trans hc5)
  obtain ⟨vm', X', st⟩ := X.thenCaughtThrough q (g := F0 m pc ls rest) rfl (Steps.refl _) (by rw [hT]; exact hcell) (by rw [hv]; rfl) (by obtain ⟨k9, h9, -⟩ := Vm.findClass_spec hcl; exact ⟨k9, h9⟩) pre x suf hsplit
    (fun z hz => by
      rcases hpass z hz with h | ⟨hz0, nm, hl1, hn1⟩
      · exact Or.inl h
      · obtain ⟨c6, hc6, hcl6⟩ := Cond.classLink_spec hown hl1 e.platform hpl
        obtain ⟨a8, b8, h1, h2, h3⟩ := hn1
        cases Option.some.inj (h1.symm.trans hcl)
        cases Option.some.inj (h2.symm.trans hc6)
        exact Or.inr ⟨hz0, _, hcl6, h3⟩) hx (Or.inr ⟨h0, c4, hcl5, hasg⟩)
  obtain ⟨t, a1, b1⟩ := kk (T.setVm vm') hT X'
  exact ⟨t, st.trans a1, b1⟩
end Rows
section Ends
variable {p : Program} {l : Launch} {e : Env} {R : Room} {s : State} {m : MethodId} {args : Array Value} {below : List Frame} {meth : Method} {c : Code} {H : Heap} {locs : List Loc} {cells slots : Nat} {Q : State → Prop}
variable {mc ms : Nat} {free : Addr → Prop} {A0 A1 : Nat → Prop} {H0 : Heap} {a : Array Value} {ls : Array Slot} {st0 rest : List Value}
variable {Qc : Array Value → State → Outcome → State → Prop} {XC : String → State → State → Prop}
/-- what a body that may throw owes at its end -/
def vx_MQ (below : List Frame) (Qc : Array Value → State → Outcome → State → Prop) (XC : String → State → State → Prop) (a : Array Value) (s : State) (mc ms : Nat) (free : Addr → Prop) : State → Prop := fun t =>
  ∃ o, t.status = .running ∧ Ended t below o ∧ vx_Q Qc XC mc ms free a s o t
theorem vx_ret {g : JFrame} {mc ms : Nat} (k : W p l e R s m args below meth c H locs cells slots (MQ below Qc args s mc ms free) g) : W p l e R s m args below meth c H locs cells slots (vx_MQ below Qc XC args s mc ms free) g := by
  intro T hT X
  obtain ⟨t, a1, o, b1, b2, b3, b4⟩ := k T hT X
  exact ⟨t, a1, o, b1, b2, Or.inl ⟨b3, b4⟩⟩
/-- not caught here: it goes on to the caller -/
theorem vx_widen {g : JFrame} {q : Addr} {k n : Nat} (h1 : cells ≤ k) (h2 : slots ≤ n) (kk : vx_W p l e R s m args below meth c H locs k n Q g q) : vx_W p l e R s m args below meth c H locs cells slots Q g q := fun T hT X => kk T hT (stand_widen X h1 h2)
theorem vx_out {pc : Nat} {E : String} {ce : Cell} {q : Addr} {mc ms : Nat} (hout : ∀ x ∈ c.exceptionTable.toList, covers x pc = false) (hlocks : meth.locks = false) (hcell : H[q]? = some ce) (hv : ce.vm = .none) (hcl : s.vm.findClass E = some ce.cls)
    (hx : ∀ t : State, t.heap = H → s.vm.Alike t.vm → XC E s t) (hf : ∀ z ∈ locs, free z.base) (hc : cells ≤ mc) (hs : slots ≤ ms) :
    vx_W p l e R s m args below meth c H locs cells slots (vx_MQ below Qc XC args s mc ms free) (F0 m pc ls rest) q := by
  intro T hT X
  obtain ⟨st1, hrun, hend, hW, hsm⟩ := X.leaveThrown q (g := F0 m pc ls rest) rfl rfl rfl hout hlocks
  have hcell9 : (T.setFrames (.throwing q :: below)).heap[q]? = some ce := by
    show T.heap[q]? = some ce
    rw [hT]; exact hcell
  exact ⟨_, st1, .threw q, hrun, hend, Or.inr ⟨q, rfl, E, ce, locs, hx _ hT hW.alike, hcell9, hv, hcl, hW, hsm.mono hc hs, hf⟩⟩
theorem vx_frame {U : State} {k n : Nat} (h : s.sameButNew ({ U with vm := s.vm } : State) locs k n) : s.heap.size ≤ U.heap.size ∧ ∀ q : Nat, q < s.heap.size → (∀ z ∈ locs, z.base ≠ q) → U.heap[q]? = s.heap[q]? := by
  obtain ⟨-, h2, -, -, -, h6⟩ := h
  refine ⟨h2, fun q hq hz => ?_⟩
  obtain ⟨c9, e1, e2, e3, e4⟩ := h6 q _ (Array.getElem?_eq_getElem hq)
  have hs : c9.slots = (s.heap[q]).slots := Array.ext_getElem? fun i => e4 i fun hm => hz _ hm rfl
  have h9 : c9 = s.heap[q] := by
    rw [hs] at e2
    exact e2
  have e5 : U.heap[q]? = some c9 := e1
  rw [e5, h9, Array.getElem?_eq_getElem hq]
/-- the words of a throw but the four that speak of the heap -/
def vx_no (w : Cond) : Bool := decide (w ≠ .isRef (.static Bundle.tN "UNASSIGNED_STACK" Bundle.steD)) && decide (w ≠ .isRef (.static Bundle.tN "SUPPRESSED_SENTINEL" Bundle.listD)) && decide (w ≠ .laysStatic Bundle.tN "UNASSIGNED_STACK" Bundle.steD) && decide (w ≠ .laysStatic Bundle.tN "SUPPRESSED_SENTINEL" Bundle.listD)
def vx_at0 (own : String) (ic : Nat) (X : String) (names : List String) : List Cond := (Bundle.ownAtoms0 own ic X names).filter vx_no
def vx_atS (own : String) (ic : Nat) (X : String) (names : List String) : List Cond := (Bundle.ownAtoms own ic X names).filter vx_no
/-- a word that the tables alone decide, or a good one -/
def vx_ot (w : Cond) : Bool := w.onTables || goodWord w
theorem vx_ot_at {args a' : Array Value} {s U : State} {w : Cond} (hW : s.WarmedH U.vm) (hvm : s.vm = U.vm) (hg : vx_ot w = true) (h : w.before args s = true) : w.before a' U = true := by
  simp only [vx_ot, Bool.or_eq_true] at hg
  rcases hg with hg | hg
  · exact va_tabs hg hvm h
  · exact word_at hW (good_of_word hg) h
/-- a list's words: the good ones out of the method's own list, the others by premises of their own -/
theorem vx_hat {args : Array Value} {s : State} {L B : List Cond} (h1 : ∀ w ∈ L.filter goodWord, w.before args s = true) (h2 : ∀ w ∈ L.filter (fun w => !goodWord w), w ∈ B) (h3 : ∀ w ∈ B, w.before args s = true) : ∀ w ∈ L, w.before args s = true := by
  intro w hw
  by_cases g : goodWord w = true
  · exact h1 w (List.mem_filter.mpr ⟨hw, g⟩)
  · refine h3 w (h2 w (List.mem_filter.mpr ⟨hw, ?_⟩))
    show (!goodWord w) = true
    cases hgw : goodWord w
    · rfl
    · exact absurd hgw g
theorem vx_c {args : Array Value} {s : State} {w : Cond} {B : List Cond} (h : w.before args s = true) (t : ∀ w ∈ B, w.before args s = true) : ∀ w' ∈ w :: B, w'.before args s = true := fun w' h' => (List.mem_cons.mp h').elim (fun e => by rw [e]; exact h) (t w')
theorem vx_n {args : Array Value} {s : State} : ∀ w ∈ ([] : List Cond), w.before args s = true := fun _ h => nomatch h
theorem vx_own {args : Array Value} {s : State} {L : List Cond} (h1 : ∀ w ∈ L.filter vx_no, w.before args s = true)
    (hU : (Cond.isRef (.static Bundle.tN "UNASSIGNED_STACK" Bundle.steD)).before args s = true) (hN : (Cond.isRef (.static Bundle.tN "SUPPRESSED_SENTINEL" Bundle.listD)).before args s = true)
    (lU : (Cond.laysStatic Bundle.tN "UNASSIGNED_STACK" Bundle.steD).before args s = true) (lN : (Cond.laysStatic Bundle.tN "SUPPRESSED_SENTINEL" Bundle.listD).before args s = true) : ∀ w ∈ L, w.before args s = true := by
  intro w hw
  by_cases e1 : w = .isRef (.static Bundle.tN "UNASSIGNED_STACK" Bundle.steD)
  · rw [e1]; exact hU
  · by_cases e2 : w = .isRef (.static Bundle.tN "SUPPRESSED_SENTINEL" Bundle.listD)
    · rw [e2]; exact hN
    · by_cases e3 : w = .laysStatic Bundle.tN "UNASSIGNED_STACK" Bundle.steD
      · rw [e3]; exact lU
      · by_cases e4 : w = .laysStatic Bundle.tN "SUPPRESSED_SENTINEL" Bundle.listD
        · rw [e4]; exact lN
        · exact h1 w (List.mem_filter.mpr ⟨hw, by unfold vx_no; rw [decide_eq_true e1, decide_eq_true e2, decide_eq_true e3, decide_eq_true e4]; rfl⟩)
/-- where a static field lies, its class's statics cell in H -/
def vx_L (C n d : String) (A : Nat → Prop) (U : State) (H : Heap) : Prop := ∃ (c : ClassId) (k : Class) (i : Nat) (f : Field) (a : Nat) (cell : Cell), U.vm.findClass C = some c ∧ U.fieldFound? C n d = some (c, k, i, f) ∧ f.isStatic = true ∧ k.statics = some a ∧ H[a]? = some cell ∧ cell.vm.isStatics = true ∧ cell.cls = c ∧ f.slot < cell.slots.size ∧ k.staticTypes[f.slot]? = some f.type ∧ ¬ A a
theorem vx_L.moved {C n d : String} {A : Nat → Prop} {u U : State} {H : Heap} (hvm : u.vm.Alike U.vm) (h : vx_L C n d A u H) : vx_L C n d A U H := by
  obtain ⟨c, k, i, f, a, cell, h1, h2, h3, h4, h5, h6, h7, h8, h9, h10⟩ := h
  obtain ⟨k', hi', he⟩ := State.fieldFound?_setVm hvm h2
  exact ⟨c, k', i, f, a, cell, by rw [hvm.findClass]; exact h1, hi', h3, by rw [he]; exact h4, h5, h6, h7, h8, by rw [he]; exact h9, h10⟩
theorem vx_L.kept {C n d : String} {A : Nat → Prop} {U : State} {H H1 : Heap} (h : vx_L C n d A U H) (hq : ∀ a : Nat, a < H.size → ¬ A a → H1[a]? = H[a]?) : vx_L C n d A U H1 := by
  obtain ⟨c, k, i, f, a, cell, h1, h2, h3, h4, h5, h6, h7, h8, h9, h10⟩ := h
  exact ⟨c, k, i, f, a, cell, h1, h2, h3, h4, by rw [hq a (Array.getElem?_eq_some_iff.mp h5).1 h10]; exact h5, h6, h7, h8, h9, h10⟩
theorem vx_L.narrow {C n d : String} {A B : Nat → Prop} {U : State} {H : Heap} (h : vx_L C n d A U H) (hAB : ∀ q, B q → A q) : vx_L C n d B U H := by
  obtain ⟨c, k, i, f, a, cell, h1, h2, h3, h4, h5, h6, h7, h8, h9, h10⟩ := h
  exact ⟨c, k, i, f, a, cell, h1, h2, h3, h4, h5, h6, h7, h8, h9, fun z => h10 (hAB _ z)⟩
theorem vx_L.word {C n d : String} {A : Nat → Prop} {s : State} {args : Array Value} (h : vx_L C n d A s s.heap) : (Cond.laysStatic C n d).before args s = true := by
  obtain ⟨c, k, i, f, a, cell, h1, h2, h3, h4, h5, h6, h7, h8, h9, -⟩ := h
  show (Cond.laysStatic C n d).holds args s none s [] = true
  exact Cond.laysStatic_of h1 h2 h3 h4 h5 h6 h7 h8 h9
/-- .. and what it holds: null or some reference -/
def vx_Zq (C n d : String) (A : Nat → Prop) (U : State) (H : Heap) : Prop := va_Zq C n d A U H ∧ vx_L C n d A U H
theorem vx_Zq.moved {C n d : String} {A : Nat → Prop} {u U : State} {H : Heap} (hvm : u.vm.Alike U.vm) (h : vx_Zq C n d A u H) : vx_Zq C n d A U H := ⟨va_Zq.moved hvm h.1, vx_L.moved hvm h.2⟩
theorem vx_Zq.kept {C n d : String} {A : Nat → Prop} {U : State} {H H1 : Heap} (h : vx_Zq C n d A U H) (hq : ∀ a : Nat, a < H.size → ¬ A a → H1[a]? = H[a]?) : vx_Zq C n d A U H1 := ⟨va_Zq.kept h.1 hq, vx_L.kept h.2 hq⟩
theorem vx_Zq.narrow {C n d : String} {A B : Nat → Prop} {U : State} {H : Heap} (h : vx_Zq C n d A U H) (hAB : ∀ q, B q → A q) : vx_Zq C n d B U H := ⟨va_Zq.narrow h.1 hAB, vx_L.narrow h.2 hAB⟩
theorem vx_Zqof {args : Array Value} {s : State} {C n d : String} {A : Nat → Prop} (hl : (Cond.laysStatic C n d).before args s = true) (hini : (Cond.initialized C).before args s = true) (h : (Cond.isRef (.static C n d)).before args s = true) (hA : ∀ a : Nat, a < s.heap.size → ¬ A a) : vx_Zq C n d A s s.heap := by
  refine ⟨va_Zqof hl hini h hA, ?_⟩
  obtain ⟨c, k, i, f, a, cell, h1, h2, h3, h4, h5, h6, h7, h8, h9⟩ := Cond.laysStatic_spec hl
  exact ⟨c, k, i, f, a, cell, h1, h2, h3, h4, h5, h6, h7, h8, h9, hA a (Array.getElem?_eq_some_iff.mp h5).1⟩
theorem vx_isRef {C n d : String} {v : Value} {A : Nat → Prop} {s : State} {args : Array Value} (h : va_Z C n d v A s s.heap) (hv : v.isRef = true) : (Cond.isRef (.static C n d)).before args s = true := by
  obtain ⟨cf, kf, fi, f, a, cell, h1, h2, h3, h4, h5, h6, h7, -⟩ := h
  have he : (Term.static C n d).eval args s none [] s = some v := by
    simp [Term.eval, State.fieldNamed?, h1, h2, h4, h5, h6, h7]
  simp only [Cond.before, Cond.holds, Cond.value, he]
  cases v <;> simp_all [Value.isRef]
theorem vx_isRefq {C n d : String} {A : Nat → Prop} {s : State} {args : Array Value} (h : va_Zq C n d A s s.heap) : (Cond.isRef (.static C n d)).before args s = true := by
  rcases h with h | ⟨t, h⟩
  · exact vx_isRef h rfl
  · exact vx_isRef h rfl
/-- the same frame, seen from here: as if the method were called anew in this heap -/
theorem vx_rebase {T : State} (X : Stand p l e R s m args below meth c T locs cells slots) {R' : Room} (hf : R'.frames ≤ R.frames) (hl : R'.locals ≤ R.locals) (hc : cells + R'.cells ≤ R.cells) (hs : slots + R'.slots ≤ R.slots) :
    Stand p l e R' ((T.setVm s.vm).setFrames (.invoking m args :: below)) m args below meth c T [] 0 0 := by
  have htop : (T.setVm s.vm).topJava?.isSome := X.here.top
  have hF : ((T.setVm s.vm).setFrames (.invoking m args :: below)).frames = .invoking m args :: below := State.frames_setFrames _ (State.cur_lt_of_top htop)
  obtain ⟨g₀, hg0⟩ := Option.isSome_iff_exists.mp htop
  obtain ⟨r, hr⟩ := State.topJava?_eq_some.mp hg0
  have hl9 : e.platform.stackLimits (T.setVm s.vm).me = e.platform.stackLimits s.me := X.limits
  have hb9 : (T.setVm s.vm).me.stackBytes = s.me.stackBytes := X.bytes
  refine ⟨X.admits, X.cas, X.clock, hF, ?_, X.hears, X.method, X.code, X.here, X.tail, X.warmed, ?_, ?_, ?_⟩
  · have h := X.room
    have hU : ((T.setVm s.vm).setFrames (.invoking m args :: below)).localsInUse = s.localsInUse := by
      rw [State.localsInUse_invoking hF (meth := meth) (c := c) X.method X.code, State.localsInUse_invoking X.frames X.method X.code]
    simp only [State.hasRoom, Bool.and_eq_true, decide_eq_true_eq] at h ⊢
    obtain ⟨⟨⟨⟨h1, h2, h3, h4, h5, h6⟩, h7⟩, h8⟩, h9⟩ := h
    rw [X.frames, List.length_cons] at h2 h3
    have q1 := X.heapSize
    have q2 := X.used
    simp only [hF, hU, List.length_cons, State.stackLimits_setFrames, State.stackBytes_setFrames, hl9, hb9]
    refine ⟨⟨⟨⟨by omega, by omega, by omega, by omega, by omega, h6⟩, ?_⟩, ?_⟩, X.book⟩
    · show T.heap.size + R'.cells ≤ e.platform.maxCells
      omega
    · show T.slotsUsed + R'.slots ≤ e.platform.maxSlots
      omega
  · rw [State.stackLimits_setFrames]; rfl
  · rw [State.stackBytes_setFrames]; rfl
  · refine ⟨?_, Nat.le_refl _, Nat.le_refl _, ?_, ?_, fun a c9 h9 => ⟨c9, h9, rfl, rfl, fun _ _ => rfl⟩⟩
    · obtain ⟨t, ht, -⟩ := State.frames_cons hr
      show T.setVm s.vm = { ((T.setVm s.vm).setFrames (.invoking m args :: below)).setFrames (T.setVm s.vm).frames with heap := T.heap, slotsUsed := T.slotsUsed }
      rw [State.setFrames_setFrames, State.setFrames_self ht]
      rfl
    · show T.slotsUsed = T.slotsUsed + ((T.heap.toList.drop T.heap.size).map (·.slots.size)).sum
      rw [List.drop_eq_nil_of_le (Nat.le_of_eq Array.length_toList)]
      rfl
    · show ((T.heap.toList.drop T.heap.size).map (·.slots.size)).sum ≤ 0
      rw [List.drop_eq_nil_of_le (Nat.le_of_eq Array.length_toList)]
      exact Nat.le_refl _
/-- 'throw new E()': new; dup; invokespecial; athrow -/
theorem vx_throw0 {cc : ByteArray} {pc : Nat} (hexec : p.tables.exec = Jvm.exec) (hb : c.code = cc) (hl : l.stackTraces = false) {own cls : String} {names : List String} {ik ic mc ms : Nat} {A : Nat → Prop}
    (hown : s.vm.findClass own = some m.cls) (hcls : Bundle.fit cls = true) (hnames : ∀ n ∈ names, Bundle.fit n = true)
    (hk : (Cond.classLink own ik cls).before args s = true) (hini : (Cond.initialized cls).before args s = true) (hat : ∀ w ∈ vx_at0 own ic cls names, w.before args s = true)
    (hgood : ∀ w ∈ Cond.classLink own ik cls :: Cond.initialized cls :: vx_at0 own ic cls names, vx_ot w = true)
    (hU : vx_Zq Bundle.tN "UNASSIGNED_STACK" Bundle.steD A s s.heap) (hN : vx_Zq Bundle.tN "SUPPRESSED_SENTINEL" Bundle.listD A s s.heap) (hS : va_S A s.heap H locs) (hsize : ls.size = c.maxLocals)
    (d0 : decode cc pc = .ok (.new ik, 3)) (d3 : decode cc (pc + 3) = .ok (.dup, 1)) (d4 : decode cc (pc + 4) = .ok (.invokespecial ic, 3)) (d7 : decode cc (pc + 7) = .ok (.athrow, 1))
    (hout : ∀ x ∈ c.exceptionTable.toList, covers x (pc + 7) = false)
    (hRframes : names.length + 3 < R.frames) (hRlocals : (rest.map fun v => v.category).sum + (13 * (names.length + 1) + 42) ≤ R.locals) (hRcells : cells + 1 ≤ R.cells) (hRslots : slots + 6 ≤ R.slots) (hlocks : meth.locks = false)
    (hx : ∀ t : State, s.vm.Alike t.vm → H.size ≤ t.heap.size → (∀ q : Nat, q < H.size → t.heap[q]? = H[q]?) → XC cls s t)
    (hf : ∀ z ∈ locs, free z.base) (hc : cells + 1 ≤ mc) (hs : slots + 6 ≤ ms) :
    W p l e R s m args below meth c H locs cells slots (vx_MQ below Qc XC args s mc ms free) (F0 m pc ls rest) := by
  intro T hT X
  have htr : e.platform.stackTraces = false := (show e.platform.stackTraces = l.stackTraces by rw [X.admits.platform]).trans hl
  have Y := vx_rebase X (R' := { frames := R.frames, locals := R.locals, cells := 1, slots := 6 }) (Nat.le_refl _) (Nat.le_refl _) hRcells hRslots
  obtain ⟨s', hA⟩ : ∃ z, z = (T.setVm s.vm).setFrames (.invoking m args :: below) := ⟨_, rfl⟩
  rw [← hA] at Y
  have hvm : s'.vm = s.vm := by rw [hA]; rfl
  have hhp : s'.heap = H := by rw [hA]; exact hT
  have hW0 : s.WarmedH s'.vm := by rw [hvm]; exact State.WarmedH.refl s
  have hat' : ∀ w ∈ vx_at0 own ic cls names, w.before args s' = true := fun w hw => vx_ot_at hW0 hvm.symm (hgood w (List.mem_cons_of_mem _ (List.mem_cons_of_mem _ hw))) (hat w hw)
  have hk' : (Cond.classLink own ik cls).before args s' = true := vx_ot_at hW0 hvm.symm (hgood _ List.mem_cons_self) hk
  have hini' : (Cond.initialized cls).before args s' = true := vx_ot_at hW0 hvm.symm (hgood _ (List.mem_cons_of_mem _ List.mem_cons_self)) hini
  have hU' : vx_Zq Bundle.tN "UNASSIGNED_STACK" Bundle.steD A s' s'.heap := by rw [hhp]; exact vx_Zq.moved hW0.alike (hU.kept hS.2.1)
  have hN' : vx_Zq Bundle.tN "SUPPRESSED_SENTINEL" Bundle.listD A s' s'.heap := by rw [hhp]; exact vx_Zq.moved hW0.alike (hN.kept hS.2.1)
  have h : ∀ w ∈ Bundle.ownAtoms0 own ic cls names, w.before args s' = true := vx_own hat' (vx_isRefq hU'.1) (vx_isRefq hN'.1) hU'.2.word hN'.2.word
  have hown' : s'.vm.findClass own = some m.cls := by rw [hvm]; exact hown
  have hins : (Cond.instantiable cls 6).before args s' = true := h _ (by simp [Bundle.ownAtoms0])
  obtain ⟨vm₁, cX, kX, hfX, hkX, -, -, X₁, st1⟩ := Y.newCold hexec (own := own) (C := cls) (index := ik) (n := 6) hown' hk' hins hini'
    (g := F0 m pc ls rest) rfl (by rw [hb]; exact d0) (Nat.le_refl _) (Nat.le_refl _)
  generalize hT1 : (T.setVm vm₁).pushCell { cls := cX, slots := kX.instanceTypes.map defaultValue, vm := .none } = T1 at X₁ st1
  have hcat : (Value.ref T.heap.size).category = 1 := rfl
  have hcellA : T1.heap[T.heap.size]? = some (freshCell cX kX) := by rw [← hT1]; exact State.heap_pushCell_size _ _
  have d3' : decode c.code (pc + 3) = .ok (.dup, 1) := by rw [hb]; exact d3
  obtain ⟨U, hsteps, hrun, hend, hW, hsame, ce, hce, hO⟩ := X₁.ctorThrow0 hexec htr (own := own) (cls := cls) (names := names) (ic := ic) hown' hcls hnames h (fun x hx => nomatch hx) hfX hkX hcellA (by rw [hhp, hT]; exact Nat.le_refl _)
    (g := { method := m, pc := pc + 4, locals := ls, stack := .ref T.heap.size :: .ref T.heap.size :: rest, locked := none }) rfl hsize rfl rfl (rest := rest) rfl
    (by rw [hb]; exact d4) (by rw [hb]; exact d7) hout hRframes (by simp only [List.map_cons, List.sum_cons, hcat]; omega) hlocks
  obtain ⟨f1, f2⟩ := vx_frame hsame
  rw [hhp] at f1 f2
  have hWs : s.WarmedH U.vm := State.WarmedH.trans hW0 hW
  have hcl : s.vm.findClass cls = some ce.cls := by
    have h9 := hO.cls
    rw [hvm] at h9
    exact h9
  have hall : s.sameButNew ({ U with vm := s.vm } : State) locs mc ms := by
    subst hA
    obtain ⟨e1, e2⟩ := hsame
    rw [State.setFrames_setFrames] at e1
    have h2 : (T.setVm s.vm).sameButNew ({ U with vm := s.vm } : State) [] (0 + 1) (0 + 6) := ⟨e1, e2⟩
    have h3 := X.same.trans h2
    rw [List.append_nil] at h3
    exact h3.mono hc hs
  refine ⟨U, ?_, .threw T.heap.size, hrun, hend, Or.inr ⟨T.heap.size, rfl, cls, ce, locs, hx U hWs.alike f1 (fun q hq => f2 q hq (fun z hz => nomatch hz)), hce, hO.vm, hcl, hWs, hall, hf⟩⟩
  refine st1 _ ?_
  show Steps p.tables e below (T1.setTop { method := m, pc := pc + 3, locals := ls, stack := .ref T.heap.size :: rest, locked := none }) _
  jvm_step X₁.here [X₁.here.top, hexec, d3', Value.category]
  exact hsteps
/-- 'throw new E("text")': new; dup; ldc; invokespecial; athrow -/
theorem vx_throwS {cc : ByteArray} {pc : Nat} (hexec : p.tables.exec = Jvm.exec) (hb : c.code = cc) (hl : l.stackTraces = false) {own cls text : String} {names : List String} {ik is ic mc ms sa : Nat} {A : Nat → Prop}
    (hown : s.vm.findClass own = some m.cls) (hcls : Bundle.fit cls = true) (hnames : ∀ n ∈ names, Bundle.fit n = true)
    (hk : (Cond.classLink own ik cls).before args s = true) (hini : (Cond.initialized cls).before args s = true) (hstr : vk_R own is text sa s) (hat : ∀ w ∈ vx_atS own ic cls names, w.before args s = true)
    (hgood : ∀ w ∈ Cond.classLink own ik cls :: Cond.initialized cls :: vx_atS own ic cls names, vx_ot w = true)
    (hU : vx_Zq Bundle.tN "UNASSIGNED_STACK" Bundle.steD A s s.heap) (hN : vx_Zq Bundle.tN "SUPPRESSED_SENTINEL" Bundle.listD A s s.heap) (hS : va_S A s.heap H locs) (hsize : ls.size = c.maxLocals)
    (d0 : decode cc pc = .ok (.new ik, 3)) (d3 : decode cc (pc + 3) = .ok (.dup, 1)) (d4 : decode cc (pc + 4) = .ok (.ldc is, 2)) (d6 : decode cc (pc + 6) = .ok (.invokespecial ic, 3)) (d9 : decode cc (pc + 9) = .ok (.athrow, 1))
    (hout : ∀ x ∈ c.exceptionTable.toList, covers x (pc + 9) = false)
    (hRframes : names.length + 3 < R.frames) (hRlocals : (rest.map fun v => v.category).sum + (13 * (names.length + 1) + 43) ≤ R.locals) (hRcells : cells + 1 ≤ R.cells) (hRslots : slots + 6 ≤ R.slots) (hlocks : meth.locks = false)
    (hx : ∀ t : State, s.vm.Alike t.vm → H.size ≤ t.heap.size → (∀ q : Nat, q < H.size → t.heap[q]? = H[q]?) → XC cls s t)
    (hf : ∀ z ∈ locs, free z.base) (hc : cells + 1 ≤ mc) (hs : slots + 6 ≤ ms) :
    W p l e R s m args below meth c H locs cells slots (vx_MQ below Qc XC args s mc ms free) (F0 m pc ls rest) := by
  intro T hT X
  have htr : e.platform.stackTraces = false := (show e.platform.stackTraces = l.stackTraces by rw [X.admits.platform]).trans hl
  have Y := vx_rebase X (R' := { frames := R.frames, locals := R.locals, cells := 1, slots := 6 }) (Nat.le_refl _) (Nat.le_refl _) hRcells hRslots
  obtain ⟨s', hA⟩ : ∃ z, z = (T.setVm s.vm).setFrames (.invoking m args :: below) := ⟨_, rfl⟩
  rw [← hA] at Y
  have hvm : s'.vm = s.vm := by rw [hA]; rfl
  have hhp : s'.heap = H := by rw [hA]; exact hT
  have hW0 : s.WarmedH s'.vm := by rw [hvm]; exact State.WarmedH.refl s
  have hat' : ∀ w ∈ vx_atS own ic cls names, w.before args s' = true := fun w hw => vx_ot_at hW0 hvm.symm (hgood w (List.mem_cons_of_mem _ (List.mem_cons_of_mem _ hw))) (hat w hw)
  have hk' : (Cond.classLink own ik cls).before args s' = true := vx_ot_at hW0 hvm.symm (hgood _ List.mem_cons_self) hk
  have hini' : (Cond.initialized cls).before args s' = true := vx_ot_at hW0 hvm.symm (hgood _ (List.mem_cons_of_mem _ List.mem_cons_self)) hini
  have hU' : vx_Zq Bundle.tN "UNASSIGNED_STACK" Bundle.steD A s' s'.heap := by rw [hhp]; exact vx_Zq.moved hW0.alike (hU.kept hS.2.1)
  have hN' : vx_Zq Bundle.tN "SUPPRESSED_SENTINEL" Bundle.listD A s' s'.heap := by rw [hhp]; exact vx_Zq.moved hW0.alike (hN.kept hS.2.1)
  have h : ∀ w ∈ Bundle.ownAtoms own ic cls names, w.before args s' = true := vx_own hat' (vx_isRefq hU'.1) (vx_isRefq hN'.1) hU'.2.word hN'.2.word
  have hown' : s'.vm.findClass own = some m.cls := by rw [hvm]; exact hown
  have hins : (Cond.instantiable cls 6).before args s' = true := h _ (by simp [Bundle.ownAtoms])
  obtain ⟨vm₁, cX, kX, hfX, hkX, -, -, X₁, st1⟩ := Y.newCold hexec (own := own) (C := cls) (index := ik) (n := 6) hown' hk' hins hini'
    (g := F0 m pc ls rest) rfl (by rw [hb]; exact d0) (Nat.le_refl _) (Nat.le_refl _)
  generalize hT1 : (T.setVm vm₁).pushCell { cls := cX, slots := kX.instanceTypes.map defaultValue, vm := .none } = T1 at X₁ st1
  have hcat : (Value.ref T.heap.size).category = 1 := rfl
  have hcellA : T1.heap[T.heap.size]? = some (freshCell cX kX) := by rw [← hT1]; exact State.heap_pushCell_size _ _
  have d3' : decode c.code (pc + 3) = .ok (.dup, 1) := by rw [hb]; exact d3
  have d4' : decode c.code (pc + 4) = .ok (.ldc is, 2) := by rw [hb]; exact d4
  have hstr' : vk_R own is text sa s' := vk_R.warm hW0 hstr
  obtain ⟨U, hsteps, hrun, hend, hW, hsame, ce, hce, hO⟩ := X₁.ctorThrowS hexec htr (own := own) (cls := cls) (names := names) (ic := ic) hown' hcls hnames h (fun x hx => nomatch hx) hfX hkX hcellA (by rw [hhp, hT]; exact Nat.le_refl _) (msg := .ref sa) rfl
    (g := { method := m, pc := pc + 6, locals := ls, stack := .ref sa :: .ref T.heap.size :: .ref T.heap.size :: rest, locked := none }) rfl hsize rfl rfl (rest := rest) rfl
    (by rw [hb]; exact d6) (by rw [hb]; exact d9) hout hRframes (by simp only [List.map_cons, List.sum_cons, hcat]; omega) hlocks
  obtain ⟨f1, f2⟩ := vx_frame hsame
  rw [hhp] at f1 f2
  have hWs : s.WarmedH U.vm := State.WarmedH.trans hW0 hW
  have hcl : s.vm.findClass cls = some ce.cls := by
    have h9 := hO.cls
    rw [hvm] at h9
    exact h9
  have hall : s.sameButNew ({ U with vm := s.vm } : State) locs mc ms := by
    subst hA
    obtain ⟨e1, e2⟩ := hsame
    rw [State.setFrames_setFrames] at e1
    have h2 : (T.setVm s.vm).sameButNew ({ U with vm := s.vm } : State) [] (0 + 1) (0 + 6) := ⟨e1, e2⟩
    have h3 := X.same.trans h2
    rw [List.append_nil] at h3
    exact h3.mono hc hs
  refine ⟨U, ?_, .threw T.heap.size, hrun, hend, Or.inr ⟨T.heap.size, rfl, cls, ce, locs, hx U hWs.alike f1 (fun q hq => f2 q hq (fun z hz => nomatch hz)), hce, hO.vm, hcl, hWs, hall, hf⟩⟩
  refine st1 _ ?_
  show Steps p.tables e below (T1.setTop { method := m, pc := pc + 3, locals := ls, stack := .ref T.heap.size :: rest, locked := none }) _
  jvm_step X₁.here [X₁.here.top, hexec, d3', Value.category]
  exact X₁.ldcString hexec (own := own) (text := text) (index := is) (a := sa) hown' hstr'.1 hstr'.2
    (g := { method := m, pc := pc + 4, locals := ls, stack := .ref T.heap.size :: .ref T.heap.size :: rest, locked := none }) rfl d4' _ hsteps
/-- 'throw new E("text")', the text by a wide index -/
theorem vx_throwSW {cc : ByteArray} {pc : Nat} (hexec : p.tables.exec = Jvm.exec) (hb : c.code = cc) (hl : l.stackTraces = false) {own cls text : String} {names : List String} {ik is ic mc ms sa : Nat} {A : Nat → Prop}
    (hown : s.vm.findClass own = some m.cls) (hcls : Bundle.fit cls = true) (hnames : ∀ n ∈ names, Bundle.fit n = true)
    (hk : (Cond.classLink own ik cls).before args s = true) (hini : (Cond.initialized cls).before args s = true) (hstr : vk_R own is text sa s) (hat : ∀ w ∈ vx_atS own ic cls names, w.before args s = true)
    (hgood : ∀ w ∈ Cond.classLink own ik cls :: Cond.initialized cls :: vx_atS own ic cls names, vx_ot w = true)
    (hU : vx_Zq Bundle.tN "UNASSIGNED_STACK" Bundle.steD A s s.heap) (hN : vx_Zq Bundle.tN "SUPPRESSED_SENTINEL" Bundle.listD A s s.heap) (hS : va_S A s.heap H locs) (hsize : ls.size = c.maxLocals)
    (d0 : decode cc pc = .ok (.new ik, 3)) (d3 : decode cc (pc + 3) = .ok (.dup, 1)) (d4 : decode cc (pc + 4) = .ok (.ldc_w is, 3)) (d7 : decode cc (pc + 7) = .ok (.invokespecial ic, 3)) (d10 : decode cc (pc + 10) = .ok (.athrow, 1))
    (hout : ∀ x ∈ c.exceptionTable.toList, covers x (pc + 10) = false)
    (hRframes : names.length + 3 < R.frames) (hRlocals : (rest.map fun v => v.category).sum + (13 * (names.length + 1) + 43) ≤ R.locals) (hRcells : cells + 1 ≤ R.cells) (hRslots : slots + 6 ≤ R.slots) (hlocks : meth.locks = false)
    (hx : ∀ t : State, s.vm.Alike t.vm → H.size ≤ t.heap.size → (∀ q : Nat, q < H.size → t.heap[q]? = H[q]?) → XC cls s t)
    (hf : ∀ z ∈ locs, free z.base) (hc : cells + 1 ≤ mc) (hs : slots + 6 ≤ ms) :
    W p l e R s m args below meth c H locs cells slots (vx_MQ below Qc XC args s mc ms free) (F0 m pc ls rest) := by
  intro T hT X
  have htr : e.platform.stackTraces = false := (show e.platform.stackTraces = l.stackTraces by rw [X.admits.platform]).trans hl
  have Y := vx_rebase X (R' := { frames := R.frames, locals := R.locals, cells := 1, slots := 6 }) (Nat.le_refl _) (Nat.le_refl _) hRcells hRslots
  obtain ⟨s', hA⟩ : ∃ z, z = (T.setVm s.vm).setFrames (.invoking m args :: below) := ⟨_, rfl⟩
  rw [← hA] at Y
  have hvm : s'.vm = s.vm := by rw [hA]; rfl
  have hhp : s'.heap = H := by rw [hA]; exact hT
  have hW0 : s.WarmedH s'.vm := by rw [hvm]; exact State.WarmedH.refl s
  have hat' : ∀ w ∈ vx_atS own ic cls names, w.before args s' = true := fun w hw => vx_ot_at hW0 hvm.symm (hgood w (List.mem_cons_of_mem _ (List.mem_cons_of_mem _ hw))) (hat w hw)
  have hk' : (Cond.classLink own ik cls).before args s' = true := vx_ot_at hW0 hvm.symm (hgood _ List.mem_cons_self) hk
  have hini' : (Cond.initialized cls).before args s' = true := vx_ot_at hW0 hvm.symm (hgood _ (List.mem_cons_of_mem _ List.mem_cons_self)) hini
  have hU' : vx_Zq Bundle.tN "UNASSIGNED_STACK" Bundle.steD A s' s'.heap := by rw [hhp]; exact vx_Zq.moved hW0.alike (hU.kept hS.2.1)
  have hN' : vx_Zq Bundle.tN "SUPPRESSED_SENTINEL" Bundle.listD A s' s'.heap := by rw [hhp]; exact vx_Zq.moved hW0.alike (hN.kept hS.2.1)
  have h : ∀ w ∈ Bundle.ownAtoms own ic cls names, w.before args s' = true := vx_own hat' (vx_isRefq hU'.1) (vx_isRefq hN'.1) hU'.2.word hN'.2.word
  have hown' : s'.vm.findClass own = some m.cls := by rw [hvm]; exact hown
  have hins : (Cond.instantiable cls 6).before args s' = true := h _ (by simp [Bundle.ownAtoms])
  obtain ⟨vm₁, cX, kX, hfX, hkX, -, -, X₁, st1⟩ := Y.newCold hexec (own := own) (C := cls) (index := ik) (n := 6) hown' hk' hins hini'
    (g := F0 m pc ls rest) rfl (by rw [hb]; exact d0) (Nat.le_refl _) (Nat.le_refl _)
  generalize hT1 : (T.setVm vm₁).pushCell { cls := cX, slots := kX.instanceTypes.map defaultValue, vm := .none } = T1 at X₁ st1
  have hcat : (Value.ref T.heap.size).category = 1 := rfl
  have hcellA : T1.heap[T.heap.size]? = some (freshCell cX kX) := by rw [← hT1]; exact State.heap_pushCell_size _ _
  have d3' : decode c.code (pc + 3) = .ok (.dup, 1) := by rw [hb]; exact d3
  have d4' : decode c.code (pc + 4) = .ok (.ldc_w is, 3) := by rw [hb]; exact d4
  have hstr' : vk_R own is text sa s' := vk_R.warm hW0 hstr
  obtain ⟨U, hsteps, hrun, hend, hW, hsame, ce, hce, hO⟩ := X₁.ctorThrowS hexec htr (own := own) (cls := cls) (names := names) (ic := ic) hown' hcls hnames h (fun x hx => nomatch hx) hfX hkX hcellA (by rw [hhp, hT]; exact Nat.le_refl _) (msg := .ref sa) rfl
    (g := { method := m, pc := pc + 7, locals := ls, stack := .ref sa :: .ref T.heap.size :: .ref T.heap.size :: rest, locked := none }) rfl hsize rfl rfl (rest := rest) rfl
    (by rw [hb]; exact d7) (by rw [hb]; exact d10) hout hRframes (by simp only [List.map_cons, List.sum_cons, hcat]; omega) hlocks
  obtain ⟨f1, f2⟩ := vx_frame hsame
  rw [hhp] at f1 f2
  have hWs : s.WarmedH U.vm := State.WarmedH.trans hW0 hW
  have hcl : s.vm.findClass cls = some ce.cls := by
    have h9 := hO.cls
    rw [hvm] at h9
    exact h9
  have hall : s.sameButNew ({ U with vm := s.vm } : State) locs mc ms := by
    subst hA
    obtain ⟨e1, e2⟩ := hsame
    rw [State.setFrames_setFrames] at e1
    have h2 : (T.setVm s.vm).sameButNew ({ U with vm := s.vm } : State) [] (0 + 1) (0 + 6) := ⟨e1, e2⟩
    have h3 := X.same.trans h2
    rw [List.append_nil] at h3
    exact h3.mono hc hs
  refine ⟨U, ?_, .threw T.heap.size, hrun, hend, Or.inr ⟨T.heap.size, rfl, cls, ce, locs, hx U hWs.alike f1 (fun q hq => f2 q hq (fun z hz => nomatch hz)), hce, hO.vm, hcl, hWs, hall, hf⟩⟩
  refine st1 _ ?_
  show Steps p.tables e below (T1.setTop { method := m, pc := pc + 3, locals := ls, stack := .ref T.heap.size :: rest, locked := none }) _
  jvm_step X₁.here [X₁.here.top, hexec, d3', Value.category]
  exact X₁.ldcStringW hexec (own := own) (text := text) (index := is) (a := sa) hown' hstr'.1 hstr'.2
    (g := { method := m, pc := pc + 4, locals := ls, stack := .ref T.heap.size :: .ref T.heap.size :: rest, locked := none }) rfl d4' _ hsteps
end Ends
section Bodies
variable {l : Launch}
theorem vx_ofW {y : MethodName} {ws ws' : List Cond} {rm : Room} {Pc : Array Value → State → Prop} {Qc : Array Value → State → Outcome → State → Prop} {XC : String → State → State → Prop} {mc ms : Nat} {free : Addr → Prop} {cc : ByteArray} {maxL : Nat} {ret : Option FieldType}
    (hy : plainName y.cls = true) (hw : ws = Cond.code y cc maxL ret :: ws')
    (body : ∀ p e s m args below meth c s₁, BodyLoose p l y (headSpec ws rm) cc maxL ret e s m args below meth c s₁ → c.maxLocals = maxL → (∀ x ∈ c.exceptionTable.toList, False) → Pc args s →
      W p l e (headSpec ws rm).room s m args below meth c s.heap [] 0 0 (vx_MQ below Qc XC args s mc ms free) (entryFrame m args maxL)) : vx_Met l y ws rm Pc Qc XC mc ms free := by
  refine MetFree.of_bodyS (code := cc) (maxLocals := maxL) (ret := ret) hy ?_ ?_
  · intro args s m h hn
    obtain ⟨meth, c, h1, h2, h3, h4, h5, h6, -, -⟩ := Cond.code_spec hn (atoms_spec (ws := ws) h _ (by rw [hw]; exact List.mem_cons_self))
    exact ⟨meth, c, h1, h2, h3, h4, h5, h6⟩
  · intro p e s m args below meth c s₁ B hml hP _
    have hh0 : s₁.heap = s.heap := by rw [B.state]; rfl
    have ht : ∀ x ∈ c.exceptionTable.toList, False := by
      obtain ⟨meth9, c9, h1, h2, -, -, -, -, h7, -⟩ := Cond.code_spec B.named (atoms_spec (ws := ws) B.pre _ (by rw [hw]; exact List.mem_cons_self))
      cases Option.some.inj (h1.symm.trans B.method)
      cases Option.some.inj (h2.symm.trans (Stand.of_body B).code)
      intro x hx
      rw [Array.isEmpty_iff.mp h7] at hx
      cases hx
    obtain ⟨t, a1, o, b1, b2, b3⟩ := body p e s m args below meth c s₁ B hml ht hP s₁ hh0 (Stand.of_body B)
    exact ⟨t, o, a1, b1, b2, b3⟩
/-- the table of a body with handlers -/
theorem vx_table {p : Program} {x y : MethodName} {S : Spec} {cc bytes : ByteArray} {maxL maxL' : Nat} {ret ret' : Option FieldType} {e : Env} {s s₁ : State} {m : MethodId} {args : Array Value} {below : List Frame} {meth : Method} {c : Code} {hh : List (Nat × Nat × Nat × Nat)}
    (B : BodyLoose p l y S cc maxL ret e s m args below meth c s₁) (h : (Cond.codeWith y bytes maxL' ret' hh).before args s = true) : c.exceptionTable.toList = tableOf hh := by
  obtain ⟨m9, meth9, c9, hn9, h1, h2, -, -, h6, -⟩ := Cond.codeWith_spec h
  cases Option.some.inj (hn9.symm.trans B.named)
  cases Option.some.inj (h1.symm.trans B.method)
  cases Option.some.inj (h2.symm.trans (Stand.of_body B).code)
  rw [← h6, table_eq]
end Bodies
end VXA
/-! ===== END ===== -/
/-! ===== BEGIN a static call of a method with an exception table ===== -/
section VXS
variable {p : Program} {l : Launch} {e : Env} {R : Room} {s : State} {m : MethodId} {args : Array Value} {below : List Frame} {meth : Method} {c : Code} {T : State} {H : Heap} {locs : List Loc} {cells slots : Nat}
abbrev vx_CSW (R : Room) (s : State) (args : Array Value) (own : String) (index : Nat) (y : MethodName) (bytes : ByteArray) (maxL : Nat) (ret : Option FieldType) (hh : List (Nat × Nat × Nat × Nat)) (ws : List Cond) (rm : Room) (mc ms n : Nat) : Prop :=
  (rm.cells = mc ∧ rm.slots = ms ∧ rm.frames + 1 ≤ R.frames ∧ 8 + (maxL + 11) + rm.locals ≤ R.locals ∧ (∀ w ∈ ws, ∀ (a' : Array Value) (U : State), s.WarmedH U.vm → w.before a' U = true) ∧ Cond.codeWith y bytes maxL ret hh ∈ ws) ∧
  (Cond.codeWith y bytes maxL ret hh).before args s = true ∧ (Cond.initialized y.cls).before args s = true ∧ (y.cls ≠ "java/lang/invoke/MethodHandle" ∧ y.cls ≠ "java/lang/invoke/VarHandle") ∧
  (∀ sig, parseMethodDescriptor y.desc = some sig → n = sig.parameters.length) ∧ (Cond.methodLink own index y).before args s = true ∧ (Cond.static y).before args s = true
theorem vx_cwSW {own : String} {index maxL mc ms : Nat} {y : MethodName} {bytes : ByteArray} {ret : Option FieldType} {hh : List (Nat × Nat × Nat × Nat)} {Ts ws ws' : List Cond} {rm : Room} (n : Nat) (ht : ∀ w ∈ Ts, w.before args s = true) (hT : GoodIn Ts (va_wsS own index y ws)) (hw : ws = Cond.codeWith y bytes maxL ret hh :: ws') (hrc : rm.cells = mc) (hrs : rm.slots = ms)
    (hd : y.cls ≠ "java/lang/invoke/MethodHandle" ∧ y.cls ≠ "java/lang/invoke/VarHandle" ∧ (parseMethodDescriptor y.desc).map (fun d => d.parameters.length) = some n) (hR : rm.frames + 1 ≤ R.frames ∧ 8 + (maxL + 11) + rm.locals ≤ R.locals) :
    vx_CSW R s args own index y bytes maxL ret hh ws rm mc ms n := by
  have ok : ∀ w ∈ va_wsS own index y ws, w.before args s = true := fun w h => ht w (hT w h).1
  have hG : GoodIn Ts ws := fun w h => hT w (by unfold va_wsS; exact List.mem_append_right _ h)
  have hc : Cond.codeWith y bytes maxL ret hh ∈ ws := by rw [hw]; exact List.mem_cons_self
  refine ⟨⟨hrc, hrs, hR.1, hR.2, pay_in ht hG, hc⟩, ht _ (hG _ hc).1, ok _ (by simp [va_wsS]), ⟨hd.1, hd.2.1⟩, fun sig h => ?_, ok _ (by simp [va_wsS]), ok _ (by simp [va_wsS])⟩
  have h2 := hd.2.2
  rw [h] at h2
  exact (Option.some.inj h2).symm
theorem vx_callSW (X : Stand p l e R s m args below meth c T locs cells slots) (hexec : p.tables.exec = Jvm.exec) {own : String} {index : Nat} {y : MethodName} {bytes : ByteArray} {maxL : Nat} {ret : Option FieldType} {hh : List (Nat × Nat × Nat × Nat)}
    (hown : s.vm.findClass own = some m.cls) (hlink : (Cond.methodLink own index y).before args s = true) (hstat : (Cond.static y).before args s = true) (hinit : (Cond.initialized y.cls).before args s = true)
    (hcode : (Cond.codeWith y bytes maxL ret hh).before args s = true) (hy : y.cls ≠ "java/lang/invoke/MethodHandle" ∧ y.cls ≠ "java/lang/invoke/VarHandle")
    {W9 : Nat} {Pre : Pt → Array Value → Prop} {Post : Pt → Array Value → Option Value → Pt → Prop} (hK : Back l R p e below s args y 3 W9 Pre Post)
    {g : JFrame} (hg : g.method = m) (hsize : g.locals.size = c.maxLocals) {argsL rest : List Value} (hlen : ∀ sig, parseMethodDescriptor y.desc = some sig → argsL.length = sig.parameters.length)
    (hstack : g.stack = argsL.reverse ++ rest) (hW : 2 * g.monitorRoom + (rest.map fun v => v.category).sum ≤ W9) (hdg : decode c.code g.pc = .ok (.invokestatic index, 3))
    (hpre : ∀ vm₁, s.WarmedH vm₁ → Pre ⟨T.setVm vm₁, locs, cells, slots⟩ argsL.toArray) :
    ∃ (v : Option Value) (vm₁ : Vm) (B : Pt), s.WarmedH vm₁ ∧ Stand p l e R s m args below meth c B.U B.locs B.cells B.slots ∧ Post ⟨T.setVm vm₁, locs, cells, slots⟩ argsL.toArray v B ∧
      ∀ target, Steps p.tables e below (B.U.setTop { g with pc := g.pc + 3, stack := v.toList ++ rest }) target → Steps p.tables e below (T.setTop g) target := by
  obtain ⟨mk, methM, cM, hnamed, hmethM, -, -, -, -, -, -, hsigM⟩ := Cond.codeWith_spec hcode
  have hstatic : methM.isStatic = true := Cond.static_spec hnamed hmethM hstat
  obtain ⟨kP, hkP, -⟩ := className_of_methodNamed hnamed
  have hinitP : kP.init = .initialized := Cond.initialized_spec (findClass_of_methodNamed hnamed) hkP hinit
  obtain ⟨vm₁, X₁, hstep₁⟩ := X.invokestatic hexec hown hlink hnamed hmethM hstatic hkP hinitP hy (g := g) hg (argsL := argsL) (rest := rest) (hlen _ hsigM) hstack hdg
  obtain ⟨v, B, X', hpost, hsteps⟩ := hK m meth c ⟨T.setVm vm₁, locs, cells, slots⟩ { g with stack := rest } (.invokestatic index) mk argsL.toArray X₁ hg hsize hdg hW (X₁.named hnamed) (hpre vm₁ X₁.warmed)
  exact ⟨v, vm₁, B, X₁.warmed, X', hpost, fun target h => hstep₁ _ fun acts => by rw [doInvoke_state]; exact hsteps.trans h⟩
theorem vx_runSW {y : MethodName} {bytes cc : ByteArray} {maxL nL mc ms n index : Nat} {ret : Option FieldType} {hh : List (Nat × Nat × Nat × Nat)} {ws : List Cond} {rm : Room} {Pc : Array Value → State → Prop} {Qc : Array Value → State → Outcome → State → Prop} {free : Addr → Prop} {Ts : List Cond} {own : String} {As rest : List Value} {g : JFrame}
    (S : CallFix p m c cc nL s args Ts own) (hM : Met l y ws rm Pc Qc mc ms free) (cw : vx_CSW R s args own index y bytes maxL ret hh ws rm mc ms n) (hp : PreS s H Pc As)
    (hg : g.method = m) (hn : As.length = n) (hsize : g.locals.size = nL) (hstack : g.stack = As.reverse ++ rest) (hW : 2 * g.monitorRoom + (rest.map fun v => v.category).sum ≤ 8) (hdg : decode cc g.pc = .ok (.invokestatic index, 3)) (hf : cells + mc ≤ R.cells ∧ slots + ms ≤ R.slots) :
    va_Run p l e R s m args below meth c H locs cells slots mc ms g rest (Qc As.toArray) (free) := by
  obtain ⟨⟨hrc, hrs, hfr, hlo, hws, hcw⟩, hcode, hini, hy, hlen, hl, hstt⟩ := cw
  have hK : Back l R p e below s args y 3 8 (PreOf R mc ms Pc) (PostOf Qc mc ms free) := va_backW (hh := hh) (bytes := bytes) (maxL := maxL) (ret := ret) hM hp.1 hrc hrs hfr hlo hws hcw (fun a' U hW => word_at hW (Or.inl (by first | rfl | simp [Cond.onTables, Cond.keeps, Cond.steady])) hini)
  obtain ⟨hx, hb, hml, ho, -⟩ := S
  intro T hT X
  obtain ⟨v, vm₁, ⟨U', l2, c2, s2⟩, hW₁, X', ⟨g', mk, t, L, e1, e2, hq, h1, hL, h2, h3⟩, st⟩ := vx_callSW X hx (hh := hh) (bytes := bytes) (maxL := maxL) (ret := ret) ho hl hstt hini hcode hy hK hg (hsize.trans hml.symm) (argsL := As) (rest := rest) (fun sig h => hn.trans (hlen sig h)) hstack hW (by rw [hb]; exact hdg)
    (fun vm₁ hW₁ => ⟨hf.1, hf.2, hp.2 (T.setVm vm₁) hT hW₁⟩)
  dsimp only [Pt.U, Pt.locs, Pt.cells, Pt.slots] at X' e1 e2 h1 h2 h3 st
  subst h1; subst h2; subst h3
  exact ⟨v, (T.setVm vm₁).calling g' mk As.toArray, t, U', L, hT, X', hL, e1, e2, hq, st⟩
/-- not caught here, past rows that name other classes: it goes on to the caller -/
theorem vx_outP {p : Program} {l : Launch} {e : Env} {R : Room} {s : State} {m : MethodId} {args : Array Value} {below : List Frame} {meth : Method} {c : Code} {H : Heap} {locs : List Loc} {cells slots : Nat} {free : Addr → Prop} {ls : Array Slot} {rest : List Value} {Qc : Array Value → State → Outcome → State → Prop} {XC : String → State → State → Prop}
    {pc : Nat} {own E : String} {ce : Cell} {q : Addr} {mc ms : Nat} (hown : s.vm.findClass own = some m.cls) (hlocks : meth.locks = false)
    (hpass : ∀ z ∈ c.exceptionTable.toList, covers z pc = false ∨ (z.catchType ≠ 0 ∧ ∃ nm : String, (Cond.classLink own z.catchType nm).before args s = true ∧ va_Nc E nm s)) (hcell : H[q]? = some ce) (hv : ce.vm = .none) (hcl : s.vm.findClass E = some ce.cls)
    (hx : ∀ t : State, t.heap = H → s.vm.Alike t.vm → XC E s t) (hf : ∀ z ∈ locs, free z.base) (hc : cells ≤ mc) (hs : slots ≤ ms) :
    vx_W p l e R s m args below meth c H locs cells slots (vx_MQ below Qc XC args s mc ms free) (F0 m pc ls rest) q := by
  intro T hT X
  have hpl : e.platform.magicAccessors = ({} : Platform).magicAccessors := by rw [X.admits.platform]
  obtain ⟨vm', hW', X', st⟩ := X.outThrough hlocks q (g := F0 m pc ls rest) rfl rfl rfl (cell := ce) (by rw [hT]; exact hcell) (by rw [hv]; rfl)
    (by obtain ⟨k9, h9, -⟩ := Vm.findClass_spec hcl; exact ⟨k9, h9⟩) (fun z hz => by
      rcases hpass z hz with h | ⟨hz0, nm, hl1, hn1⟩
      · exact Or.inl h
      · obtain ⟨c6, hc6, hcl6⟩ := Cond.classLink_spec hown hl1 e.platform hpl
        obtain ⟨a8, b8, h1, h2, h3⟩ := hn1
        cases Option.some.inj (h1.symm.trans hcl)
        cases Option.some.inj (h2.symm.trans hc6)
        exact Or.inr ⟨hz0, _, hcl6, h3⟩)
  obtain ⟨g₀, hfr⟩ := X'.frames_eq
  have hcell9 : ((T.setVm vm').setFrames (.throwing q :: below)).heap[q]? = some ce := by
    show T.heap[q]? = some ce
    rw [hT]; exact hcell
  have hend : Ended ((T.setVm vm').setFrames (.throwing q :: below)) below (.threw q) := State.frames_setFrames _ (State.cur_lt_of_frames hfr)
  refine ⟨(T.setVm vm').setFrames (.throwing q :: below), ?_, .threw q, X'.here.running, hend, Or.inr ⟨q, rfl, E, ce, locs, hx _ hT (X'.ends _).1.alike, hcell9, hv, hcl, (X'.ends _).1, (X'.ends _).2.mono hc hs, hf⟩⟩
  rw [X.pushThrowing_eq]
  exact st
/-- a thing of a world lies in the heap -/
theorem vx_lt {D : va_G} {cl : List vw_C} {ws : va_W} {H1 : Heap} (h : va_P D cl ws H1) {k : Nat} {q : Nat × va_E} (hk : ws[k]? = some q) : q.1 < H1.size := (h k q hk).lt
end VXS
/-! ===== END ===== -/
/-! ===== BEGIN methods with a table of their own: called by a name, returning or throwing ===== -/
section VXH
/-! vx_backW, vx_callVX, vx_callSX, vx_callVW, vx_runVW, vx_runVX, vx_runSX, vx_ofWH follow the same proofs as their sisters above (Free/Laws.lean, Shelf42/LK1.lean); vx_outP calls Shelf42/NT130.lean (outThrough). -/
section
variable {l : Launch} {R : Room} {p : Program} {e : Env} {below : List Frame} {s : State} {sargs : Array Value} {y : MethodName} {len W9 : Nat}
theorem vx_backW {ws : List Cond} {rm : Room} {Pc : Array Value → State → Prop} {Qc : Array Value → State → Outcome → State → Prop} {XC : String → State → State → Prop} {mc ms : Nat} {free : Addr → Prop} {bytes : ByteArray} {maxL : Nat} {ret : Option FieldType} {hh : List (Nat × Nat × Nat × Nat)}
    (hM : vx_Met l y ws rm Pc Qc XC mc ms free) (hblind : FrameBlind Pc) (hrc : rm.cells = mc) (hrs : rm.slots = ms)
    (hframes : rm.frames + 1 ≤ R.frames) (hlocals : W9 + (maxL + 11) + rm.locals ≤ R.locals)
    (hws : ∀ w ∈ ws, ∀ a' U, s.WarmedH U.vm → w.before a' U = true) (hcode : Cond.codeWith y bytes maxL ret hh ∈ ws) (hinit : ∀ a' U, s.WarmedH U.vm → (Cond.initialized y.cls).before a' U = true) :
    vx_Back l R p e below s sargs y len W9 (PreOf R mc ms Pc) (PostOf Qc mc ms free) (vx_Post XC mc ms free) := by
  intro m meth c A g ig mk a X hg hsize hdg hW hn hp
  have h1 : (headSpec ws rm).pre.before a A.U = true := atoms_intro fun w hw => hws w hw _ _ X.warmed
  have h2 : (Cond.codeWith y bytes maxL ret hh).before a A.U = true := hws _ hcode _ _ X.warmed
  have h3 : (Cond.initialized y.cls).before a A.U = true := hinit _ _ X.warmed
  have h4 : A.cells + (headSpec ws rm).room.cells ≤ R.cells := by rw [show (headSpec ws rm).room.cells = mc from hrc]; exact hp.1
  have h5 : A.slots + (headSpec ws rm).room.slots ≤ R.slots := by rw [show (headSpec ws rm).room.slots = ms from hrs]; exact hp.2.1
  have hPc : Pc a (A.U.calling g mk a) := hblind _ _ _ _ hp.2.2
  obtain ⟨U, Ls, c0, s0⟩ := A
  dsimp only [Pt.U, Pt.locs, Pt.cells, Pt.slots] at h1 h2 h3 h4 h5 X hn hPc ⊢
  obtain ⟨m9, methY, cY, hn9, hmY, hcY, -, hlY, -⟩ := Cond.codeWith_spec h2
  cases Option.some.inj (hn9.symm.trans hn)
  obtain ⟨kY, hkY, -⟩ := className_of_methodNamed hn
  have hinitY : kY.init = .initialized := Cond.initialized_spec (findClass_of_methodNamed hn) hkY h3
  have h : At U g.method c below := by rw [hg]; exact X.here
  have hlocals9 : W9 + (maxL + 11) + (headSpec ws rm).room.locals ≤ R.locals := hlocals
  have happ : (headSpec ws rm).appliesLoose y e.platform (U.calling g mk a) = true :=
    Spec.appliesLoose_calling (g := g) h hdg hn hkY hinitY
      (X.room_calling (g := g) (R' := (headSpec ws rm).room) hsize hmY hcY hframes (by rw [hlY]; omega) h4 h5) h1
  obtain ⟨mid, hmid⟩ := h.above
  have hfr : (U.setTop g).frames = (.java g :: mid) ++ below := by rw [State.frames_setTop' g h.top, hmid]; rfl
  obtain ⟨o, s₂, hsteps, -, hend, hq⟩ := Steps.callFree hM p X.admits X.cas X.clock (acts := []) hfr happ hPc trivial
  have hq' : vx_Q Qc XC mc ms free a (U.calling g mk a) o s₂ := hq
  rw [State.frames_setTop' g h.top] at hend
  obtain ⟨g₀, hg0⟩ := Option.isSome_iff_exists.mp h.top
  obtain ⟨r, hr⟩ := State.topJava?_eq_some.mp hg0
  have hr' : (({ U with heap := s₂.heap, slotsUsed := s₂.slotsUsed } : State).setVm s₂.vm).frames = .java g₀ :: r := hr
  rcases hq' with ⟨hqc, L, hfe, hL⟩ | ⟨q, rfl, E, ce, L, hx, hce, hcv, hcl, hW₂, hsm, hL⟩
  · obtain ⟨⟨v, rfl⟩, hW₂, e2, q2, q3, q4, q5, q6⟩ := id hfe
    have e3 : s₂ = ({ (U.calling g mk a).setFrames s₂.frames with heap := s₂.heap, slotsUsed := s₂.slotsUsed } : State).setVm s₂.vm := by
      have : s₂ = ({ s₂ with vm := (U.calling g mk a).vm } : State).setVm s₂.vm := rfl
      rw [e2] at this
      exact this
    obtain ⟨c₂, i₂, len₂, hc₂, hd₂, hf₂⟩ := hend
    have hW' : U.WarmedH s₂.vm := hW₂
    have hcc : c₂ = c := by
      have h1 : s₂.code? g.method = U.code? g.method := by
        rw [State.code?_eq, State.code?_eq, hW'.alike.method?]
      exact Option.some.inj (hc₂.symm.trans (h1.trans h.code))
    subst hcc
    have hlen : len₂ = len := by rw [hdg] at hd₂; cases hd₂; rfl
    subst hlen
    have hs₂ : s₂ = (({ U with heap := s₂.heap, slotsUsed := s₂.slotsUsed } : State).setVm s₂.vm).setTop { g with pc := g.pc + len₂, stack := v.toList ++ g.stack } := by
      refine e3.trans ?_
      rw [hf₂, State.calling_eq h.top, State.setFrames_setFrames, State.setTop_of_frames _ hr', hr]
      rfl
    have hsame : U.sameButNew ({ U with heap := s₂.heap, slotsUsed := s₂.slotsUsed } : State) L mc ms := by
      refine ⟨?_, q2, q3, q4, q5, q6⟩
      obtain ⟨t, ht, -⟩ := State.frames_cons hr
      show ({ U with heap := s₂.heap, slotsUsed := s₂.slotsUsed } : State) = { U.setFrames U.frames with heap := s₂.heap, slotsUsed := s₂.slotsUsed }
      rw [State.setFrames_self ht]
    subst hg
    refine Or.inl ⟨v, ⟨(({ U with heap := s₂.heap, slotsUsed := s₂.slotsUsed } : State).setVm s₂.vm), Ls ++ L, c0 + mc, s0 + ms⟩,
      ⟨X.admits, X.cas, X.clock, X.frames, X.room, X.hears, X.method, X.code, (X.here.setHeapUsed s₂.heap s₂.slotsUsed).setVm hW'.alike, X.tail, State.WarmedH.trans X.warmed hW', X.limits, X.bytes, X.same.trans (hsame.setVm s.vm)⟩,
      ⟨g, mk, s₂, L, rfl, rfl, hqc, rfl, hL, rfl, rfl⟩, ?_⟩
    show Steps p.tables e below _ ((({ U with heap := s₂.heap, slotsUsed := s₂.slotsUsed } : State).setVm s₂.vm).setTop { g with pc := g.pc + len₂, stack := v.toList ++ g.stack })
    rw [← hs₂]
    exact hsteps
  · obtain ⟨e2, q2, q3, q4, q5, q6⟩ := id hsm
    have e3 : s₂ = ({ (U.calling g mk a).setFrames s₂.frames with heap := s₂.heap, slotsUsed := s₂.slotsUsed } : State).setVm s₂.vm := by
      have : s₂ = ({ s₂ with vm := (U.calling g mk a).vm } : State).setVm s₂.vm := rfl
      rw [e2] at this
      exact this
    have hf₂ : s₂.frames = .throwing q :: .java g :: U.frames.tail := hend
    have hW' : U.WarmedH s₂.vm := hW₂
    have hs₂ : s₂ = ((({ U with heap := s₂.heap, slotsUsed := s₂.slotsUsed } : State).setVm s₂.vm).setTop g).pushFrame (.throwing q) := by
      refine e3.trans ?_
      rw [hf₂, State.calling_eq h.top, State.setFrames_setFrames, State.pushFrame, State.frames_setTop _ hr', State.setTop_of_frames _ hr', State.setFrames_setFrames, hr]
      rfl
    have hsame : U.sameButNew ({ U with heap := s₂.heap, slotsUsed := s₂.slotsUsed } : State) L mc ms := by
      refine ⟨?_, q2, q3, q4, q5, q6⟩
      obtain ⟨t, ht, -⟩ := State.frames_cons hr
      show ({ U with heap := s₂.heap, slotsUsed := s₂.slotsUsed } : State) = { U.setFrames U.frames with heap := s₂.heap, slotsUsed := s₂.slotsUsed }
      rw [State.setFrames_self ht]
    subst hg
    refine Or.inr ⟨q, ⟨(({ U with heap := s₂.heap, slotsUsed := s₂.slotsUsed } : State).setVm s₂.vm), Ls ++ L, c0 + mc, s0 + ms⟩,
      ⟨X.admits, X.cas, X.clock, X.frames, X.room, X.hears, X.method, X.code, (X.here.setHeapUsed s₂.heap s₂.slotsUsed).setVm hW'.alike, X.tail, State.WarmedH.trans X.warmed hW', X.limits, X.bytes, X.same.trans (hsame.setVm s.vm)⟩,
      ⟨g, mk, s₂, L, E, ce, rfl, rfl, hx, hce, hcv, hcl, rfl, hL, rfl, rfl⟩, ?_⟩
    show Steps p.tables e below _ (((({ U with heap := s₂.heap, slotsUsed := s₂.slotsUsed } : State).setVm s₂.vm).setTop g).pushFrame (.throwing q))
    rw [← hs₂]
    exact hsteps
end
variable {p : Program} {l : Launch} {e : Env} {R : Room} {s : State} {m : MethodId} {args : Array Value} {below : List Frame} {meth : Method} {c : Code} {T : State} {H : Heap} {locs : List Loc} {cells slots : Nat}
theorem vx_callVX (X : Stand p l e R s m args below meth c T locs cells slots) (hexec : p.tables.exec = Jvm.exec) {own C : String} {index : Nat} {y : MethodName} {bytes : ByteArray} {maxL : Nat} {ret : Option FieldType} {hh : List (Nat × Nat × Nat × Nat)}
    (hown : s.vm.findClass own = some m.cls) (hlink : (Cond.methodLink own index y).before args s = true) (hinst : (Cond.instanceMethod y).before args s = true) (hsel : (Cond.selects C y y).before args s = true)
    (hcode : (Cond.codeWith y bytes maxL ret hh).before args s = true) (hy : y.cls ≠ "java/lang/invoke/MethodHandle" ∧ y.cls ≠ "java/lang/invoke/VarHandle")
    {W9 : Nat} {Pre : Pt → Array Value → Prop} {Post : Pt → Array Value → Option Value → Pt → Prop} {PostX : Pt → Array Value → Addr → Pt → Prop} (hK : vx_Back l R p e below s args y 3 W9 Pre Post PostX)
    {b : Addr} {cellB : Cell} (hcell : T.heap[b]? = some cellB) (hobj : cellB.vm.isStatics = false) (hcls : s.vm.findClass C = some cellB.cls)
    {g : JFrame} (hg : g.method = m) (hsize : g.locals.size = c.maxLocals) {argsL rest : List Value} (hlen : ∀ sig, parseMethodDescriptor y.desc = some sig → argsL.length = sig.parameters.length)
    (hstack : g.stack = argsL.reverse ++ .ref b :: rest) (hW : 2 * g.monitorRoom + (rest.map fun v => v.category).sum ≤ W9) (hdg : decode c.code g.pc = .ok (.invokevirtual index, 3))
    (hpre : ∀ vm₁, s.WarmedH vm₁ → Pre ⟨T.setVm vm₁, locs, cells, slots⟩ (Value.ref b :: argsL).toArray) :
    (∃ (v : Option Value) (vm₁ : Vm) (B : Pt), s.WarmedH vm₁ ∧ Stand p l e R s m args below meth c B.U B.locs B.cells B.slots ∧ Post ⟨T.setVm vm₁, locs, cells, slots⟩ (Value.ref b :: argsL).toArray v B ∧
      ∀ target, Steps p.tables e below (B.U.setTop { g with pc := g.pc + 3, stack := v.toList ++ rest }) target → Steps p.tables e below (T.setTop g) target) ∨
    (∃ (q : Addr) (vm₁ : Vm) (B : Pt), s.WarmedH vm₁ ∧ Stand p l e R s m args below meth c B.U B.locs B.cells B.slots ∧ PostX ⟨T.setVm vm₁, locs, cells, slots⟩ (Value.ref b :: argsL).toArray q B ∧
      Steps p.tables e below (T.setTop g) ((B.U.setTop { g with stack := rest }).pushFrame (.throwing q))) := by
  obtain ⟨mk, methM, hnamed, hmethM, hstM, habM⟩ := Cond.instanceMethod_spec hinst
  obtain ⟨m8, methM', cM, hn8, hmethM', -, -, -, -, -, -, hsigM⟩ := Cond.codeWith_spec hcode
  cases Option.some.inj (hn8.symm.trans hnamed)
  cases hmethM.symm.trans hmethM'
  obtain ⟨c2, r2, m2, q1, q2, q3, q4, kP, hkP, hkPi⟩ := Cond.selects_spec hsel
  cases hcls.symm.trans q1
  cases (State.methodFound?_of_named hnamed hy).symm.trans q2
  cases hnamed.symm.trans q3
  have hselP : selectMethod e.platform s.vm cellB.cls mk = .method mk := by rw [Launch.admits_selectMethod X.admits]; exact q4
  obtain ⟨vm₁, X₁, hstep₁⟩ := X.invokevirtual hexec hown hlink hnamed hmethM hstM hkP hkPi hy (a := b) (cell := cellB) hcell
    (fun z h => by rw [h] at hobj; cases hobj) hselP hmethM habM hkP hkPi (g := g) hg (argsL := argsL) (rest := rest) (hlen _ hsigM) hstack hdg
  rcases hK m meth c ⟨T.setVm vm₁, locs, cells, slots⟩ { g with stack := rest } (.invokevirtual index) mk (Value.ref b :: argsL).toArray X₁ hg hsize hdg hW (X₁.named hnamed) (hpre vm₁ X₁.warmed) with ⟨v, B, X', hpost, hsteps⟩ | ⟨q, B, X', hpost, hsteps⟩
  · exact Or.inl ⟨v, vm₁, B, X₁.warmed, X', hpost, fun target h => hstep₁ _ fun acts => by rw [doInvoke_state]; exact hsteps.trans h⟩
  · exact Or.inr ⟨q, vm₁, B, X₁.warmed, X', hpost, hstep₁ _ fun acts => by rw [doInvoke_state]; exact hsteps⟩
theorem vx_callSX (X : Stand p l e R s m args below meth c T locs cells slots) (hexec : p.tables.exec = Jvm.exec) {own : String} {index : Nat} {y : MethodName} {bytes : ByteArray} {maxL : Nat} {ret : Option FieldType} {hh : List (Nat × Nat × Nat × Nat)}
    (hown : s.vm.findClass own = some m.cls) (hlink : (Cond.methodLink own index y).before args s = true) (hstat : (Cond.static y).before args s = true) (hinit : (Cond.initialized y.cls).before args s = true)
    (hcode : (Cond.codeWith y bytes maxL ret hh).before args s = true) (hy : y.cls ≠ "java/lang/invoke/MethodHandle" ∧ y.cls ≠ "java/lang/invoke/VarHandle")
    {W9 : Nat} {Pre : Pt → Array Value → Prop} {Post : Pt → Array Value → Option Value → Pt → Prop} {PostX : Pt → Array Value → Addr → Pt → Prop} (hK : vx_Back l R p e below s args y 3 W9 Pre Post PostX)
    {g : JFrame} (hg : g.method = m) (hsize : g.locals.size = c.maxLocals) {argsL rest : List Value} (hlen : ∀ sig, parseMethodDescriptor y.desc = some sig → argsL.length = sig.parameters.length)
    (hstack : g.stack = argsL.reverse ++ rest) (hW : 2 * g.monitorRoom + (rest.map fun v => v.category).sum ≤ W9) (hdg : decode c.code g.pc = .ok (.invokestatic index, 3))
    (hpre : ∀ vm₁, s.WarmedH vm₁ → Pre ⟨T.setVm vm₁, locs, cells, slots⟩ argsL.toArray) :
    (∃ (v : Option Value) (vm₁ : Vm) (B : Pt), s.WarmedH vm₁ ∧ Stand p l e R s m args below meth c B.U B.locs B.cells B.slots ∧ Post ⟨T.setVm vm₁, locs, cells, slots⟩ argsL.toArray v B ∧
      ∀ target, Steps p.tables e below (B.U.setTop { g with pc := g.pc + 3, stack := v.toList ++ rest }) target → Steps p.tables e below (T.setTop g) target) ∨
    (∃ (q : Addr) (vm₁ : Vm) (B : Pt), s.WarmedH vm₁ ∧ Stand p l e R s m args below meth c B.U B.locs B.cells B.slots ∧ PostX ⟨T.setVm vm₁, locs, cells, slots⟩ argsL.toArray q B ∧
      Steps p.tables e below (T.setTop g) ((B.U.setTop { g with stack := rest }).pushFrame (.throwing q))) := by
  obtain ⟨mk, methM, cM, hnamed, hmethM, -, -, -, -, -, -, hsigM⟩ := Cond.codeWith_spec hcode
  have hstatic : methM.isStatic = true := Cond.static_spec hnamed hmethM hstat
  obtain ⟨kP, hkP, -⟩ := className_of_methodNamed hnamed
  have hinitP : kP.init = .initialized := Cond.initialized_spec (findClass_of_methodNamed hnamed) hkP hinit
  obtain ⟨vm₁, X₁, hstep₁⟩ := X.invokestatic hexec hown hlink hnamed hmethM hstatic hkP hinitP hy (g := g) hg (argsL := argsL) (rest := rest) (hlen _ hsigM) hstack hdg
  rcases hK m meth c ⟨T.setVm vm₁, locs, cells, slots⟩ { g with stack := rest } (.invokestatic index) mk argsL.toArray X₁ hg hsize hdg hW (X₁.named hnamed) (hpre vm₁ X₁.warmed) with ⟨v, B, X', hpost, hsteps⟩ | ⟨q, B, X', hpost, hsteps⟩
  · exact Or.inl ⟨v, vm₁, B, X₁.warmed, X', hpost, fun target h => hstep₁ _ fun acts => by rw [doInvoke_state]; exact hsteps.trans h⟩
  · exact Or.inr ⟨q, vm₁, B, X₁.warmed, X', hpost, hstep₁ _ fun acts => by rw [doInvoke_state]; exact hsteps⟩
theorem vx_callVW (X : Stand p l e R s m args below meth c T locs cells slots) (hexec : p.tables.exec = Jvm.exec) {own C : String} {index : Nat} {y : MethodName} {bytes : ByteArray} {maxL : Nat} {ret : Option FieldType} {hh : List (Nat × Nat × Nat × Nat)}
    (hown : s.vm.findClass own = some m.cls) (hlink : (Cond.methodLink own index y).before args s = true) (hinst : (Cond.instanceMethod y).before args s = true) (hsel : (Cond.selects C y y).before args s = true)
    (hcode : (Cond.codeWith y bytes maxL ret hh).before args s = true) (hy : y.cls ≠ "java/lang/invoke/MethodHandle" ∧ y.cls ≠ "java/lang/invoke/VarHandle")
    {W9 : Nat} {Pre : Pt → Array Value → Prop} {Post : Pt → Array Value → Option Value → Pt → Prop} (hK : Back l R p e below s args y 3 W9 Pre Post)
    {b : Addr} {cellB : Cell} (hcell : T.heap[b]? = some cellB) (hobj : cellB.vm.isStatics = false) (hcls : s.vm.findClass C = some cellB.cls)
    {g : JFrame} (hg : g.method = m) (hsize : g.locals.size = c.maxLocals) {argsL rest : List Value} (hlen : ∀ sig, parseMethodDescriptor y.desc = some sig → argsL.length = sig.parameters.length)
    (hstack : g.stack = argsL.reverse ++ .ref b :: rest) (hW : 2 * g.monitorRoom + (rest.map fun v => v.category).sum ≤ W9) (hdg : decode c.code g.pc = .ok (.invokevirtual index, 3))
    (hpre : ∀ vm₁, s.WarmedH vm₁ → Pre ⟨T.setVm vm₁, locs, cells, slots⟩ (Value.ref b :: argsL).toArray) :
    ∃ (v : Option Value) (vm₁ : Vm) (B : Pt), s.WarmedH vm₁ ∧ Stand p l e R s m args below meth c B.U B.locs B.cells B.slots ∧ Post ⟨T.setVm vm₁, locs, cells, slots⟩ (Value.ref b :: argsL).toArray v B ∧
      ∀ target, Steps p.tables e below (B.U.setTop { g with pc := g.pc + 3, stack := v.toList ++ rest }) target → Steps p.tables e below (T.setTop g) target := by
  obtain ⟨mk, methM, hnamed, hmethM, hstM, habM⟩ := Cond.instanceMethod_spec hinst
  obtain ⟨m8, methM', cM, hn8, hmethM', -, -, -, -, -, -, hsigM⟩ := Cond.codeWith_spec hcode
  cases Option.some.inj (hn8.symm.trans hnamed)
  cases hmethM.symm.trans hmethM'
  obtain ⟨c2, r2, m2, q1, q2, q3, q4, kP, hkP, hkPi⟩ := Cond.selects_spec hsel
  cases hcls.symm.trans q1
  cases (State.methodFound?_of_named hnamed hy).symm.trans q2
  cases hnamed.symm.trans q3
  have hselP : selectMethod e.platform s.vm cellB.cls mk = .method mk := by rw [Launch.admits_selectMethod X.admits]; exact q4
  obtain ⟨vm₁, X₁, hstep₁⟩ := X.invokevirtual hexec hown hlink hnamed hmethM hstM hkP hkPi hy (a := b) (cell := cellB) hcell
    (fun z h => by rw [h] at hobj; cases hobj) hselP hmethM habM hkP hkPi (g := g) hg (argsL := argsL) (rest := rest) (hlen _ hsigM) hstack hdg
  obtain ⟨v, B, X', hpost, hsteps⟩ := hK m meth c ⟨T.setVm vm₁, locs, cells, slots⟩ { g with stack := rest } (.invokevirtual index) mk (Value.ref b :: argsL).toArray X₁ hg hsize hdg hW (X₁.named hnamed) (hpre vm₁ X₁.warmed)
  exact ⟨v, vm₁, B, X₁.warmed, X', hpost, fun target h => hstep₁ _ fun acts => by rw [doInvoke_state]; exact hsteps.trans h⟩
abbrev vx_CVW (R : Room) (s : State) (args : Array Value) (own C : String) (index : Nat) (y : MethodName) (bytes : ByteArray) (maxL : Nat) (ret : Option FieldType) (hh : List (Nat × Nat × Nat × Nat)) (ws : List Cond) (rm : Room) (mc ms n : Nat) : Prop :=
  (rm.cells = mc ∧ rm.slots = ms ∧ rm.frames + 1 ≤ R.frames ∧ 8 + (maxL + 11) + rm.locals ≤ R.locals ∧ (∀ w ∈ ws, ∀ (a' : Array Value) (U : State), s.WarmedH U.vm → w.before a' U = true) ∧ Cond.codeWith y bytes maxL ret hh ∈ ws) ∧
  (Cond.codeWith y bytes maxL ret hh).before args s = true ∧ (Cond.initialized y.cls).before args s = true ∧ (y.cls ≠ "java/lang/invoke/MethodHandle" ∧ y.cls ≠ "java/lang/invoke/VarHandle") ∧
  (∀ sig, parseMethodDescriptor y.desc = some sig → n = sig.parameters.length) ∧ (Cond.methodLink own index y).before args s = true ∧ (Cond.instanceMethod y).before args s = true ∧ (Cond.selects C y y).before args s = true
theorem vx_cwVW {own C : String} {index maxL mc ms : Nat} {y : MethodName} {bytes : ByteArray} {ret : Option FieldType} {hh : List (Nat × Nat × Nat × Nat)} {Ts ws ws' : List Cond} {rm : Room} (n : Nat) (ht : ∀ w ∈ Ts, w.before args s = true) (hT : GoodIn Ts (wsV own index C y ws)) (hw : ws = Cond.codeWith y bytes maxL ret hh :: ws') (hrc : rm.cells = mc) (hrs : rm.slots = ms)
    (hd : y.cls = C ∧ y.cls ≠ "java/lang/invoke/MethodHandle" ∧ y.cls ≠ "java/lang/invoke/VarHandle" ∧ (parseMethodDescriptor y.desc).map (fun d => d.parameters.length) = some n) (hR : rm.frames + 1 ≤ R.frames ∧ 8 + (maxL + 11) + rm.locals ≤ R.locals) :
    vx_CVW R s args own C index y bytes maxL ret hh ws rm mc ms n := by
  obtain ⟨hC, hd⟩ := hd
  subst hC
  have ok : ∀ w ∈ wsV own index y.cls y ws, w.before args s = true := fun w h => ht w (hT w h).1
  have hG : GoodIn Ts ws := fun w h => hT w (by unfold wsV; exact List.mem_append_right _ h)
  have hc : Cond.codeWith y bytes maxL ret hh ∈ ws := by rw [hw]; exact List.mem_cons_self
  refine ⟨⟨hrc, hrs, hR.1, hR.2, pay_in ht hG, hc⟩, ht _ (hG _ hc).1, ok _ (by simp [wsV]), ⟨hd.1, hd.2.1⟩, fun sig h => ?_, ok _ (by simp [wsV]), ok _ (by simp [wsV]), ok _ (by simp [wsV])⟩
  have h2 := hd.2.2
  rw [h] at h2
  exact (Option.some.inj h2).symm
theorem vx_runVW {y : MethodName} {bytes cc : ByteArray} {maxL nL mc ms n index : Nat} {ret : Option FieldType} {hh : List (Nat × Nat × Nat × Nat)} {ws : List Cond} {rm : Room} {Pc : Array Value → State → Prop} {Qc : Array Value → State → Outcome → State → Prop} {free : Addr → Prop} {Ts : List Cond} {own C : String} {b : Addr} {As rest : List Value} {g : JFrame}
    (S : CallFix p m c cc nL s args Ts own) (hM : Met l y ws rm Pc Qc mc ms free) (cw : vx_CVW R s args own C index y bytes maxL ret hh ws rm mc ms n) (hp : PreV s H C b Pc As)
    (hg : g.method = m) (hn : As.length = n) (hsize : g.locals.size = nL) (hstack : g.stack = As.reverse ++ .ref b :: rest) (hW : 2 * g.monitorRoom + (rest.map fun v => v.category).sum ≤ 8) (hdg : decode cc g.pc = .ok (.invokevirtual index, 3)) (hf : cells + mc ≤ R.cells ∧ slots + ms ≤ R.slots) :
    va_Run p l e R s m args below meth c H locs cells slots mc ms g rest (Qc (Value.ref b :: As).toArray) free := by
  obtain ⟨⟨hrc, hrs, hfr, hlo, hws, hcw⟩, hcode, hini, hy, hlen, hl, hin, hse⟩ := cw
  have hK : Back l R p e below s args y 3 8 (PreOf R mc ms Pc) (PostOf Qc mc ms free) := va_backW (hh := hh) (bytes := bytes) (maxL := maxL) (ret := ret) hM hp.1 hrc hrs hfr hlo hws hcw (fun a' U hW => word_at hW (Or.inl (by first | rfl | simp [Cond.onTables, Cond.keeps, Cond.steady])) hini)
  obtain ⟨hx, hb, hml, ho, -⟩ := S
  obtain ⟨-, ⟨cellB, hcB, hoB, hclB⟩, hPc⟩ := hp
  intro T hT X
  obtain ⟨v, vm₁, ⟨U', l2, c2, s2⟩, hW₁, X', ⟨g', mk, t, L, e1, e2, hq, h1, hL, h2, h3⟩, st⟩ := vx_callVW X hx (C := C) (hh := hh) (bytes := bytes) (maxL := maxL) (ret := ret) ho hl hin hse hcode hy hK (by rw [hT]; exact hcB) hoB hclB hg (hsize.trans hml.symm) (argsL := As) (rest := rest) (fun sig h => hn.trans (hlen sig h)) hstack hW (by rw [hb]; exact hdg)
    (fun vm₁ hW₁ => ⟨hf.1, hf.2, hPc (T.setVm vm₁) hT hW₁⟩)
  dsimp only [Pt.U, Pt.locs, Pt.cells, Pt.slots] at X' e1 e2 h1 h2 h3 st
  subst h1; subst h2; subst h3
  exact ⟨v, (T.setVm vm₁).calling g' mk (Value.ref b :: As).toArray, t, U', L, hT, X', hL, e1, e2, hq, st⟩
section
variable {y : MethodName} {bytes cc : ByteArray} {maxL nL mc ms n index : Nat} {ret : Option FieldType} {ws : List Cond} {rm : Room} {Pc : Array Value → State → Prop} {Qc : Array Value → State → Outcome → State → Prop} {XC : String → State → State → Prop} {free : Addr → Prop} {Ts : List Cond} {own C : String} {b : Addr} {As rest : List Value} {g : JFrame}
theorem vx_runVX {hh : List (Nat × Nat × Nat × Nat)} (S : CallFix p m c cc nL s args Ts own) (hM : vx_Met l y ws rm Pc Qc XC mc ms free) (cw : vx_CVW R s args own C index y bytes maxL ret hh ws rm mc ms n) (hp : PreV s H C b Pc As)
    (hg : g.method = m) (hn : As.length = n) (hsize : g.locals.size = nL) (hstack : g.stack = As.reverse ++ .ref b :: rest) (hW : 2 * g.monitorRoom + (rest.map fun v => v.category).sum ≤ 8) (hdg : decode cc g.pc = .ok (.invokevirtual index, 3)) (hf : cells + mc ≤ R.cells ∧ slots + ms ≤ R.slots) :
    vx_Run p l e R s m args below meth c H locs cells slots mc ms g rest (Qc (Value.ref b :: As).toArray) XC free := by
  obtain ⟨⟨hrc, hrs, hfr, hlo, hws, hcw⟩, hcode, hini, hy, hlen, hl, hin, hse⟩ := cw
  have hK : vx_Back l R p e below s args y 3 8 (PreOf R mc ms Pc) (PostOf Qc mc ms free) (vx_Post XC mc ms free) := vx_backW (hh := hh) (bytes := bytes) (maxL := maxL) (ret := ret) hM hp.1 hrc hrs hfr hlo hws hcw (fun a' U hW => word_at hW (Or.inl (by first | rfl | simp [Cond.onTables, Cond.keeps, Cond.steady])) hini)
  obtain ⟨hx, hb, hml, ho, -⟩ := S
  obtain ⟨-, ⟨cellB, hcB, hoB, hclB⟩, hPc⟩ := hp
  intro T hT X
  rcases vx_callVX X hx (C := C) (hh := hh) (bytes := bytes) (maxL := maxL) (ret := ret) ho hl hin hse hcode hy hK (by rw [hT]; exact hcB) hoB hclB hg (hsize.trans hml.symm) (argsL := As) (rest := rest) (fun sig h => hn.trans (hlen sig h)) hstack hW (by rw [hb]; exact hdg)
    (fun vm₁ hW₁ => ⟨hf.1, hf.2, hPc (T.setVm vm₁) hT hW₁⟩) with ⟨v, vm₁, ⟨U', l2, c2, s2⟩, hW₁, X', ⟨g', mk, t, L, e1, e2, hq, h1, hL, h2, h3⟩, st⟩ | ⟨q, vm₁, ⟨U', l2, c2, s2⟩, hW₁, X', ⟨g', mk, t, L, E, ce, e1, e2, hq, hce, hcv, hcl, h1, hL, h2, h3⟩, st⟩
  · dsimp only [Pt.U, Pt.locs, Pt.cells, Pt.slots] at X' e1 e2 h1 h2 h3 st
    subst h1; subst h2; subst h3
    exact Or.inl ⟨v, (T.setVm vm₁).calling g' mk (Value.ref b :: As).toArray, t, U', L, hT, X', hL, e1, e2, hq, st⟩
  · dsimp only [Pt.U, Pt.locs, Pt.cells, Pt.slots] at X' e1 e2 h1 h2 h3 st hcl
    subst h1; subst h2; subst h3
    exact Or.inr ⟨q, (T.setVm vm₁).calling g' mk (Value.ref b :: As).toArray, t, U', L, E, ce, hT, X', hL, e1, e2, hq, hce, hcv, vx_cls hW₁ hcl, st⟩
theorem vx_runSX {hh : List (Nat × Nat × Nat × Nat)} (S : CallFix p m c cc nL s args Ts own) (hM : vx_Met l y ws rm Pc Qc XC mc ms free) (cw : vx_CSW R s args own index y bytes maxL ret hh ws rm mc ms n) (hp : PreS s H Pc As)
    (hg : g.method = m) (hn : As.length = n) (hsize : g.locals.size = nL) (hstack : g.stack = As.reverse ++ rest) (hW : 2 * g.monitorRoom + (rest.map fun v => v.category).sum ≤ 8) (hdg : decode cc g.pc = .ok (.invokestatic index, 3)) (hf : cells + mc ≤ R.cells ∧ slots + ms ≤ R.slots) :
    vx_Run p l e R s m args below meth c H locs cells slots mc ms g rest (Qc As.toArray) XC free := by
  obtain ⟨⟨hrc, hrs, hfr, hlo, hws, hcw⟩, hcode, hini, hy, hlen, hl, hstt⟩ := cw
  have hK : vx_Back l R p e below s args y 3 8 (PreOf R mc ms Pc) (PostOf Qc mc ms free) (vx_Post XC mc ms free) := vx_backW (hh := hh) (bytes := bytes) (maxL := maxL) (ret := ret) hM hp.1 hrc hrs hfr hlo hws hcw (fun a' U hW => word_at hW (Or.inl (by first | rfl | simp [Cond.onTables, Cond.keeps, Cond.steady])) hini)
  obtain ⟨hx, hb, hml, ho, -⟩ := S
  intro T hT X
  rcases vx_callSX X hx (hh := hh) (bytes := bytes) (maxL := maxL) (ret := ret) ho hl hstt hini hcode hy hK hg (hsize.trans hml.symm) (argsL := As) (rest := rest) (fun sig h => hn.trans (hlen sig h)) hstack hW (by rw [hb]; exact hdg)
    (fun vm₁ hW₁ => ⟨hf.1, hf.2, hp.2 (T.setVm vm₁) hT hW₁⟩) with ⟨v, vm₁, ⟨U', l2, c2, s2⟩, hW₁, X', ⟨g', mk, t, L, e1, e2, hq, h1, hL, h2, h3⟩, st⟩ | ⟨q, vm₁, ⟨U', l2, c2, s2⟩, hW₁, X', ⟨g', mk, t, L, E, ce, e1, e2, hq, hce, hcv, hcl, h1, hL, h2, h3⟩, st⟩
  · dsimp only [Pt.U, Pt.locs, Pt.cells, Pt.slots] at X' e1 e2 h1 h2 h3 st
    subst h1; subst h2; subst h3
    exact Or.inl ⟨v, (T.setVm vm₁).calling g' mk As.toArray, t, U', L, hT, X', hL, e1, e2, hq, st⟩
  · dsimp only [Pt.U, Pt.locs, Pt.cells, Pt.slots] at X' e1 e2 h1 h2 h3 st hcl
    subst h1; subst h2; subst h3
    exact Or.inr ⟨q, (T.setVm vm₁).calling g' mk As.toArray, t, U', L, E, ce, hT, X', hL, e1, e2, hq, hce, hcv, vx_cls hW₁ hcl, st⟩
end
end VXH
theorem vx_ofWH {l : Launch} {y : MethodName} {ws ws' : List Cond} {rm : Room} {Pc : Array Value → State → Prop} {Qc : Array Value → State → Outcome → State → Prop} {XC : String → State → State → Prop} {mc ms : Nat} {free : Addr → Prop} {cc : ByteArray} {maxL : Nat} {ret : Option FieldType} {hh : List (Nat × Nat × Nat × Nat)}
    (hy : plainName y.cls = true) (hw : ws = Cond.codeWith y cc maxL ret hh :: ws')
    (body : ∀ p e s m args below meth c s₁, BodyLoose p l y (headSpec ws rm) cc maxL ret e s m args below meth c s₁ → c.maxLocals = maxL → Pc args s →
      W p l e (headSpec ws rm).room s m args below meth c s.heap [] 0 0 (vx_MQ below Qc XC args s mc ms free) (entryFrame m args maxL)) : vx_Met l y ws rm Pc Qc XC mc ms free := by
  refine MetFree.of_bodyS (code := cc) (maxLocals := maxL) (ret := ret) hy ?_ ?_
  · intro args s m h hn
    obtain ⟨m9, meth, c, hn9, h1, h2, h3, h4, -, h5, h6, -⟩ := Cond.codeWith_spec (atoms_spec (ws := ws) h _ (by rw [hw]; exact List.mem_cons_self))
    cases hn.symm.trans hn9
    exact ⟨meth, c, h1, h2, h3, h4, h5, h6⟩
  · intro p e s m args below meth c s₁ B hml hP _
    have hh0 : s₁.heap = s.heap := by rw [B.state]; rfl
    obtain ⟨t, a1, o, b1, b2, b3⟩ := body p e s m args below meth c s₁ B hml hP s₁ hh0 (Stand.of_body B)
    exact ⟨t, o, a1, b1, b2, b3⟩
/-! ===== END ===== -/

def RX0 : String := "QuarterMaps$Bits"
def TX0 : u_T := fun k => match k with
  | _ => ("QuarterMaps$Bits", "cells", "[I", true)
def tyX0 : Nat → FieldType := fun k => match k with
  | _ => .array .int
theorem nmX0 : ∀ a, a < 1 → ∀ b, b < 1 → a ≠ b → (TX0 a).2.1 ≠ (TX0 b).2.1 := by decide +kernel
theorem tyX0_ok : ∀ k, k < 1 → parseFieldDescriptor (TX0 k).2.2.1 = some (tyX0 k) := by decide +kernel
abbrev cX0_init : ByteArray := prog_2_method_1_code
def yX0_init : MethodName := ⟨RX0, "<init>", "()V"⟩
abbrev cX0_cell : ByteArray := prog_2_method_2_code
def yX0_cell : MethodName := ⟨RX0, "cell", "(II)I"⟩
abbrev cX0_put : ByteArray := prog_2_method_3_code
def yX0_put : MethodName := ⟨RX0, "put", "(III)V"⟩
abbrev cX0_holds : ByteArray := prog_2_method_4_code
def yX0_holds : MethodName := ⟨RX0, "holds", "(II)Z"⟩
abbrev cX0_copyRow : ByteArray := prog_2_method_5_code
def yX0_copyRow : MethodName := ⟨RX0, "copyRow", "(II)V"⟩
abbrev cX0_copyCells : ByteArray := prog_2_method_6_code
def yX0_copyCells : MethodName := ⟨RX0, "copyCells", "(IIII)V"⟩
abbrev cX0_setCells : ByteArray := prog_2_method_7_code
def yX0_setCells : MethodName := ⟨RX0, "setCells", "(IIII)V"⟩
abbrev cX0_isAll : ByteArray := prog_2_method_8_code
def yX0_isAll : MethodName := ⟨RX0, "isAll", "(IIII)Z"⟩
abbrev cX0_bitAt : ByteArray := prog_2_method_9_code
def yX0_bitAt : MethodName := ⟨RX0, "bitAt", "(II)I"⟩
abbrev cX0_mask : ByteArray := prog_2_method_10_code
def yX0_mask : MethodName := ⟨RX0, "mask", "(III)I"⟩
abbrev cX0_onesIn : ByteArray := prog_2_method_11_code
def yX0_onesIn : MethodName := ⟨RX0, "onesIn", "(III)I"⟩
abbrev cX0_cover : ByteArray := prog_2_method_12_code
def yX0_cover : MethodName := ⟨RX0, "cover", "(IIII)V"⟩
abbrev cX0_invert : ByteArray := prog_2_method_13_code
def yX0_invert : MethodName := ⟨RX0, "invert", "(III)V"⟩
abbrev cX0_merge : ByteArray := prog_2_method_14_code
def yX0_merge : MethodName := ⟨RX0, "merge", "(IIII)V"⟩
abbrev cX0_mergedCell : ByteArray := prog_2_method_15_code
def yX0_mergedCell : MethodName := ⟨RX0, "mergedCell", "(III)I"⟩
abbrev cX0_slide : ByteArray := prog_2_method_16_code
def yX0_slide : MethodName := ⟨RX0, "slide", "(IIII)V"⟩
abbrev cX0_reflect : ByteArray := prog_2_method_17_code
def yX0_reflect : MethodName := ⟨RX0, "reflect", "(III)V"⟩
abbrev cX0_setBit : ByteArray := prog_2_method_18_code
def yX0_setBit : MethodName := ⟨RX0, "setBit", "(II)V"⟩
abbrev cX0_unlikeBits : ByteArray := prog_2_method_19_code
def yX0_unlikeBits : MethodName := ⟨RX0, "unlikeBits", "(IIIII)I"⟩
def RX1 : String := "QuarterMaps$Bytes"
def TX1 : u_T := fun k => match k with
  | 0 => ("QuarterMaps$Bytes", "held", "[I", true)
  | _ => ("QuarterMaps$Bytes", "length", "I", false)
def tyX1 : Nat → FieldType := fun k => match k with
  | 0 => .array .int
  | _ => .int
theorem nmX1 : ∀ a, a < 2 → ∀ b, b < 2 → a ≠ b → (TX1 a).2.1 ≠ (TX1 b).2.1 := by decide +kernel
theorem tyX1_ok : ∀ k, k < 2 → parseFieldDescriptor (TX1 k).2.2.1 = some (tyX1 k) := by decide +kernel
abbrev cX1_init : ByteArray := prog_3_method_1_code
def yX1_init : MethodName := ⟨RX1, "<init>", "(I)V"⟩
abbrev cX1_length : ByteArray := prog_3_method_2_code
def yX1_length : MethodName := ⟨RX1, "length", "()I"⟩
abbrev cX1_hasRoom : ByteArray := prog_3_method_3_code
def yX1_hasRoom : MethodName := ⟨RX1, "hasRoom", "(I)Z"⟩
abbrev cX1_get : ByteArray := prog_3_method_4_code
def yX1_get : MethodName := ⟨RX1, "get", "(I)I"⟩
abbrev cX1_add : ByteArray := prog_3_method_5_code
def yX1_add : MethodName := ⟨RX1, "add", "(I)V"⟩
abbrev cX1_addWord : ByteArray := prog_3_method_6_code
def yX1_addWord : MethodName := ⟨RX1, "addWord", "(I)V"⟩
abbrev cX1_addHex : ByteArray := prog_3_method_7_code
def yX1_addHex : MethodName := ⟨RX1, "addHex", "(I)V"⟩
abbrev cX1_digit : ByteArray := prog_3_method_8_code
def yX1_digit : MethodName := ⟨RX1, "digit", "(I)I"⟩
abbrev cX1_clear : ByteArray := prog_3_method_9_code
def yX1_clear : MethodName := ⟨RX1, "clear", "()V"⟩
def RX2 : String := "QuarterMaps$History"
def TX2 : u_T := fun k => match k with
  | 0 => ("QuarterMaps$History", "bits", "LQuarterMaps$Bits;", true)
  | 1 => ("QuarterMaps$History", "changed", "LQuarterMaps$Row;", true)
  | 2 => ("QuarterMaps$History", "latest", "I", false)
  | _ => ("QuarterMaps$History", "length", "I", false)
def tyX2 : Nat → FieldType := fun k => match k with
  | 0 => .object "QuarterMaps$Bits"
  | 1 => .object "QuarterMaps$Row"
  | 2 => .int
  | _ => .int
theorem nmX2 : ∀ a, a < 4 → ∀ b, b < 4 → a ≠ b → (TX2 a).2.1 ≠ (TX2 b).2.1 := by decide +kernel
theorem tyX2_ok : ∀ k, k < 4 → parseFieldDescriptor (TX2 k).2.2.1 = some (tyX2 k) := by decide +kernel
abbrev cX2_init : ByteArray := prog_4_method_1_code
def yX2_init : MethodName := ⟨RX2, "<init>", "(LQuarterMaps$Bits;)V"⟩
abbrev cX2_length : ByteArray := prog_4_method_2_code
def yX2_length : MethodName := ⟨RX2, "length", "()I"⟩
abbrev cX2_remember : ByteArray := prog_4_method_3_code
def yX2_remember : MethodName := ⟨RX2, "remember", "(I)V"⟩
abbrev cX2_goBack : ByteArray := prog_4_method_4_code
def yX2_goBack : MethodName := ⟨RX2, "goBack", "()V"⟩
abbrev cX2_forget : ByteArray := prog_4_method_5_code
def yX2_forget : MethodName := ⟨RX2, "forget", "()V"⟩
def RX3 : String := "QuarterMaps$Parser"
def TX3 : u_T := fun k => match k with
  | 0 => ("QuarterMaps$Parser", "input", "LQuarterMaps$Bytes;", true)
  | 1 => ("QuarterMaps$Parser", "bits", "LQuarterMaps$Bits;", true)
  | 2 => ("QuarterMaps$Parser", "reader", "LQuarterMaps$Reader;", true)
  | 3 => ("QuarterMaps$Parser", "names", "LQuarterMaps$Row;", true)
  | 4 => ("QuarterMaps$Parser", "end", "I", false)
  | 5 => ("QuarterMaps$Parser", "at", "I", false)
  | 6 => ("QuarterMaps$Parser", "token", "I", false)
  | 7 => ("QuarterMaps$Parser", "tokenStart", "I", false)
  | 8 => ("QuarterMaps$Parser", "tokenValue", "I", false)
  | 9 => ("QuarterMaps$Parser", "level", "I", false)
  | 10 => ("QuarterMaps$Parser", "maps", "I", false)
  | 11 => ("QuarterMaps$Parser", "error", "I", false)
  | _ => ("QuarterMaps$Parser", "errorStart", "I", false)
def tyX3 : Nat → FieldType := fun k => match k with
  | 0 => .object "QuarterMaps$Bytes"
  | 1 => .object "QuarterMaps$Bits"
  | 2 => .object "QuarterMaps$Reader"
  | 3 => .object "QuarterMaps$Row"
  | 4 => .int
  | 5 => .int
  | 6 => .int
  | 7 => .int
  | 8 => .int
  | 9 => .int
  | 10 => .int
  | 11 => .int
  | _ => .int
theorem nmX3 : ∀ a, a < 13 → ∀ b, b < 13 → a ≠ b → (TX3 a).2.1 ≠ (TX3 b).2.1 := by decide +kernel
theorem tyX3_ok : ∀ k, k < 13 → parseFieldDescriptor (TX3 k).2.2.1 = some (tyX3 k) := by decide +kernel
abbrev cX3_init : ByteArray := prog_5_method_1_code
def yX3_init : MethodName := ⟨RX3, "<init>", "(LQuarterMaps$Bytes;LQuarterMaps$Bits;LQuarterMaps$Reader;)V"⟩
abbrev cX3_parsedLevel : ByteArray := prog_5_method_2_code
def yX3_parsedLevel : MethodName := ⟨RX3, "parsedLevel", "()I"⟩
abbrev cX3_parsedMaps : ByteArray := prog_5_method_3_code
def yX3_parsedMaps : MethodName := ⟨RX3, "parsedMaps", "()I"⟩
abbrev cX3_parsedName : ByteArray := prog_5_method_4_code
def yX3_parsedName : MethodName := ⟨RX3, "parsedName", "(I)I"⟩
abbrev cX3_errorCode : ByteArray := prog_5_method_5_code
def yX3_errorCode : MethodName := ⟨RX3, "errorCode", "()I"⟩
abbrev cX3_errorAt : ByteArray := prog_5_method_6_code
def yX3_errorAt : MethodName := ⟨RX3, "errorAt", "()I"⟩
abbrev cX3_nameIn : ByteArray := prog_5_method_7_code
def yX3_nameIn : MethodName := ⟨RX3, "nameIn", "(I)I"⟩
abbrev cX3_parse : ByteArray := prog_5_method_8_code
def yX3_parse : MethodName := ⟨RX3, "parse", "(I)Z"⟩
abbrev cX3_takeLine : ByteArray := prog_5_method_9_code
def yX3_takeLine : MethodName := ⟨RX3, "takeLine", "()Z"⟩
abbrev cX3_takeMapLine : ByteArray := prog_5_method_10_code
def yX3_takeMapLine : MethodName := ⟨RX3, "takeMapLine", "()Z"⟩
abbrev cX3_takeRangeLine : ByteArray := prog_5_method_11_code
def yX3_takeRangeLine : MethodName := ⟨RX3, "takeRangeLine", "(I)Z"⟩
abbrev cX3_takeOrLine : ByteArray := prog_5_method_12_code
def yX3_takeOrLine : MethodName := ⟨RX3, "takeOrLine", "()Z"⟩
abbrev cX3_takeTreeLine : ByteArray := prog_5_method_13_code
def yX3_takeTreeLine : MethodName := ⟨RX3, "takeTreeLine", "()Z"⟩
abbrev cX3_takeWord : ByteArray := prog_5_method_14_code
def yX3_takeWord : MethodName := ⟨RX3, "takeWord", "(Ljava/lang/String;)Z"⟩
abbrev cX3_takeMap : ByteArray := prog_5_method_15_code
def yX3_takeMap : MethodName := ⟨RX3, "takeMap", "()I"⟩
abbrev cX3_takeNumber : ByteArray := prog_5_method_16_code
def yX3_takeNumber : MethodName := ⟨RX3, "takeNumber", "(II)I"⟩
abbrev cX3_fail : ByteArray := prog_5_method_17_code
def yX3_fail : MethodName := ⟨RX3, "fail", "(I)Z"⟩
abbrev cX3_mapNamed : ByteArray := prog_5_method_18_code
def yX3_mapNamed : MethodName := ⟨RX3, "mapNamed", "(I)I"⟩
abbrev cX3_isWord : ByteArray := prog_5_method_19_code
def yX3_isWord : MethodName := ⟨RX3, "isWord", "(Ljava/lang/String;)Z"⟩
abbrev cX3_withLetter : ByteArray := prog_5_method_20_code
def yX3_withLetter : MethodName := ⟨RX3, "withLetter", "(II)I"⟩
abbrev cX3_begin : ByteArray := prog_5_method_21_code
def yX3_begin : MethodName := ⟨RX3, "begin", "(I)V"⟩
abbrev cX3_advance : ByteArray := prog_5_method_22_code
def yX3_advance : MethodName := ⟨RX3, "advance", "()V"⟩
abbrev cX3_isLetter : ByteArray := prog_5_method_23_code
def yX3_isLetter : MethodName := ⟨RX3, "isLetter", "(I)Z"⟩
abbrev cX3_isDigit : ByteArray := prog_5_method_24_code
def yX3_isDigit : MethodName := ⟨RX3, "isDigit", "(I)Z"⟩
def RX4 : String := "QuarterMaps$Reader"
def TX4 : u_T := fun k => match k with
  | 0 => ("QuarterMaps$Reader", "bits", "LQuarterMaps$Bits;", true)
  | 1 => ("QuarterMaps$Reader", "blocks", "LQuarterMaps$Row;", true)
  | 2 => ("QuarterMaps$Reader", "heads", "LQuarterMaps$Row;", true)
  | 3 => ("QuarterMaps$Reader", "quarters", "LQuarterMaps$Row;", true)
  | 4 => ("QuarterMaps$Reader", "row", "I", false)
  | 5 => ("QuarterMaps$Reader", "level", "I", false)
  | 6 => ("QuarterMaps$Reader", "open", "I", false)
  | _ => ("QuarterMaps$Reader", "whole", "Z", false)
def tyX4 : Nat → FieldType := fun k => match k with
  | 0 => .object "QuarterMaps$Bits"
  | 1 => .object "QuarterMaps$Row"
  | 2 => .object "QuarterMaps$Row"
  | 3 => .object "QuarterMaps$Row"
  | 4 => .int
  | 5 => .int
  | 6 => .int
  | _ => .boolean
theorem nmX4 : ∀ a, a < 8 → ∀ b, b < 8 → a ≠ b → (TX4 a).2.1 ≠ (TX4 b).2.1 := by decide +kernel
theorem tyX4_ok : ∀ k, k < 8 → parseFieldDescriptor (TX4 k).2.2.1 = some (tyX4 k) := by decide +kernel
abbrev cX4_init : ByteArray := prog_6_method_1_code
def yX4_init : MethodName := ⟨RX4, "<init>", "(LQuarterMaps$Bits;)V"⟩
abbrev cX4_begin : ByteArray := prog_6_method_2_code
def yX4_begin : MethodName := ⟨RX4, "begin", "(II)V"⟩
abbrev cX4_isWhole : ByteArray := prog_6_method_3_code
def yX4_isWhole : MethodName := ⟨RX4, "isWhole", "()Z"⟩
abbrev cX4_take : ByteArray := prog_6_method_4_code
def yX4_take : MethodName := ⟨RX4, "take", "(I)Z"⟩
abbrev cX4_isHead : ByteArray := prog_6_method_5_code
def yX4_isHead : MethodName := ⟨RX4, "isHead", "(I)Z"⟩
abbrev cX4_lastTree : ByteArray := prog_6_method_6_code
def yX4_lastTree : MethodName := ⟨RX4, "lastTree", "(II)I"⟩
abbrev cX4_opensQuarter : ByteArray := prog_6_method_7_code
def yX4_opensQuarter : MethodName := ⟨RX4, "opensQuarter", "()Z"⟩
abbrev cX4_mayStand : ByteArray := prog_6_method_8_code
def yX4_mayStand : MethodName := ⟨RX4, "mayStand", "()Z"⟩
def RX5 : String := "QuarterMaps$Row"
def TX5 : u_T := fun k => match k with
  | _ => ("QuarterMaps$Row", "numbers", "[I", true)
def tyX5 : Nat → FieldType := fun k => match k with
  | _ => .array .int
theorem nmX5 : ∀ a, a < 1 → ∀ b, b < 1 → a ≠ b → (TX5 a).2.1 ≠ (TX5 b).2.1 := by decide +kernel
theorem tyX5_ok : ∀ k, k < 1 → parseFieldDescriptor (TX5 k).2.2.1 = some (tyX5 k) := by decide +kernel
abbrev cX5_init : ByteArray := prog_7_method_1_code
def yX5_init : MethodName := ⟨RX5, "<init>", "(I)V"⟩
abbrev cX5_get : ByteArray := prog_7_method_2_code
def yX5_get : MethodName := ⟨RX5, "get", "(I)I"⟩
abbrev cX5_set : ByteArray := prog_7_method_3_code
def yX5_set : MethodName := ⟨RX5, "set", "(II)V"⟩
abbrev cX5_setAll : ByteArray := prog_7_method_4_code
def yX5_setAll : MethodName := ⟨RX5, "setAll", "(I)V"⟩
def RX6 : String := "QuarterMaps$Tree"
def TX6 : u_T := fun k => match k with
  | 0 => ("QuarterMaps$Tree", "bits", "LQuarterMaps$Bits;", true)
  | 1 => ("QuarterMaps$Tree", "kinds", "LQuarterMaps$Row;", true)
  | 2 => ("QuarterMaps$Tree", "keys", "LQuarterMaps$Row;", true)
  | 3 => ("QuarterMaps$Tree", "sizes", "LQuarterMaps$Row;", true)
  | 4 => ("QuarterMaps$Tree", "codes", "LQuarterMaps$Row;", true)
  | 5 => ("QuarterMaps$Tree", "starts", "LQuarterMaps$Row;", true)
  | 6 => ("QuarterMaps$Tree", "content", "LQuarterMaps$Row;", true)
  | 7 => ("QuarterMaps$Tree", "row", "I", false)
  | _ => ("QuarterMaps$Tree", "level", "I", false)
def tyX6 : Nat → FieldType := fun k => match k with
  | 0 => .object "QuarterMaps$Bits"
  | 1 => .object "QuarterMaps$Row"
  | 2 => .object "QuarterMaps$Row"
  | 3 => .object "QuarterMaps$Row"
  | 4 => .object "QuarterMaps$Row"
  | 5 => .object "QuarterMaps$Row"
  | 6 => .object "QuarterMaps$Row"
  | 7 => .int
  | _ => .int
theorem nmX6 : ∀ a, a < 9 → ∀ b, b < 9 → a ≠ b → (TX6 a).2.1 ≠ (TX6 b).2.1 := by decide +kernel
theorem tyX6_ok : ∀ k, k < 9 → parseFieldDescriptor (TX6 k).2.2.1 = some (tyX6 k) := by decide +kernel
abbrev cX6_init : ByteArray := prog_8_method_1_code
def yX6_init : MethodName := ⟨RX6, "<init>", "(LQuarterMaps$Bits;)V"⟩
abbrev cX6_node : ByteArray := prog_8_method_2_code
def yX6_node : MethodName := ⟨RX6, "node", "(II)I"⟩
abbrev cX6_measure : ByteArray := prog_8_method_3_code
def yX6_measure : MethodName := ⟨RX6, "measure", "(II)V"⟩
abbrev cX6_kindOfCell : ByteArray := prog_8_method_4_code
def yX6_kindOfCell : MethodName := ⟨RX6, "kindOfCell", "(I)I"⟩
abbrev cX6_measureBlock : ByteArray := prog_8_method_5_code
def yX6_measureBlock : MethodName := ⟨RX6, "measureBlock", "(II)V"⟩
abbrev cX6_codeOfKind : ByteArray := prog_8_method_6_code
def yX6_codeOfKind : MethodName := ⟨RX6, "codeOfKind", "(II)I"⟩
abbrev cX6_kindOfKey : ByteArray := prog_8_method_7_code
def yX6_kindOfKey : MethodName := ⟨RX6, "kindOfKey", "(II)I"⟩
abbrev cX6_layOut : ByteArray := prog_8_method_8_code
def yX6_layOut : MethodName := ⟨RX6, "layOut", "()V"⟩
abbrev cX6_layOutBlock : ByteArray := prog_8_method_9_code
def yX6_layOutBlock : MethodName := ⟨RX6, "layOutBlock", "(II)V"⟩
abbrev cX6_size : ByteArray := prog_8_method_10_code
def yX6_size : MethodName := ⟨RX6, "size", "()I"⟩
abbrev cX6_byteOf : ByteArray := prog_8_method_11_code
def yX6_byteOf : MethodName := ⟨RX6, "byteOf", "(I)I"⟩
abbrev cX6_isTold : ByteArray := prog_8_method_12_code
def yX6_isTold : MethodName := ⟨RX6, "isTold", "(II)Z"⟩
abbrev cX6_startOf : ByteArray := prog_8_method_13_code
def yX6_startOf : MethodName := ⟨RX6, "startOf", "(II)I"⟩
abbrev cX6_sizeOf : ByteArray := prog_8_method_14_code
def yX6_sizeOf : MethodName := ⟨RX6, "sizeOf", "(II)I"⟩
abbrev cX6_codeOf : ByteArray := prog_8_method_15_code
def yX6_codeOf : MethodName := ⟨RX6, "codeOf", "(II)I"⟩
abbrev cX6_toldCells : ByteArray := prog_8_method_16_code
def yX6_toldCells : MethodName := ⟨RX6, "toldCells", "()I"⟩
abbrev cX6_toldWithCode : ByteArray := prog_8_method_17_code
def yX6_toldWithCode : MethodName := ⟨RX6, "toldWithCode", "(I)I"⟩
abbrev cX6_tellerOfCell : ByteArray := prog_8_method_18_code
def yX6_tellerOfCell : MethodName := ⟨RX6, "tellerOfCell", "(I)I"⟩
abbrev cX6_twinOf : ByteArray := prog_8_method_19_code
def yX6_twinOf : MethodName := ⟨RX6, "twinOf", "(II)I"⟩
abbrev cX6_lowestTold : ByteArray := prog_8_method_20_code
def yX6_lowestTold : MethodName := ⟨RX6, "lowestTold", "()I"⟩
abbrev cX6_firstCellOfBiggest : ByteArray := prog_8_method_21_code
def yX6_firstCellOfBiggest : MethodName := ⟨RX6, "firstCellOfBiggest", "(I)I"⟩
abbrev cX6_sizeIfFlipped : ByteArray := prog_8_method_22_code
def yX6_sizeIfFlipped : MethodName := ⟨RX6, "sizeIfFlipped", "(I)I"⟩
abbrev cX6_sizeWith : ByteArray := prog_8_method_23_code
def yX6_sizeWith : MethodName := ⟨RX6, "sizeWith", "(IIII)I"⟩
abbrev cX6_kindWith : ByteArray := prog_8_method_24_code
def yX6_kindWith : MethodName := ⟨RX6, "kindWith", "(III)I"⟩
abbrev cX6_spell : ByteArray := prog_8_method_25_code
def yX6_spell : MethodName := ⟨RX6, "spell", "(LQuarterMaps$Bytes;)V"⟩
abbrev cX6_spellBlock : ByteArray := prog_8_method_26_code
def yX6_spellBlock : MethodName := ⟨RX6, "spellBlock", "(LQuarterMaps$Tree;LQuarterMaps$Bytes;II)V"⟩
def RX7 : String := "QuarterMaps"
def TX7 : u_T := fun k => match k with
  | 0 => ("QuarterMaps", "input", "LQuarterMaps$Bytes;", true)
  | 1 => ("QuarterMaps", "bits", "LQuarterMaps$Bits;", true)
  | 2 => ("QuarterMaps", "tree", "LQuarterMaps$Tree;", true)
  | 3 => ("QuarterMaps", "reader", "LQuarterMaps$Reader;", true)
  | 4 => ("QuarterMaps", "parser", "LQuarterMaps$Parser;", true)
  | 5 => ("QuarterMaps", "history", "LQuarterMaps$History;", true)
  | 6 => ("QuarterMaps", "text", "LQuarterMaps$Bytes;", true)
  | 7 => ("QuarterMaps", "names", "LQuarterMaps$Row;", true)
  | 8 => ("QuarterMaps", "saved", "LQuarterMaps$Row;", true)
  | 9 => ("QuarterMaps", "loaded", "Z", false)
  | 10 => ("QuarterMaps", "level", "I", false)
  | 11 => ("QuarterMaps", "maps", "I", false)
  | 12 => ("QuarterMaps", "errorCode", "I", false)
  | _ => ("QuarterMaps", "errorAt", "I", false)
def tyX7 : Nat → FieldType := fun k => match k with
  | 0 => .object "QuarterMaps$Bytes"
  | 1 => .object "QuarterMaps$Bits"
  | 2 => .object "QuarterMaps$Tree"
  | 3 => .object "QuarterMaps$Reader"
  | 4 => .object "QuarterMaps$Parser"
  | 5 => .object "QuarterMaps$History"
  | 6 => .object "QuarterMaps$Bytes"
  | 7 => .object "QuarterMaps$Row"
  | 8 => .object "QuarterMaps$Row"
  | 9 => .boolean
  | 10 => .int
  | 11 => .int
  | 12 => .int
  | _ => .int
theorem nmX7 : ∀ a, a < 14 → ∀ b, b < 14 → a ≠ b → (TX7 a).2.1 ≠ (TX7 b).2.1 := by decide +kernel
theorem tyX7_ok : ∀ k, k < 14 → parseFieldDescriptor (TX7 k).2.2.1 = some (tyX7 k) := by decide +kernel
abbrev cX7_init : ByteArray := prog_1_method_1_code
def yX7_init : MethodName := ⟨RX7, "<init>", "()V"⟩
abbrev cX7_append : ByteArray := prog_1_method_2_code
def yX7_append : MethodName := ⟨RX7, "append", "(IIIII)I"⟩
abbrev cX7_load : ByteArray := prog_1_method_3_code
def yX7_load : MethodName := ⟨RX7, "load", "(I)I"⟩
abbrev cX7_adoptParsed : ByteArray := prog_1_method_4_code
def yX7_adoptParsed : MethodName := ⟨RX7, "adoptParsed", "()V"⟩
abbrev cX7_parseError : ByteArray := prog_1_method_5_code
def yX7_parseError : MethodName := ⟨RX7, "parseError", "()I"⟩
abbrev cX7_errorPosition : ByteArray := prog_1_method_6_code
def yX7_errorPosition : MethodName := ⟨RX7, "errorPosition", "()I"⟩
abbrev cX7_buffered : ByteArray := prog_1_method_7_code
def yX7_buffered : MethodName := ⟨RX7, "buffered", "()I"⟩
abbrev cX7_find : ByteArray := prog_1_method_8_code
def yX7_find : MethodName := ⟨RX7, "find", "(I)I"⟩
abbrev cX7_checks : ByteArray := prog_1_method_9_code
def yX7_checks : MethodName := ⟨RX7, "checks", "(I)I"⟩
abbrev cX7_readToScratch : ByteArray := prog_1_method_10_code
def yX7_readToScratch : MethodName := ⟨RX7, "readToScratch", "(I)I"⟩
abbrev cX7_count : ByteArray := prog_1_method_11_code
def yX7_count : MethodName := ⟨RX7, "count", "(I)I"⟩
abbrev cX7_bit : ByteArray := prog_1_method_12_code
def yX7_bit : MethodName := ⟨RX7, "bit", "(II)I"⟩
abbrev cX7_ones : ByteArray := prog_1_method_13_code
def yX7_ones : MethodName := ⟨RX7, "ones", "(III)I"⟩
abbrev cX7_next : ByteArray := prog_1_method_14_code
def yX7_next : MethodName := ⟨RX7, "next", "(III)I"⟩
abbrev cX7_select : ByteArray := prog_1_method_15_code
def yX7_select : MethodName := ⟨RX7, "select", "(II)I"⟩
abbrev cX7_runs : ByteArray := prog_1_method_16_code
def yX7_runs : MethodName := ⟨RX7, "runs", "(II)I"⟩
abbrev cX7_longestRun : ByteArray := prog_1_method_17_code
def yX7_longestRun : MethodName := ⟨RX7, "longestRun", "(II)I"⟩
abbrev cX7_bytes : ByteArray := prog_1_method_18_code
def yX7_bytes : MethodName := ⟨RX7, "bytes", "(I)I"⟩
abbrev cX7_byteAt : ByteArray := prog_1_method_19_code
def yX7_byteAt : MethodName := ⟨RX7, "byteAt", "(II)I"⟩
abbrev cX7_parts : ByteArray := prog_1_method_20_code
def yX7_parts : MethodName := ⟨RX7, "parts", "(II)I"⟩
abbrev cX7_block : ByteArray := prog_1_method_21_code
def yX7_block : MethodName := ⟨RX7, "block", "(IIII)I"⟩
abbrev cX7_teller : ByteArray := prog_1_method_22_code
def yX7_teller : MethodName := ⟨RX7, "teller", "(II)I"⟩
abbrev cX7_told : ByteArray := prog_1_method_23_code
def yX7_told : MethodName := ⟨RX7, "told", "(II)I"⟩
abbrev cX7_lowest : ByteArray := prog_1_method_24_code
def yX7_lowest : MethodName := ⟨RX7, "lowest", "(I)I"⟩
abbrev cX7_biggest : ByteArray := prog_1_method_25_code
def yX7_biggest : MethodName := ⟨RX7, "biggest", "(II)I"⟩
abbrev cX7_cheapest : ByteArray := prog_1_method_26_code
def yX7_cheapest : MethodName := ⟨RX7, "cheapest", "()I"⟩
abbrev cX7_meanBits : ByteArray := prog_1_method_27_code
def yX7_meanBits : MethodName := ⟨RX7, "meanBits", "(I)D"⟩
abbrev cX7_share : ByteArray := prog_1_method_28_code
def yX7_share : MethodName := ⟨RX7, "share", "(I)F"⟩
abbrev cX7_common : ByteArray := prog_1_method_29_code
def yX7_common : MethodName := ⟨RX7, "common", "(II)I"⟩
abbrev cX7_distance : ByteArray := prog_1_method_30_code
def yX7_distance : MethodName := ⟨RX7, "distance", "(II)I"⟩
abbrev cX7_differs : ByteArray := prog_1_method_31_code
def yX7_differs : MethodName := ⟨RX7, "differs", "(II)I"⟩
abbrev cX7_isWithin : ByteArray := prog_1_method_32_code
def yX7_isWithin : MethodName := ⟨RX7, "isWithin", "(II)Z"⟩
abbrev cX7_alike : ByteArray := prog_1_method_33_code
def yX7_alike : MethodName := ⟨RX7, "alike", "(III)I"⟩
abbrev cX7_combined : ByteArray := prog_1_method_34_code
def yX7_combined : MethodName := ⟨RX7, "combined", "(III)I"⟩
abbrev cX7_nearest : ByteArray := prog_1_method_35_code
def yX7_nearest : MethodName := ⟨RX7, "nearest", "(I)I"⟩
abbrev cX7_bytesIf : ByteArray := prog_1_method_36_code
def yX7_bytesIf : MethodName := ⟨RX7, "bytesIf", "(II)I"⟩
abbrev cX7_bestFlip : ByteArray := prog_1_method_37_code
def yX7_bestFlip : MethodName := ⟨RX7, "bestFlip", "(III)I"⟩
abbrev cX7_bytesFilled : ByteArray := prog_1_method_38_code
def yX7_bytesFilled : MethodName := ⟨RX7, "bytesFilled", "(IIII)I"⟩
abbrev cX7_bytesShifted : ByteArray := prog_1_method_39_code
def yX7_bytesShifted : MethodName := ⟨RX7, "bytesShifted", "(II)I"⟩
abbrev cX7_mostLike : ByteArray := prog_1_method_40_code
def yX7_mostLike : MethodName := ⟨RX7, "mostLike", "(III)I"⟩
abbrev cX7_writeBytes : ByteArray := prog_1_method_41_code
def yX7_writeBytes : MethodName := ⟨RX7, "writeBytes", "(I)I"⟩
abbrev cX7_writeBits : ByteArray := prog_1_method_42_code
def yX7_writeBits : MethodName := ⟨RX7, "writeBits", "(III)I"⟩
abbrev cX7_writeTree : ByteArray := prog_1_method_43_code
def yX7_writeTree : MethodName := ⟨RX7, "writeTree", "(I)I"⟩
abbrev cX7_textByte : ByteArray := prog_1_method_44_code
def yX7_textByte : MethodName := ⟨RX7, "textByte", "(I)I"⟩
abbrev cX7_fill : ByteArray := prog_1_method_45_code
def yX7_fill : MethodName := ⟨RX7, "fill", "(IIII)I"⟩
abbrev cX7_flip : ByteArray := prog_1_method_46_code
def yX7_flip : MethodName := ⟨RX7, "flip", "(III)I"⟩
abbrev cX7_combine : ByteArray := prog_1_method_47_code
def yX7_combine : MethodName := ⟨RX7, "combine", "(IIII)I"⟩
abbrev cX7_copyBlock : ByteArray := prog_1_method_48_code
def yX7_copyBlock : MethodName := ⟨RX7, "copyBlock", "(IIII)I"⟩
abbrev cX7_shift : ByteArray := prog_1_method_49_code
def yX7_shift : MethodName := ⟨RX7, "shift", "(II)I"⟩
abbrev cX7_mirror : ByteArray := prog_1_method_50_code
def yX7_mirror : MethodName := ⟨RX7, "mirror", "(I)I"⟩
abbrev cX7_read : ByteArray := prog_1_method_51_code
def yX7_read : MethodName := ⟨RX7, "read", "(II)I"⟩
abbrev cX7_undo : ByteArray := prog_1_method_52_code
def yX7_undo : MethodName := ⟨RX7, "undo", "()I"⟩
abbrev cX7_undoable : ByteArray := prog_1_method_53_code
def yX7_undoable : MethodName := ⟨RX7, "undoable", "()I"⟩
abbrev cX7_save : ByteArray := prog_1_method_54_code
def yX7_save : MethodName := ⟨RX7, "save", "(I)I"⟩
abbrev cX7_restore : ByteArray := prog_1_method_55_code
def yX7_restore : MethodName := ⟨RX7, "restore", "(I)I"⟩
abbrev cX7_requireText : ByteArray := prog_1_method_56_code
def yX7_requireText : MethodName := ⟨RX7, "requireText", "()V"⟩
abbrev cX7_requireBuffered : ByteArray := prog_1_method_57_code
def yX7_requireBuffered : MethodName := ⟨RX7, "requireBuffered", "(I)V"⟩
abbrev cX7_requireMap : ByteArray := prog_1_method_58_code
def yX7_requireMap : MethodName := ⟨RX7, "requireMap", "(I)V"⟩
abbrev cX7_requirePosition : ByteArray := prog_1_method_59_code
def yX7_requirePosition : MethodName := ⟨RX7, "requirePosition", "(I)V"⟩
abbrev cX7_requireRange : ByteArray := prog_1_method_60_code
def yX7_requireRange : MethodName := ⟨RX7, "requireRange", "(II)V"⟩
abbrev cX7_requireLevel : ByteArray := prog_1_method_61_code
def yX7_requireLevel : MethodName := ⟨RX7, "requireLevel", "(I)V"⟩
abbrev cX7_requireBlock : ByteArray := prog_1_method_62_code
def yX7_requireBlock : MethodName := ⟨RX7, "requireBlock", "(II)V"⟩
abbrev cX7_requireByteOf : ByteArray := prog_1_method_63_code
def yX7_requireByteOf : MethodName := ⟨RX7, "requireByteOf", "(II)V"⟩
abbrev cX7_requireSlot : ByteArray := prog_1_method_64_code
def yX7_requireSlot : MethodName := ⟨RX7, "requireSlot", "(I)V"⟩
abbrev cX7_requireBit : ByteArray := prog_1_method_65_code
def yX7_requireBit : MethodName := ⟨RX7, "requireBit", "(I)V"⟩
abbrev cX7_requireKind : ByteArray := prog_1_method_66_code
def yX7_requireKind : MethodName := ⟨RX7, "requireKind", "(I)V"⟩
abbrev cX7_sizeOfRow : ByteArray := prog_1_method_67_code
def yX7_sizeOfRow : MethodName := ⟨RX7, "sizeOfRow", "(I)I"⟩
abbrev cX7_sizeOfAll : ByteArray := prog_1_method_68_code
def yX7_sizeOfAll : MethodName := ⟨RX7, "sizeOfAll", "()I"⟩
abbrev cX7_onesOfRow : ByteArray := prog_1_method_69_code
def yX7_onesOfRow : MethodName := ⟨RX7, "onesOfRow", "(I)I"⟩
abbrev cX7_cellsIn : ByteArray := prog_1_method_70_code
def yX7_cellsIn : MethodName := ⟨RX7, "cellsIn", "(I)I"⟩
abbrev cX7_blocksAt : ByteArray := prog_1_method_71_code
def yX7_blocksAt : MethodName := ⟨RX7, "blocksAt", "(II)I"⟩
abbrev cX7_codeIn : ByteArray := prog_1_method_72_code
def yX7_codeIn : MethodName := ⟨RX7, "codeIn", "(II)I"⟩
def RX8 : String := "QuarterMapsModel"
def TX8 : u_T := fun k => match k with
  | 0 => ("QuarterMapsModel", "thrown", "I", false)
  | 1 => ("QuarterMapsModel", "hasMaps", "Z", false)
  | 2 => ("QuarterMapsModel", "level", "I", false)
  | 3 => ("QuarterMapsModel", "maps", "I", false)
  | 4 => ("QuarterMapsModel", "names", "[I", true)
  | 5 => ("QuarterMapsModel", "s", "[I", true)
  | 6 => ("QuarterMapsModel", "stores", "[I", true)
  | 7 => ("QuarterMapsModel", "changes", "I", false)
  | 8 => ("QuarterMapsModel", "isKept", "[Z", true)
  | 9 => ("QuarterMapsModel", "atLevel", "I", false)
  | 10 => ("QuarterMapsModel", "row", "[I", true)
  | 11 => ("QuarterMapsModel", "tree", "[I", true)
  | 12 => ("QuarterMapsModel", "treeLong", "I", false)
  | 13 => ("QuarterMapsModel", "codes", "[I", true)
  | 14 => ("QuarterMapsModel", "firsts", "[I", true)
  | 15 => ("QuarterMapsModel", "sizes", "[I", true)
  | 16 => ("QuarterMapsModel", "source", "[I", true)
  | 17 => ("QuarterMapsModel", "sourceLong", "I", false)
  | 18 => ("QuarterMapsModel", "sourceAt", "I", false)
  | 19 => ("QuarterMapsModel", "wrongByte", "I", false)
  | 20 => ("QuarterMapsModel", "buffer", "[I", true)
  | 21 => ("QuarterMapsModel", "buffered", "I", false)
  | 22 => ("QuarterMapsModel", "parseError", "I", false)
  | 23 => ("QuarterMapsModel", "errorPosition", "I", false)
  | 24 => ("QuarterMapsModel", "length", "I", false)
  | 25 => ("QuarterMapsModel", "next", "I", false)
  | 26 => ("QuarterMapsModel", "from", "I", false)
  | 27 => ("QuarterMapsModel", "sort", "I", false)
  | 28 => ("QuarterMapsModel", "number", "I", false)
  | 29 => ("QuarterMapsModel", "wrong", "I", false)
  | 30 => ("QuarterMapsModel", "wrongAt", "I", false)
  | 31 => ("QuarterMapsModel", "readMaps", "I", false)
  | 32 => ("QuarterMapsModel", "readNames", "[I", true)
  | 33 => ("QuarterMapsModel", "read", "[I", true)
  | 34 => ("QuarterMapsModel", "text", "[I", true)
  | _ => ("QuarterMapsModel", "textLong", "I", false)
def tyX8 : Nat → FieldType := fun k => match k with
  | 0 => .int
  | 1 => .boolean
  | 2 => .int
  | 3 => .int
  | 4 => .array .int
  | 5 => .array .int
  | 6 => .array .int
  | 7 => .int
  | 8 => .array .boolean
  | 9 => .int
  | 10 => .array .int
  | 11 => .array .int
  | 12 => .int
  | 13 => .array .int
  | 14 => .array .int
  | 15 => .array .int
  | 16 => .array .int
  | 17 => .int
  | 18 => .int
  | 19 => .int
  | 20 => .array .int
  | 21 => .int
  | 22 => .int
  | 23 => .int
  | 24 => .int
  | 25 => .int
  | 26 => .int
  | 27 => .int
  | 28 => .int
  | 29 => .int
  | 30 => .int
  | 31 => .int
  | 32 => .array .int
  | 33 => .array .int
  | 34 => .array .int
  | _ => .int
theorem nmX8 : ∀ a, a < 36 → ∀ b, b < 36 → a ≠ b → (TX8 a).2.1 ≠ (TX8 b).2.1 := by decide +kernel
theorem tyX8_ok : ∀ k, k < 36 → parseFieldDescriptor (TX8 k).2.2.1 = some (tyX8 k) := by decide +kernel
abbrev cX8_init : ByteArray := prog_10_method_1_code
def yX8_init : MethodName := ⟨RX8, "<init>", "()V"⟩
abbrev cX8_thrown : ByteArray := prog_10_method_2_code
def yX8_thrown : MethodName := ⟨RX8, "thrown", "()I"⟩
abbrev cX8_in : ByteArray := prog_10_method_3_code
def yX8_in : MethodName := ⟨RX8, "in", "(III)Z"⟩
abbrev cX8_flag : ByteArray := prog_10_method_4_code
def yX8_flag : MethodName := ⟨RX8, "flag", "(Z)I"⟩
abbrev cX8_refuse : ByteArray := prog_10_method_5_code
def yX8_refuse : MethodName := ⟨RX8, "refuse", "(ZI)Z"⟩
abbrev cX8_noMaps : ByteArray := prog_10_method_6_code
def yX8_noMaps : MethodName := ⟨RX8, "noMaps", "()Z"⟩
abbrev cX8_isMap : ByteArray := prog_10_method_7_code
def yX8_isMap : MethodName := ⟨RX8, "isMap", "(I)Z"⟩
abbrev cX8_noMap : ByteArray := prog_10_method_8_code
def yX8_noMap : MethodName := ⟨RX8, "noMap", "(I)Z"⟩
abbrev cX8_blocks : ByteArray := prog_10_method_9_code
def yX8_blocks : MethodName := ⟨RX8, "blocks", "(I)I"⟩
abbrev cX8_bytesOfMap : ByteArray := prog_10_method_10_code
def yX8_bytesOfMap : MethodName := ⟨RX8, "bytesOfMap", "()I"⟩
abbrev cX8_bits : ByteArray := prog_10_method_11_code
def yX8_bits : MethodName := ⟨RX8, "bits", "()I"⟩
abbrev cX8_spot : ByteArray := prog_10_method_12_code
def yX8_spot : MethodName := ⟨RX8, "spot", "(II)I"⟩
abbrev cX8_span : ByteArray := prog_10_method_13_code
def yX8_span : MethodName := ⟨RX8, "span", "(I)I"⟩
abbrev cX8_isAll : ByteArray := prog_10_method_14_code
def yX8_isAll : MethodName := ⟨RX8, "isAll", "(III)Z"⟩
abbrev cX8_isSame : ByteArray := prog_10_method_15_code
def yX8_isSame : MethodName := ⟨RX8, "isSame", "(III)Z"⟩
abbrev cX8_lays : ByteArray := prog_10_method_16_code
def yX8_lays : MethodName := ⟨RX8, "lays", "(II)V"⟩
abbrev cX8_laysTree : ByteArray := prog_10_method_17_code
def yX8_laysTree : MethodName := ⟨RX8, "laysTree", "()V"⟩
abbrev cX8_fetches : ByteArray := prog_10_method_18_code
def yX8_fetches : MethodName := ⟨RX8, "fetches", "(I)V"⟩
abbrev cX8_fetchesTree : ByteArray := prog_10_method_19_code
def yX8_fetchesTree : MethodName := ⟨RX8, "fetchesTree", "(I)V"⟩
abbrev cX8_puts : ByteArray := prog_10_method_20_code
def yX8_puts : MethodName := ⟨RX8, "puts", "(I)V"⟩
abbrev cX8_bitOf : ByteArray := prog_10_method_21_code
def yX8_bitOf : MethodName := ⟨RX8, "bitOf", "(I)I"⟩
abbrev cX8_laysBit : ByteArray := prog_10_method_22_code
def yX8_laysBit : MethodName := ⟨RX8, "laysBit", "(II)V"⟩
abbrev cX8_isWrongAt : ByteArray := prog_10_method_23_code
def yX8_isWrongAt : MethodName := ⟨RX8, "isWrongAt", "(I)V"⟩
abbrev cX8_makesAll : ByteArray := prog_10_method_24_code
def yX8_makesAll : MethodName := ⟨RX8, "makesAll", "(III)V"⟩
abbrev cX8_copiesBlock : ByteArray := prog_10_method_25_code
def yX8_copiesBlock : MethodName := ⟨RX8, "copiesBlock", "(III)V"⟩
abbrev cX8_isHead : ByteArray := prog_10_method_26_code
def yX8_isHead : MethodName := ⟨RX8, "isHead", "(I)Z"⟩
abbrev cX8_readsBlock : ByteArray := prog_10_method_27_code
def yX8_readsBlock : MethodName := ⟨RX8, "readsBlock", "(II)V"⟩
abbrev cX8_readsQuarter : ByteArray := prog_10_method_28_code
def yX8_readsQuarter : MethodName := ⟨RX8, "readsQuarter", "(III)V"⟩
abbrev cX8_readsTree : ByteArray := prog_10_method_29_code
def yX8_readsTree : MethodName := ⟨RX8, "readsTree", "()I"⟩
abbrev cX8_append : ByteArray := prog_10_method_30_code
def yX8_append : MethodName := ⟨RX8, "append", "(IIIII)I"⟩
abbrev cX8_buffered : ByteArray := prog_10_method_31_code
def yX8_buffered : MethodName := ⟨RX8, "buffered", "()I"⟩
abbrev cX8_parseError : ByteArray := prog_10_method_32_code
def yX8_parseError : MethodName := ⟨RX8, "parseError", "()I"⟩
abbrev cX8_errorPosition : ByteArray := prog_10_method_33_code
def yX8_errorPosition : MethodName := ⟨RX8, "errorPosition", "()I"⟩
abbrev cX8_seen : ByteArray := prog_10_method_34_code
def yX8_seen : MethodName := ⟨RX8, "seen", "(I)I"⟩
abbrev cX8_isLetter : ByteArray := prog_10_method_35_code
def yX8_isLetter : MethodName := ⟨RX8, "isLetter", "(I)Z"⟩
abbrev cX8_isDigit : ByteArray := prog_10_method_36_code
def yX8_isDigit : MethodName := ⟨RX8, "isDigit", "(I)Z"⟩
abbrev cX8_token : ByteArray := prog_10_method_37_code
def yX8_token : MethodName := ⟨RX8, "token", "()V"⟩
abbrev cX8_fails : ByteArray := prog_10_method_38_code
def yX8_fails : MethodName := ⟨RX8, "fails", "(I)V"⟩
abbrev cX8_failsIf : ByteArray := prog_10_method_39_code
def yX8_failsIf : MethodName := ⟨RX8, "failsIf", "(ZI)V"⟩
abbrev cX8_goesOn : ByteArray := prog_10_method_40_code
def yX8_goesOn : MethodName := ⟨RX8, "goesOn", "()V"⟩
abbrev cX8_isWord : ByteArray := prog_10_method_41_code
def yX8_isWord : MethodName := ⟨RX8, "isWord", "(Ljava/lang/String;)Z"⟩
abbrev cX8_numberHere : ByteArray := prog_10_method_42_code
def yX8_numberHere : MethodName := ⟨RX8, "numberHere", "(II)I"⟩
abbrev cX8_takes : ByteArray := prog_10_method_43_code
def yX8_takes : MethodName := ⟨RX8, "takes", "(II)I"⟩
abbrev cX8_isName : ByteArray := prog_10_method_44_code
def yX8_isName : MethodName := ⟨RX8, "isName", "([II[III)Z"⟩
abbrev cX8_named : ByteArray := prog_10_method_45_code
def yX8_named : MethodName := ⟨RX8, "named", "()I"⟩
abbrev cX8_mapLine : ByteArray := prog_10_method_46_code
def yX8_mapLine : MethodName := ⟨RX8, "mapLine", "()V"⟩
abbrev cX8_takesMap : ByteArray := prog_10_method_47_code
def yX8_takesMap : MethodName := ⟨RX8, "takesMap", "()I"⟩
abbrev cX8_takesRow : ByteArray := prog_10_method_48_code
def yX8_takesRow : MethodName := ⟨RX8, "takesRow", "(I)V"⟩
abbrev cX8_leavesRow : ByteArray := prog_10_method_49_code
def yX8_leavesRow : MethodName := ⟨RX8, "leavesRow", "(I)V"⟩
abbrev cX8_rangeLine : ByteArray := prog_10_method_50_code
def yX8_rangeLine : MethodName := ⟨RX8, "rangeLine", "(I)V"⟩
abbrev cX8_orLine : ByteArray := prog_10_method_51_code
def yX8_orLine : MethodName := ⟨RX8, "orLine", "()V"⟩
abbrev cX8_treeLine : ByteArray := prog_10_method_52_code
def yX8_treeLine : MethodName := ⟨RX8, "treeLine", "()V"⟩
abbrev cX8_line : ByteArray := prog_10_method_53_code
def yX8_line : MethodName := ⟨RX8, "line", "()V"⟩
abbrev cX8_reads : ByteArray := prog_10_method_54_code
def yX8_reads : MethodName := ⟨RX8, "reads", "(I)V"⟩
abbrev cX8_load : ByteArray := prog_10_method_55_code
def yX8_load : MethodName := ⟨RX8, "load", "(I)I"⟩
abbrev cX8_find : ByteArray := prog_10_method_56_code
def yX8_find : MethodName := ⟨RX8, "find", "(I)I"⟩
abbrev cX8_readsBuffer : ByteArray := prog_10_method_57_code
def yX8_readsBuffer : MethodName := ⟨RX8, "readsBuffer", "(I)I"⟩
abbrev cX8_checks : ByteArray := prog_10_method_58_code
def yX8_checks : MethodName := ⟨RX8, "checks", "(I)I"⟩
abbrev cX8_allBytes : ByteArray := prog_10_method_59_code
def yX8_allBytes : MethodName := ⟨RX8, "allBytes", "()I"⟩
abbrev cX8_count : ByteArray := prog_10_method_60_code
def yX8_count : MethodName := ⟨RX8, "count", "(I)I"⟩
abbrev cX8_isPosition : ByteArray := prog_10_method_61_code
def yX8_isPosition : MethodName := ⟨RX8, "isPosition", "(I)Z"⟩
abbrev cX8_noPosition : ByteArray := prog_10_method_62_code
def yX8_noPosition : MethodName := ⟨RX8, "noPosition", "(II)Z"⟩
abbrev cX8_bit : ByteArray := prog_10_method_63_code
def yX8_bit : MethodName := ⟨RX8, "bit", "(II)I"⟩
abbrev cX8_noRange : ByteArray := prog_10_method_64_code
def yX8_noRange : MethodName := ⟨RX8, "noRange", "(III)Z"⟩
abbrev cX8_onesIn : ByteArray := prog_10_method_65_code
def yX8_onesIn : MethodName := ⟨RX8, "onesIn", "(II)I"⟩
abbrev cX8_ones : ByteArray := prog_10_method_66_code
def yX8_ones : MethodName := ⟨RX8, "ones", "(III)I"⟩
abbrev cX8_isBit : ByteArray := prog_10_method_67_code
def yX8_isBit : MethodName := ⟨RX8, "isBit", "(I)Z"⟩
abbrev cX8_next : ByteArray := prog_10_method_68_code
def yX8_next : MethodName := ⟨RX8, "next", "(III)I"⟩
abbrev cX8_select : ByteArray := prog_10_method_69_code
def yX8_select : MethodName := ⟨RX8, "select", "(II)I"⟩
abbrev cX8_noBit : ByteArray := prog_10_method_70_code
def yX8_noBit : MethodName := ⟨RX8, "noBit", "(II)Z"⟩
abbrev cX8_runs : ByteArray := prog_10_method_71_code
def yX8_runs : MethodName := ⟨RX8, "runs", "(II)I"⟩
abbrev cX8_longestRun : ByteArray := prog_10_method_72_code
def yX8_longestRun : MethodName := ⟨RX8, "longestRun", "(II)I"⟩
abbrev cX8_bytes : ByteArray := prog_10_method_73_code
def yX8_bytes : MethodName := ⟨RX8, "bytes", "(I)I"⟩
abbrev cX8_noByte : ByteArray := prog_10_method_74_code
def yX8_noByte : MethodName := ⟨RX8, "noByte", "(II)Z"⟩
abbrev cX8_byteAt : ByteArray := prog_10_method_75_code
def yX8_byteAt : MethodName := ⟨RX8, "byteAt", "(II)I"⟩
abbrev cX8_toldIn : ByteArray := prog_10_method_76_code
def yX8_toldIn : MethodName := ⟨RX8, "toldIn", "(I)I"⟩
abbrev cX8_codesOf : ByteArray := prog_10_method_77_code
def yX8_codesOf : MethodName := ⟨RX8, "codesOf", "(I)I"⟩
abbrev cX8_parts : ByteArray := prog_10_method_78_code
def yX8_parts : MethodName := ⟨RX8, "parts", "(II)I"⟩
abbrev cX8_isBlock : ByteArray := prog_10_method_79_code
def yX8_isBlock : MethodName := ⟨RX8, "isBlock", "(II)Z"⟩
abbrev cX8_noBlock : ByteArray := prog_10_method_80_code
def yX8_noBlock : MethodName := ⟨RX8, "noBlock", "(III)Z"⟩
abbrev cX8_block : ByteArray := prog_10_method_81_code
def yX8_block : MethodName := ⟨RX8, "block", "(IIII)I"⟩
abbrev cX8_tells : ByteArray := prog_10_method_82_code
def yX8_tells : MethodName := ⟨RX8, "tells", "(I)I"⟩
abbrev cX8_teller : ByteArray := prog_10_method_83_code
def yX8_teller : MethodName := ⟨RX8, "teller", "(II)I"⟩
abbrev cX8_told : ByteArray := prog_10_method_84_code
def yX8_told : MethodName := ⟨RX8, "told", "(II)I"⟩
abbrev cX8_lowest : ByteArray := prog_10_method_85_code
def yX8_lowest : MethodName := ⟨RX8, "lowest", "(I)I"⟩
abbrev cX8_biggest : ByteArray := prog_10_method_86_code
def yX8_biggest : MethodName := ⟨RX8, "biggest", "(II)I"⟩
abbrev cX8_cheapest : ByteArray := prog_10_method_87_code
def yX8_cheapest : MethodName := ⟨RX8, "cheapest", "()I"⟩
abbrev cX8_meanBits : ByteArray := prog_10_method_88_code
def yX8_meanBits : MethodName := ⟨RX8, "meanBits", "(I)D"⟩
abbrev cX8_share : ByteArray := prog_10_method_89_code
def yX8_share : MethodName := ⟨RX8, "share", "(I)F"⟩
abbrev cX8_noPair : ByteArray := prog_10_method_90_code
def yX8_noPair : MethodName := ⟨RX8, "noPair", "(II)Z"⟩
abbrev cX8_byteOf : ByteArray := prog_10_method_91_code
def yX8_byteOf : MethodName := ⟨RX8, "byteOf", "(II)I"⟩
abbrev cX8_onesOf : ByteArray := prog_10_method_92_code
def yX8_onesOf : MethodName := ⟨RX8, "onesOf", "(I)I"⟩
abbrev cX8_common : ByteArray := prog_10_method_93_code
def yX8_common : MethodName := ⟨RX8, "common", "(II)I"⟩
abbrev cX8_unlike : ByteArray := prog_10_method_94_code
def yX8_unlike : MethodName := ⟨RX8, "unlike", "(II)I"⟩
abbrev cX8_distance : ByteArray := prog_10_method_95_code
def yX8_distance : MethodName := ⟨RX8, "distance", "(II)I"⟩
abbrev cX8_differs : ByteArray := prog_10_method_96_code
def yX8_differs : MethodName := ⟨RX8, "differs", "(II)I"⟩
abbrev cX8_isWithin : ByteArray := prog_10_method_97_code
def yX8_isWithin : MethodName := ⟨RX8, "isWithin", "(II)Z"⟩
abbrev cX8_alike : ByteArray := prog_10_method_98_code
def yX8_alike : MethodName := ⟨RX8, "alike", "(III)I"⟩
abbrev cX8_joined : ByteArray := prog_10_method_99_code
def yX8_joined : MethodName := ⟨RX8, "joined", "(III)I"⟩
abbrev cX8_combines : ByteArray := prog_10_method_100_code
def yX8_combines : MethodName := ⟨RX8, "combines", "(III)V"⟩
abbrev cX8_combined : ByteArray := prog_10_method_101_code
def yX8_combined : MethodName := ⟨RX8, "combined", "(III)I"⟩
abbrev cX8_nearest : ByteArray := prog_10_method_102_code
def yX8_nearest : MethodName := ⟨RX8, "nearest", "(I)I"⟩
abbrev cX8_bytesWithOther : ByteArray := prog_10_method_103_code
def yX8_bytesWithOther : MethodName := ⟨RX8, "bytesWithOther", "(I)I"⟩
abbrev cX8_bytesIf : ByteArray := prog_10_method_104_code
def yX8_bytesIf : MethodName := ⟨RX8, "bytesIf", "(II)I"⟩
abbrev cX8_bestFlip : ByteArray := prog_10_method_105_code
def yX8_bestFlip : MethodName := ⟨RX8, "bestFlip", "(III)I"⟩
abbrev cX8_fillsHere : ByteArray := prog_10_method_106_code
def yX8_fillsHere : MethodName := ⟨RX8, "fillsHere", "(III)I"⟩
abbrev cX8_bytesFilled : ByteArray := prog_10_method_107_code
def yX8_bytesFilled : MethodName := ⟨RX8, "bytesFilled", "(IIII)I"⟩
abbrev cX8_shiftsHere : ByteArray := prog_10_method_108_code
def yX8_shiftsHere : MethodName := ⟨RX8, "shiftsHere", "(I)I"⟩
abbrev cX8_bytesShifted : ByteArray := prog_10_method_109_code
def yX8_bytesShifted : MethodName := ⟨RX8, "bytesShifted", "(II)I"⟩
abbrev cX8_mostLike : ByteArray := prog_10_method_110_code
def yX8_mostLike : MethodName := ⟨RX8, "mostLike", "(III)I"⟩
abbrev cX8_says : ByteArray := prog_10_method_111_code
def yX8_says : MethodName := ⟨RX8, "says", "(I)V"⟩
abbrev cX8_saysDigit : ByteArray := prog_10_method_112_code
def yX8_saysDigit : MethodName := ⟨RX8, "saysDigit", "(I)V"⟩
abbrev cX8_saysByte : ByteArray := prog_10_method_113_code
def yX8_saysByte : MethodName := ⟨RX8, "saysByte", "(I)V"⟩
abbrev cX8_writeBytes : ByteArray := prog_10_method_114_code
def yX8_writeBytes : MethodName := ⟨RX8, "writeBytes", "(I)I"⟩
abbrev cX8_writeBits : ByteArray := prog_10_method_115_code
def yX8_writeBits : MethodName := ⟨RX8, "writeBits", "(III)I"⟩
abbrev cX8_saysTree : ByteArray := prog_10_method_116_code
def yX8_saysTree : MethodName := ⟨RX8, "saysTree", "(II)V"⟩
abbrev cX8_writeTree : ByteArray := prog_10_method_117_code
def yX8_writeTree : MethodName := ⟨RX8, "writeTree", "(I)I"⟩
abbrev cX8_textByte : ByteArray := prog_10_method_118_code
def yX8_textByte : MethodName := ⟨RX8, "textByte", "(I)I"⟩
abbrev cX8_keeps : ByteArray := prog_10_method_119_code
def yX8_keeps : MethodName := ⟨RX8, "keeps", "(I)V"⟩
abbrev cX8_fetchesState : ByteArray := prog_10_method_120_code
def yX8_fetchesState : MethodName := ⟨RX8, "fetchesState", "(I)V"⟩
abbrev cX8_keepsAll : ByteArray := prog_10_method_121_code
def yX8_keepsAll : MethodName := ⟨RX8, "keepsAll", "()V"⟩
abbrev cX8_fill : ByteArray := prog_10_method_122_code
def yX8_fill : MethodName := ⟨RX8, "fill", "(IIII)I"⟩
abbrev cX8_flip : ByteArray := prog_10_method_123_code
def yX8_flip : MethodName := ⟨RX8, "flip", "(III)I"⟩
abbrev cX8_combine : ByteArray := prog_10_method_124_code
def yX8_combine : MethodName := ⟨RX8, "combine", "(IIII)I"⟩
abbrev cX8_copyBlock : ByteArray := prog_10_method_125_code
def yX8_copyBlock : MethodName := ⟨RX8, "copyBlock", "(IIII)I"⟩
abbrev cX8_shift : ByteArray := prog_10_method_126_code
def yX8_shift : MethodName := ⟨RX8, "shift", "(II)I"⟩
abbrev cX8_mirror : ByteArray := prog_10_method_127_code
def yX8_mirror : MethodName := ⟨RX8, "mirror", "(I)I"⟩
abbrev cX8_read : ByteArray := prog_10_method_128_code
def yX8_read : MethodName := ⟨RX8, "read", "(II)I"⟩
abbrev cX8_undo : ByteArray := prog_10_method_129_code
def yX8_undo : MethodName := ⟨RX8, "undo", "()I"⟩
abbrev cX8_undoable : ByteArray := prog_10_method_130_code
def yX8_undoable : MethodName := ⟨RX8, "undoable", "()I"⟩
abbrev cX8_save : ByteArray := prog_10_method_131_code
def yX8_save : MethodName := ⟨RX8, "save", "(I)I"⟩
abbrev cX8_restore : ByteArray := prog_10_method_132_code
def yX8_restore : MethodName := ⟨RX8, "restore", "(I)I"⟩
def RJ6 : String := "java/lang/Integer"
def TJ6 : u_T := fun k => match k with
  | _ => ("", "", "", false)
def tyJ6 : Nat → FieldType := fun k => match k with
  | _ => .int
theorem nmJ6 : ∀ a, a < 0 → ∀ b, b < 0 → a ≠ b → (TJ6 a).2.1 ≠ (TJ6 b).2.1 := by decide +kernel
theorem tyJ6_ok : ∀ k, k < 0 → parseFieldDescriptor (TJ6 k).2.2.1 = some (tyJ6 k) := by decide +kernel
abbrev cJ6_bitCount_0f7a4 : ByteArray := prog_15_method_49_code
def yJ6_bitCount_0f7a4 : MethodName := ⟨RJ6, "bitCount", "(I)I"⟩
def RJ9 : String := "java/lang/Math"
def TJ9 : u_T := fun k => match k with
  | _ => ("", "", "", false)
def tyJ9 : Nat → FieldType := fun k => match k with
  | _ => .int
theorem nmJ9 : ∀ a, a < 0 → ∀ b, b < 0 → a ≠ b → (TJ9 a).2.1 ≠ (TJ9 b).2.1 := by decide +kernel
theorem tyJ9_ok : ∀ k, k < 0 → parseFieldDescriptor (TJ9 k).2.2.1 = some (tyJ9 k) := by decide +kernel
abbrev cJ9_max_7cf53 : ByteArray := prog_16_method_65_code
def yJ9_max_7cf53 : MethodName := ⟨RJ9, "max", "(II)I"⟩
abbrev cJ9_min_7cf53 : ByteArray := prog_16_method_69_code
def yJ9_min_7cf53 : MethodName := ⟨RJ9, "min", "(II)I"⟩
def RJ0 : String := "java/lang/String"
def TJ0 : u_T := fun k => match k with
  | _ => ("", "", "", false)
def tyJ0 : Nat → FieldType := fun k => match k with
  | _ => .int
theorem nmJ0 : ∀ a, a < 0 → ∀ b, b < 0 → a ≠ b → (TJ0 a).2.1 ≠ (TJ0 b).2.1 := by decide +kernel
theorem tyJ0_ok : ∀ k, k < 0 → parseFieldDescriptor (TJ0 k).2.2.1 = some (tyJ0 k) := by decide +kernel
abbrev cJ0_length_8abf5 : ByteArray := prog_18_method_54_code
def yJ0_length_8abf5 : MethodName := ⟨RJ0, "length", "()I"⟩
abbrev cJ0_charAt_5068e : ByteArray := prog_18_method_56_code
def yJ0_charAt_5068e : MethodName := ⟨RJ0, "charAt", "(I)C"⟩
abbrev cJ0_coder_7d493 : ByteArray := prog_18_method_152_code
def yJ0_coder_7d493 : MethodName := ⟨RJ0, "coder", "()B"⟩
abbrev cJ0_isLatin1_aae02 : ByteArray := prog_18_method_154_code
def yJ0_isLatin1_aae02 : MethodName := ⟨RJ0, "isLatin1", "()Z"⟩
abbrev cJ0_checkIndex_df160 : ByteArray := prog_18_method_155_code
def yJ0_checkIndex_df160 : MethodName := ⟨RJ0, "checkIndex", "(II)V"⟩
def RJ1 : String := "java/lang/StringLatin1"
def TJ1 : u_T := fun k => match k with
  | _ => ("", "", "", false)
def tyJ1 : Nat → FieldType := fun k => match k with
  | _ => .int
theorem nmJ1 : ∀ a, a < 0 → ∀ b, b < 0 → a ≠ b → (TJ1 a).2.1 ≠ (TJ1 b).2.1 := by decide +kernel
theorem tyJ1_ok : ∀ k, k < 0 → parseFieldDescriptor (TJ1 k).2.2.1 = some (tyJ1 k) := by decide +kernel
abbrev cJ1_charAt_3b067 : ByteArray := prog_19_method_2_code
def yJ1_charAt_3b067 : MethodName := ⟨RJ1, "charAt", "([BI)C"⟩
def RJ2 : String := "java/lang/StringUTF16"
def TJ2 : u_T := fun k => match k with
  | _ => ("", "", "", false)
def tyJ2 : Nat → FieldType := fun k => match k with
  | _ => .int
theorem nmJ2 : ∀ a, a < 0 → ∀ b, b < 0 → a ≠ b → (TJ2 a).2.1 ≠ (TJ2 b).2.1 := by decide +kernel
theorem tyJ2_ok : ∀ k, k < 0 → parseFieldDescriptor (TJ2 k).2.2.1 = some (tyJ2 k) := by decide +kernel
abbrev cJ2_getChar_3b067 : ByteArray := prog_20_method_5_code
def yJ2_getChar_3b067 : MethodName := ⟨RJ2, "getChar", "([BI)C"⟩
abbrev cJ2_length_9d52b : ByteArray := prog_20_method_6_code
def yJ2_length_9d52b : MethodName := ⟨RJ2, "length", "([B)I"⟩
abbrev cJ2_charAt_3b067 : ByteArray := prog_20_method_83_code
def yJ2_charAt_3b067 : MethodName := ⟨RJ2, "charAt", "([BI)C"⟩
abbrev cJ2_checkIndex_2214a : ByteArray := prog_20_method_91_code
def yJ2_checkIndex_2214a : MethodName := ⟨RJ2, "checkIndex", "(I[B)V"⟩
def RJ10 : String := "java/lang/System"
def TJ10 : u_T := fun k => match k with
  | _ => ("", "", "", false)
def tyJ10 : Nat → FieldType := fun k => match k with
  | _ => .int
theorem nmJ10 : ∀ a, a < 0 → ∀ b, b < 0 → a ≠ b → (TJ10 a).2.1 ≠ (TJ10 b).2.1 := by decide +kernel
theorem tyJ10_ok : ∀ k, k < 0 → parseFieldDescriptor (TJ10 k).2.2.1 = some (tyJ10 k) := by decide +kernel
def RJ3 : String := "jdk/internal/util/Preconditions"
def TJ3 : u_T := fun k => match k with
  | _ => ("", "", "", false)
def tyJ3 : Nat → FieldType := fun k => match k with
  | _ => .int
theorem nmJ3 : ∀ a, a < 0 → ∀ b, b < 0 → a ≠ b → (TJ3 a).2.1 ≠ (TJ3 b).2.1 := by decide +kernel
theorem tyJ3_ok : ∀ k, k < 0 → parseFieldDescriptor (TJ3 k).2.2.1 = some (tyJ3 k) := by decide +kernel
abbrev cJ3_checkIndex_8e157 : ByteArray := prog_23_method_11_code
def yJ3_checkIndex_8e157 : MethodName := ⟨RJ3, "checkIndex", "(IILjava/util/function/BiFunction;)I"⟩
def RL : String := "QuarterMapsLaw"
abbrev cL_load : ByteArray := method_3_code
def yL_load : MethodName := ⟨RL, "load", "(LQuarterMaps;I[J)I"⟩
abbrev cL_find : ByteArray := method_4_code
def yL_find : MethodName := ⟨RL, "find", "(LQuarterMaps;I[J)I"⟩
abbrev cL_checks : ByteArray := method_5_code
def yL_checks : MethodName := ⟨RL, "checks", "(LQuarterMaps;I[J)I"⟩
abbrev cL_count : ByteArray := method_6_code
def yL_count : MethodName := ⟨RL, "count", "(LQuarterMaps;I[J)I"⟩
abbrev cL_bit : ByteArray := method_7_code
def yL_bit : MethodName := ⟨RL, "bit", "(LQuarterMaps;II[J)I"⟩
abbrev cL_ones : ByteArray := method_8_code
def yL_ones : MethodName := ⟨RL, "ones", "(LQuarterMaps;III[J)I"⟩
abbrev cL_next : ByteArray := method_9_code
def yL_next : MethodName := ⟨RL, "next", "(LQuarterMaps;III[J)I"⟩
abbrev cL_select : ByteArray := method_10_code
def yL_select : MethodName := ⟨RL, "select", "(LQuarterMaps;II[J)I"⟩
abbrev cL_runs : ByteArray := method_11_code
def yL_runs : MethodName := ⟨RL, "runs", "(LQuarterMaps;II[J)I"⟩
abbrev cL_longestRun : ByteArray := method_12_code
def yL_longestRun : MethodName := ⟨RL, "longestRun", "(LQuarterMaps;II[J)I"⟩
abbrev cL_bytes : ByteArray := method_13_code
def yL_bytes : MethodName := ⟨RL, "bytes", "(LQuarterMaps;I[J)I"⟩
abbrev cL_byteAt : ByteArray := method_14_code
def yL_byteAt : MethodName := ⟨RL, "byteAt", "(LQuarterMaps;II[J)I"⟩
abbrev cL_parts : ByteArray := method_15_code
def yL_parts : MethodName := ⟨RL, "parts", "(LQuarterMaps;II[J)I"⟩
abbrev cL_block : ByteArray := method_16_code
def yL_block : MethodName := ⟨RL, "block", "(LQuarterMaps;IIII[J)I"⟩
abbrev cL_teller : ByteArray := method_17_code
def yL_teller : MethodName := ⟨RL, "teller", "(LQuarterMaps;II[J)I"⟩
abbrev cL_told : ByteArray := method_18_code
def yL_told : MethodName := ⟨RL, "told", "(LQuarterMaps;II[J)I"⟩
abbrev cL_lowest : ByteArray := method_19_code
def yL_lowest : MethodName := ⟨RL, "lowest", "(LQuarterMaps;I[J)I"⟩
abbrev cL_biggest : ByteArray := method_20_code
def yL_biggest : MethodName := ⟨RL, "biggest", "(LQuarterMaps;II[J)I"⟩
abbrev cL_cheapest : ByteArray := method_21_code
def yL_cheapest : MethodName := ⟨RL, "cheapest", "(LQuarterMaps;[J)I"⟩
abbrev cL_meanBits : ByteArray := method_22_code
def yL_meanBits : MethodName := ⟨RL, "meanBits", "(LQuarterMaps;I[D)I"⟩
abbrev cL_share : ByteArray := method_23_code
def yL_share : MethodName := ⟨RL, "share", "(LQuarterMaps;I[D)I"⟩
abbrev cL_common : ByteArray := method_24_code
def yL_common : MethodName := ⟨RL, "common", "(LQuarterMaps;II[J)I"⟩
abbrev cL_distance : ByteArray := method_25_code
def yL_distance : MethodName := ⟨RL, "distance", "(LQuarterMaps;II[J)I"⟩
abbrev cL_differs : ByteArray := method_26_code
def yL_differs : MethodName := ⟨RL, "differs", "(LQuarterMaps;II[J)I"⟩
abbrev cL_isWithin : ByteArray := method_27_code
def yL_isWithin : MethodName := ⟨RL, "isWithin", "(LQuarterMaps;II[J)I"⟩
abbrev cL_alike : ByteArray := method_28_code
def yL_alike : MethodName := ⟨RL, "alike", "(LQuarterMaps;III[J)I"⟩
abbrev cL_combined : ByteArray := method_29_code
def yL_combined : MethodName := ⟨RL, "combined", "(LQuarterMaps;III[J)I"⟩
abbrev cL_nearest : ByteArray := method_30_code
def yL_nearest : MethodName := ⟨RL, "nearest", "(LQuarterMaps;I[J)I"⟩
abbrev cL_bytesIf : ByteArray := method_31_code
def yL_bytesIf : MethodName := ⟨RL, "bytesIf", "(LQuarterMaps;II[J)I"⟩
abbrev cL_bestFlip : ByteArray := method_32_code
def yL_bestFlip : MethodName := ⟨RL, "bestFlip", "(LQuarterMaps;III[J)I"⟩
abbrev cL_bytesFilled : ByteArray := method_33_code
def yL_bytesFilled : MethodName := ⟨RL, "bytesFilled", "(LQuarterMaps;IIII[J)I"⟩
abbrev cL_bytesShifted : ByteArray := method_34_code
def yL_bytesShifted : MethodName := ⟨RL, "bytesShifted", "(LQuarterMaps;II[J)I"⟩
abbrev cL_mostLike : ByteArray := method_35_code
def yL_mostLike : MethodName := ⟨RL, "mostLike", "(LQuarterMaps;III[J)I"⟩
abbrev cL_writeBytes : ByteArray := method_36_code
def yL_writeBytes : MethodName := ⟨RL, "writeBytes", "(LQuarterMaps;I[J)I"⟩
abbrev cL_writeBits : ByteArray := method_37_code
def yL_writeBits : MethodName := ⟨RL, "writeBits", "(LQuarterMaps;III[J)I"⟩
abbrev cL_writeTree : ByteArray := method_38_code
def yL_writeTree : MethodName := ⟨RL, "writeTree", "(LQuarterMaps;I[J)I"⟩
abbrev cL_textByte : ByteArray := method_39_code
def yL_textByte : MethodName := ⟨RL, "textByte", "(LQuarterMaps;I[J)I"⟩
abbrev cL_fill : ByteArray := method_40_code
def yL_fill : MethodName := ⟨RL, "fill", "(LQuarterMaps;IIII[J)I"⟩
abbrev cL_flip : ByteArray := method_41_code
def yL_flip : MethodName := ⟨RL, "flip", "(LQuarterMaps;III[J)I"⟩
abbrev cL_combine : ByteArray := method_42_code
def yL_combine : MethodName := ⟨RL, "combine", "(LQuarterMaps;IIII[J)I"⟩
abbrev cL_copyBlock : ByteArray := method_43_code
def yL_copyBlock : MethodName := ⟨RL, "copyBlock", "(LQuarterMaps;IIII[J)I"⟩
abbrev cL_shift : ByteArray := method_44_code
def yL_shift : MethodName := ⟨RL, "shift", "(LQuarterMaps;II[J)I"⟩
abbrev cL_mirror : ByteArray := method_45_code
def yL_mirror : MethodName := ⟨RL, "mirror", "(LQuarterMaps;I[J)I"⟩
abbrev cL_read : ByteArray := method_46_code
def yL_read : MethodName := ⟨RL, "read", "(LQuarterMaps;II[J)I"⟩
abbrev cL_undo : ByteArray := method_47_code
def yL_undo : MethodName := ⟨RL, "undo", "(LQuarterMaps;[J)I"⟩
abbrev cL_save : ByteArray := method_48_code
def yL_save : MethodName := ⟨RL, "save", "(LQuarterMaps;I[J)I"⟩
abbrev cL_restore : ByteArray := method_49_code
def yL_restore : MethodName := ⟨RL, "restore", "(LQuarterMaps;I[J)I"⟩
abbrev cL_law : ByteArray := code
def yL_law : MethodName := ⟨RL, "law", "([I)Z"⟩
theorem dX0_init_0 : decode cX0_init 0 = .ok (.aload_n 0, 1) := by decide +kernel
theorem dX0_init_1 : decode cX0_init 1 = .ok (.invokespecial 3, 3) := by decide +kernel
theorem dX0_init_4 : decode cX0_init 4 = .ok (.aload_n 0, 1) := by decide +kernel
theorem dX0_init_5 : decode cX0_init 5 = .ok (.sipush 8448, 3) := by decide +kernel
theorem dX0_init_8 : decode cX0_init 8 = .ok (.newarray .int, 2) := by decide +kernel
theorem dX0_init_10 : decode cX0_init 10 = .ok (.putfield 9, 3) := by decide +kernel
theorem dX0_init_13 : decode cX0_init 13 = .ok (.return_, 1) := by decide +kernel
theorem dX0_cell_0 : decode cX0_cell 0 = .ok (.iload_n 1, 1) := by decide +kernel
theorem dX0_cell_1 : decode cX0_cell 1 = .ok (.sipush 256, 3) := by decide +kernel
theorem dX0_cell_4 : decode cX0_cell 4 = .ok (.imul, 1) := by decide +kernel
theorem dX0_cell_5 : decode cX0_cell 5 = .ok (.iload_n 2, 1) := by decide +kernel
theorem dX0_cell_6 : decode cX0_cell 6 = .ok (.iadd, 1) := by decide +kernel
theorem dX0_cell_7 : decode cX0_cell 7 = .ok (.istore_n 3, 1) := by decide +kernel
theorem dX0_cell_8 : decode cX0_cell 8 = .ok (.iload_n 3, 1) := by decide +kernel
theorem dX0_cell_9 : decode cX0_cell 9 = .ok (.ifCond .lt 21, 3) := by decide +kernel
theorem dX0_cell_12 : decode cX0_cell 12 = .ok (.iload_n 3, 1) := by decide +kernel
theorem dX0_cell_13 : decode cX0_cell 13 = .ok (.aload_n 0, 1) := by decide +kernel
theorem dX0_cell_14 : decode cX0_cell 14 = .ok (.getfield 9, 3) := by decide +kernel
theorem dX0_cell_17 : decode cX0_cell 17 = .ok (.arraylength, 1) := by decide +kernel
theorem dX0_cell_18 : decode cX0_cell 18 = .ok (.if_icmp .ge 12, 3) := by decide +kernel
theorem dX0_cell_21 : decode cX0_cell 21 = .ok (.aload_n 0, 1) := by decide +kernel
theorem dX0_cell_22 : decode cX0_cell 22 = .ok (.getfield 9, 3) := by decide +kernel
theorem dX0_cell_25 : decode cX0_cell 25 = .ok (.iload_n 3, 1) := by decide +kernel
theorem dX0_cell_26 : decode cX0_cell 26 = .ok (.iaload, 1) := by decide +kernel
theorem dX0_cell_27 : decode cX0_cell 27 = .ok (.goto 4, 3) := by decide +kernel
theorem dX0_cell_30 : decode cX0_cell 30 = .ok (.iconst 0, 1) := by decide +kernel
theorem dX0_cell_31 : decode cX0_cell 31 = .ok (.ireturn, 1) := by decide +kernel
theorem dX0_put_0 : decode cX0_put 0 = .ok (.iload_n 1, 1) := by decide +kernel
theorem dX0_put_1 : decode cX0_put 1 = .ok (.sipush 256, 3) := by decide +kernel
theorem dX0_put_4 : decode cX0_put 4 = .ok (.imul, 1) := by decide +kernel
theorem dX0_put_5 : decode cX0_put 5 = .ok (.iload_n 2, 1) := by decide +kernel
theorem dX0_put_6 : decode cX0_put 6 = .ok (.iadd, 1) := by decide +kernel
theorem dX0_put_7 : decode cX0_put 7 = .ok (.istore 4, 2) := by decide +kernel
theorem dX0_put_9 : decode cX0_put 9 = .ok (.iload 4, 2) := by decide +kernel
theorem dX0_put_11 : decode cX0_put 11 = .ok (.ifCond .lt 21, 3) := by decide +kernel
theorem dX0_put_14 : decode cX0_put 14 = .ok (.iload 4, 2) := by decide +kernel
theorem dX0_put_16 : decode cX0_put 16 = .ok (.aload_n 0, 1) := by decide +kernel
theorem dX0_put_17 : decode cX0_put 17 = .ok (.getfield 9, 3) := by decide +kernel
theorem dX0_put_20 : decode cX0_put 20 = .ok (.arraylength, 1) := by decide +kernel
theorem dX0_put_21 : decode cX0_put 21 = .ok (.if_icmp .ge 11, 3) := by decide +kernel
theorem dX0_put_24 : decode cX0_put 24 = .ok (.aload_n 0, 1) := by decide +kernel
theorem dX0_put_25 : decode cX0_put 25 = .ok (.getfield 9, 3) := by decide +kernel
theorem dX0_put_28 : decode cX0_put 28 = .ok (.iload 4, 2) := by decide +kernel
theorem dX0_put_30 : decode cX0_put 30 = .ok (.iload_n 3, 1) := by decide +kernel
theorem dX0_put_31 : decode cX0_put 31 = .ok (.iastore, 1) := by decide +kernel
theorem dX0_put_32 : decode cX0_put 32 = .ok (.return_, 1) := by decide +kernel
theorem dX0_holds_0 : decode cX0_holds 0 = .ok (.iload_n 1, 1) := by decide +kernel
theorem dX0_holds_1 : decode cX0_holds 1 = .ok (.ifCond .lt 22, 3) := by decide +kernel
theorem dX0_holds_4 : decode cX0_holds 4 = .ok (.iload_n 2, 1) := by decide +kernel
theorem dX0_holds_5 : decode cX0_holds 5 = .ok (.ifCond .lt 18, 3) := by decide +kernel
theorem dX0_holds_8 : decode cX0_holds 8 = .ok (.iload_n 1, 1) := by decide +kernel
theorem dX0_holds_9 : decode cX0_holds 9 = .ok (.aload_n 0, 1) := by decide +kernel
theorem dX0_holds_10 : decode cX0_holds 10 = .ok (.getfield 9, 3) := by decide +kernel
theorem dX0_holds_13 : decode cX0_holds 13 = .ok (.arraylength, 1) := by decide +kernel
theorem dX0_holds_14 : decode cX0_holds 14 = .ok (.iload_n 2, 1) := by decide +kernel
theorem dX0_holds_15 : decode cX0_holds 15 = .ok (.isub, 1) := by decide +kernel
theorem dX0_holds_16 : decode cX0_holds 16 = .ok (.if_icmp .gt 7, 3) := by decide +kernel
theorem dX0_holds_19 : decode cX0_holds 19 = .ok (.iconst 1, 1) := by decide +kernel
theorem dX0_holds_20 : decode cX0_holds 20 = .ok (.goto 4, 3) := by decide +kernel
theorem dX0_holds_23 : decode cX0_holds 23 = .ok (.iconst 0, 1) := by decide +kernel
theorem dX0_holds_24 : decode cX0_holds 24 = .ok (.ireturn, 1) := by decide +kernel
theorem dX0_copyRow_0 : decode cX0_copyRow 0 = .ok (.aload_n 0, 1) := by decide +kernel
theorem dX0_copyRow_1 : decode cX0_copyRow 1 = .ok (.iload_n 1, 1) := by decide +kernel
theorem dX0_copyRow_2 : decode cX0_copyRow 2 = .ok (.sipush 256, 3) := by decide +kernel
theorem dX0_copyRow_5 : decode cX0_copyRow 5 = .ok (.imul, 1) := by decide +kernel
theorem dX0_copyRow_6 : decode cX0_copyRow 6 = .ok (.sipush 256, 3) := by decide +kernel
theorem dX0_copyRow_9 : decode cX0_copyRow 9 = .ok (.invokevirtual 15, 3) := by decide +kernel
theorem dX0_copyRow_12 : decode cX0_copyRow 12 = .ok (.ifCond .eq 42, 3) := by decide +kernel
theorem dX0_copyRow_15 : decode cX0_copyRow 15 = .ok (.aload_n 0, 1) := by decide +kernel
theorem dX0_copyRow_16 : decode cX0_copyRow 16 = .ok (.iload_n 2, 1) := by decide +kernel
theorem dX0_copyRow_17 : decode cX0_copyRow 17 = .ok (.sipush 256, 3) := by decide +kernel
theorem dX0_copyRow_20 : decode cX0_copyRow 20 = .ok (.imul, 1) := by decide +kernel
theorem dX0_copyRow_21 : decode cX0_copyRow 21 = .ok (.sipush 256, 3) := by decide +kernel
theorem dX0_copyRow_24 : decode cX0_copyRow 24 = .ok (.invokevirtual 15, 3) := by decide +kernel
theorem dX0_copyRow_27 : decode cX0_copyRow 27 = .ok (.ifCond .eq 27, 3) := by decide +kernel
theorem dX0_copyRow_30 : decode cX0_copyRow 30 = .ok (.aload_n 0, 1) := by decide +kernel
theorem dX0_copyRow_31 : decode cX0_copyRow 31 = .ok (.getfield 9, 3) := by decide +kernel
theorem dX0_copyRow_34 : decode cX0_copyRow 34 = .ok (.iload_n 1, 1) := by decide +kernel
theorem dX0_copyRow_35 : decode cX0_copyRow 35 = .ok (.sipush 256, 3) := by decide +kernel
theorem dX0_copyRow_38 : decode cX0_copyRow 38 = .ok (.imul, 1) := by decide +kernel
theorem dX0_copyRow_39 : decode cX0_copyRow 39 = .ok (.aload_n 0, 1) := by decide +kernel
theorem dX0_copyRow_40 : decode cX0_copyRow 40 = .ok (.getfield 9, 3) := by decide +kernel
theorem dX0_copyRow_43 : decode cX0_copyRow 43 = .ok (.iload_n 2, 1) := by decide +kernel
theorem dX0_copyRow_44 : decode cX0_copyRow 44 = .ok (.sipush 256, 3) := by decide +kernel
theorem dX0_copyRow_47 : decode cX0_copyRow 47 = .ok (.imul, 1) := by decide +kernel
theorem dX0_copyRow_48 : decode cX0_copyRow 48 = .ok (.sipush 256, 3) := by decide +kernel
theorem dX0_copyRow_51 : decode cX0_copyRow 51 = .ok (.invokestatic 19, 3) := by decide +kernel
theorem dX0_copyRow_54 : decode cX0_copyRow 54 = .ok (.return_, 1) := by decide +kernel
theorem dX0_copyCells_0 : decode cX0_copyCells 0 = .ok (.iload_n 1, 1) := by decide +kernel
theorem dX0_copyCells_1 : decode cX0_copyCells 1 = .ok (.sipush 256, 3) := by decide +kernel
theorem dX0_copyCells_4 : decode cX0_copyCells 4 = .ok (.imul, 1) := by decide +kernel
theorem dX0_copyCells_5 : decode cX0_copyCells 5 = .ok (.iload_n 2, 1) := by decide +kernel
theorem dX0_copyCells_6 : decode cX0_copyCells 6 = .ok (.iadd, 1) := by decide +kernel
theorem dX0_copyCells_7 : decode cX0_copyCells 7 = .ok (.istore 5, 2) := by decide +kernel
theorem dX0_copyCells_9 : decode cX0_copyCells 9 = .ok (.iload_n 1, 1) := by decide +kernel
theorem dX0_copyCells_10 : decode cX0_copyCells 10 = .ok (.sipush 256, 3) := by decide +kernel
theorem dX0_copyCells_13 : decode cX0_copyCells 13 = .ok (.imul, 1) := by decide +kernel
theorem dX0_copyCells_14 : decode cX0_copyCells 14 = .ok (.iload_n 3, 1) := by decide +kernel
theorem dX0_copyCells_15 : decode cX0_copyCells 15 = .ok (.iadd, 1) := by decide +kernel
theorem dX0_copyCells_16 : decode cX0_copyCells 16 = .ok (.istore 6, 2) := by decide +kernel
theorem dX0_copyCells_18 : decode cX0_copyCells 18 = .ok (.aload_n 0, 1) := by decide +kernel
theorem dX0_copyCells_19 : decode cX0_copyCells 19 = .ok (.iload 5, 2) := by decide +kernel
theorem dX0_copyCells_21 : decode cX0_copyCells 21 = .ok (.iload 4, 2) := by decide +kernel
theorem dX0_copyCells_23 : decode cX0_copyCells 23 = .ok (.invokevirtual 15, 3) := by decide +kernel
theorem dX0_copyCells_26 : decode cX0_copyCells 26 = .ok (.ifCond .eq 31, 3) := by decide +kernel
theorem dX0_copyCells_29 : decode cX0_copyCells 29 = .ok (.aload_n 0, 1) := by decide +kernel
theorem dX0_copyCells_30 : decode cX0_copyCells 30 = .ok (.iload 6, 2) := by decide +kernel
theorem dX0_copyCells_32 : decode cX0_copyCells 32 = .ok (.iload 4, 2) := by decide +kernel
theorem dX0_copyCells_34 : decode cX0_copyCells 34 = .ok (.invokevirtual 15, 3) := by decide +kernel
theorem dX0_copyCells_37 : decode cX0_copyCells 37 = .ok (.ifCond .eq 20, 3) := by decide +kernel
theorem dX0_copyCells_40 : decode cX0_copyCells 40 = .ok (.aload_n 0, 1) := by decide +kernel
theorem dX0_copyCells_41 : decode cX0_copyCells 41 = .ok (.getfield 9, 3) := by decide +kernel
theorem dX0_copyCells_44 : decode cX0_copyCells 44 = .ok (.iload 5, 2) := by decide +kernel
theorem dX0_copyCells_46 : decode cX0_copyCells 46 = .ok (.aload_n 0, 1) := by decide +kernel
theorem dX0_copyCells_47 : decode cX0_copyCells 47 = .ok (.getfield 9, 3) := by decide +kernel
theorem dX0_copyCells_50 : decode cX0_copyCells 50 = .ok (.iload 6, 2) := by decide +kernel
theorem dX0_copyCells_52 : decode cX0_copyCells 52 = .ok (.iload 4, 2) := by decide +kernel
theorem dX0_copyCells_54 : decode cX0_copyCells 54 = .ok (.invokestatic 19, 3) := by decide +kernel
theorem dX0_copyCells_57 : decode cX0_copyCells 57 = .ok (.return_, 1) := by decide +kernel
theorem dX0_setCells_0 : decode cX0_setCells 0 = .ok (.iload_n 2, 1) := by decide +kernel
theorem dX0_setCells_1 : decode cX0_setCells 1 = .ok (.istore 5, 2) := by decide +kernel
theorem dX0_setCells_3 : decode cX0_setCells 3 = .ok (.iload 5, 2) := by decide +kernel
theorem dX0_setCells_5 : decode cX0_setCells 5 = .ok (.iload_n 2, 1) := by decide +kernel
theorem dX0_setCells_6 : decode cX0_setCells 6 = .ok (.iload_n 3, 1) := by decide +kernel
theorem dX0_setCells_7 : decode cX0_setCells 7 = .ok (.iadd, 1) := by decide +kernel
theorem dX0_setCells_8 : decode cX0_setCells 8 = .ok (.if_icmp .ge 18, 3) := by decide +kernel
theorem dX0_setCells_11 : decode cX0_setCells 11 = .ok (.aload_n 0, 1) := by decide +kernel
theorem dX0_setCells_12 : decode cX0_setCells 12 = .ok (.iload_n 1, 1) := by decide +kernel
theorem dX0_setCells_13 : decode cX0_setCells 13 = .ok (.iload 5, 2) := by decide +kernel
theorem dX0_setCells_15 : decode cX0_setCells 15 = .ok (.iload 4, 2) := by decide +kernel
theorem dX0_setCells_17 : decode cX0_setCells 17 = .ok (.invokevirtual 25, 3) := by decide +kernel
theorem dX0_setCells_20 : decode cX0_setCells 20 = .ok (.iinc 5 1, 3) := by decide +kernel
theorem dX0_setCells_23 : decode cX0_setCells 23 = .ok (.goto (-20), 3) := by decide +kernel
theorem dX0_setCells_26 : decode cX0_setCells 26 = .ok (.return_, 1) := by decide +kernel
theorem dX0_isAll_0 : decode cX0_isAll 0 = .ok (.iload_n 2, 1) := by decide +kernel
theorem dX0_isAll_1 : decode cX0_isAll 1 = .ok (.istore 5, 2) := by decide +kernel
theorem dX0_isAll_3 : decode cX0_isAll 3 = .ok (.iload 5, 2) := by decide +kernel
theorem dX0_isAll_5 : decode cX0_isAll 5 = .ok (.iload_n 2, 1) := by decide +kernel
theorem dX0_isAll_6 : decode cX0_isAll 6 = .ok (.iload_n 3, 1) := by decide +kernel
theorem dX0_isAll_7 : decode cX0_isAll 7 = .ok (.iadd, 1) := by decide +kernel
theorem dX0_isAll_8 : decode cX0_isAll 8 = .ok (.if_icmp .ge 23, 3) := by decide +kernel
theorem dX0_isAll_11 : decode cX0_isAll 11 = .ok (.aload_n 0, 1) := by decide +kernel
theorem dX0_isAll_12 : decode cX0_isAll 12 = .ok (.iload_n 1, 1) := by decide +kernel
theorem dX0_isAll_13 : decode cX0_isAll 13 = .ok (.iload 5, 2) := by decide +kernel
theorem dX0_isAll_15 : decode cX0_isAll 15 = .ok (.invokevirtual 29, 3) := by decide +kernel
theorem dX0_isAll_18 : decode cX0_isAll 18 = .ok (.iload 4, 2) := by decide +kernel
theorem dX0_isAll_20 : decode cX0_isAll 20 = .ok (.if_icmp .eq 5, 3) := by decide +kernel
theorem dX0_isAll_23 : decode cX0_isAll 23 = .ok (.iconst 0, 1) := by decide +kernel
theorem dX0_isAll_24 : decode cX0_isAll 24 = .ok (.ireturn, 1) := by decide +kernel
theorem dX0_isAll_25 : decode cX0_isAll 25 = .ok (.iinc 5 1, 3) := by decide +kernel
theorem dX0_isAll_28 : decode cX0_isAll 28 = .ok (.goto (-25), 3) := by decide +kernel
theorem dX0_isAll_31 : decode cX0_isAll 31 = .ok (.iconst 1, 1) := by decide +kernel
theorem dX0_isAll_32 : decode cX0_isAll 32 = .ok (.ireturn, 1) := by decide +kernel
theorem dX0_bitAt_0 : decode cX0_bitAt 0 = .ok (.aload_n 0, 1) := by decide +kernel
theorem dX0_bitAt_1 : decode cX0_bitAt 1 = .ok (.iload_n 1, 1) := by decide +kernel
theorem dX0_bitAt_2 : decode cX0_bitAt 2 = .ok (.iload_n 2, 1) := by decide +kernel
theorem dX0_bitAt_3 : decode cX0_bitAt 3 = .ok (.iconst 3, 1) := by decide +kernel
theorem dX0_bitAt_4 : decode cX0_bitAt 4 = .ok (.ishr, 1) := by decide +kernel
theorem dX0_bitAt_5 : decode cX0_bitAt 5 = .ok (.invokevirtual 29, 3) := by decide +kernel
theorem dX0_bitAt_8 : decode cX0_bitAt 8 = .ok (.iload_n 2, 1) := by decide +kernel
theorem dX0_bitAt_9 : decode cX0_bitAt 9 = .ok (.bipush 7, 2) := by decide +kernel
theorem dX0_bitAt_11 : decode cX0_bitAt 11 = .ok (.iand, 1) := by decide +kernel
theorem dX0_bitAt_12 : decode cX0_bitAt 12 = .ok (.ishr, 1) := by decide +kernel
theorem dX0_bitAt_13 : decode cX0_bitAt 13 = .ok (.iconst 1, 1) := by decide +kernel
theorem dX0_bitAt_14 : decode cX0_bitAt 14 = .ok (.iand, 1) := by decide +kernel
theorem dX0_bitAt_15 : decode cX0_bitAt 15 = .ok (.ireturn, 1) := by decide +kernel
theorem dX0_mask_0 : decode cX0_mask 0 = .ok (.iload_n 1, 1) := by decide +kernel
theorem dX0_mask_1 : decode cX0_mask 1 = .ok (.bipush 8, 2) := by decide +kernel
theorem dX0_mask_3 : decode cX0_mask 3 = .ok (.iload_n 0, 1) := by decide +kernel
theorem dX0_mask_4 : decode cX0_mask 4 = .ok (.imul, 1) := by decide +kernel
theorem dX0_mask_5 : decode cX0_mask 5 = .ok (.isub, 1) := by decide +kernel
theorem dX0_mask_6 : decode cX0_mask 6 = .ok (.iconst 0, 1) := by decide +kernel
theorem dX0_mask_7 : decode cX0_mask 7 = .ok (.invokestatic 33, 3) := by decide +kernel
theorem dX0_mask_10 : decode cX0_mask 10 = .ok (.istore_n 3, 1) := by decide +kernel
theorem dX0_mask_11 : decode cX0_mask 11 = .ok (.iload_n 2, 1) := by decide +kernel
theorem dX0_mask_12 : decode cX0_mask 12 = .ok (.bipush 8, 2) := by decide +kernel
theorem dX0_mask_14 : decode cX0_mask 14 = .ok (.iload_n 0, 1) := by decide +kernel
theorem dX0_mask_15 : decode cX0_mask 15 = .ok (.imul, 1) := by decide +kernel
theorem dX0_mask_16 : decode cX0_mask 16 = .ok (.isub, 1) := by decide +kernel
theorem dX0_mask_17 : decode cX0_mask 17 = .ok (.bipush 7, 2) := by decide +kernel
theorem dX0_mask_19 : decode cX0_mask 19 = .ok (.invokestatic 38, 3) := by decide +kernel
theorem dX0_mask_22 : decode cX0_mask 22 = .ok (.istore 4, 2) := by decide +kernel
theorem dX0_mask_24 : decode cX0_mask 24 = .ok (.iload_n 3, 1) := by decide +kernel
theorem dX0_mask_25 : decode cX0_mask 25 = .ok (.iload 4, 2) := by decide +kernel
theorem dX0_mask_27 : decode cX0_mask 27 = .ok (.if_icmp .le 7, 3) := by decide +kernel
theorem dX0_mask_30 : decode cX0_mask 30 = .ok (.iconst 0, 1) := by decide +kernel
theorem dX0_mask_31 : decode cX0_mask 31 = .ok (.goto 18, 3) := by decide +kernel
theorem dX0_mask_34 : decode cX0_mask 34 = .ok (.sipush 255, 3) := by decide +kernel
theorem dX0_mask_37 : decode cX0_mask 37 = .ok (.iload_n 3, 1) := by decide +kernel
theorem dX0_mask_38 : decode cX0_mask 38 = .ok (.ishl, 1) := by decide +kernel
theorem dX0_mask_39 : decode cX0_mask 39 = .ok (.sipush 255, 3) := by decide +kernel
theorem dX0_mask_42 : decode cX0_mask 42 = .ok (.bipush 7, 2) := by decide +kernel
theorem dX0_mask_44 : decode cX0_mask 44 = .ok (.iload 4, 2) := by decide +kernel
theorem dX0_mask_46 : decode cX0_mask 46 = .ok (.isub, 1) := by decide +kernel
theorem dX0_mask_47 : decode cX0_mask 47 = .ok (.ishr, 1) := by decide +kernel
theorem dX0_mask_48 : decode cX0_mask 48 = .ok (.iand, 1) := by decide +kernel
theorem dX0_mask_49 : decode cX0_mask 49 = .ok (.ireturn, 1) := by decide +kernel
theorem dX0_onesIn_0 : decode cX0_onesIn 0 = .ok (.iconst 0, 1) := by decide +kernel
theorem dX0_onesIn_1 : decode cX0_onesIn 1 = .ok (.istore 4, 2) := by decide +kernel
theorem dX0_onesIn_3 : decode cX0_onesIn 3 = .ok (.iload_n 2, 1) := by decide +kernel
theorem dX0_onesIn_4 : decode cX0_onesIn 4 = .ok (.iconst 3, 1) := by decide +kernel
theorem dX0_onesIn_5 : decode cX0_onesIn 5 = .ok (.ishr, 1) := by decide +kernel
theorem dX0_onesIn_6 : decode cX0_onesIn 6 = .ok (.istore 5, 2) := by decide +kernel
theorem dX0_onesIn_8 : decode cX0_onesIn 8 = .ok (.iload 5, 2) := by decide +kernel
theorem dX0_onesIn_10 : decode cX0_onesIn 10 = .ok (.iload_n 3, 1) := by decide +kernel
theorem dX0_onesIn_11 : decode cX0_onesIn 11 = .ok (.iconst 3, 1) := by decide +kernel
theorem dX0_onesIn_12 : decode cX0_onesIn 12 = .ok (.ishr, 1) := by decide +kernel
theorem dX0_onesIn_13 : decode cX0_onesIn 13 = .ok (.if_icmp .gt 32, 3) := by decide +kernel
theorem dX0_onesIn_16 : decode cX0_onesIn 16 = .ok (.iload 4, 2) := by decide +kernel
theorem dX0_onesIn_18 : decode cX0_onesIn 18 = .ok (.aload_n 0, 1) := by decide +kernel
theorem dX0_onesIn_19 : decode cX0_onesIn 19 = .ok (.iload_n 1, 1) := by decide +kernel
theorem dX0_onesIn_20 : decode cX0_onesIn 20 = .ok (.iload 5, 2) := by decide +kernel
theorem dX0_onesIn_22 : decode cX0_onesIn 22 = .ok (.invokevirtual 29, 3) := by decide +kernel
theorem dX0_onesIn_25 : decode cX0_onesIn 25 = .ok (.iload 5, 2) := by decide +kernel
theorem dX0_onesIn_27 : decode cX0_onesIn 27 = .ok (.iload_n 2, 1) := by decide +kernel
theorem dX0_onesIn_28 : decode cX0_onesIn 28 = .ok (.iload_n 3, 1) := by decide +kernel
theorem dX0_onesIn_29 : decode cX0_onesIn 29 = .ok (.invokestatic 41, 3) := by decide +kernel
theorem dX0_onesIn_32 : decode cX0_onesIn 32 = .ok (.iand, 1) := by decide +kernel
theorem dX0_onesIn_33 : decode cX0_onesIn 33 = .ok (.invokestatic 45, 3) := by decide +kernel
theorem dX0_onesIn_36 : decode cX0_onesIn 36 = .ok (.iadd, 1) := by decide +kernel
theorem dX0_onesIn_37 : decode cX0_onesIn 37 = .ok (.istore 4, 2) := by decide +kernel
theorem dX0_onesIn_39 : decode cX0_onesIn 39 = .ok (.iinc 5 1, 3) := by decide +kernel
theorem dX0_onesIn_42 : decode cX0_onesIn 42 = .ok (.goto (-34), 3) := by decide +kernel
theorem dX0_onesIn_45 : decode cX0_onesIn 45 = .ok (.iload 4, 2) := by decide +kernel
theorem dX0_onesIn_47 : decode cX0_onesIn 47 = .ok (.ireturn, 1) := by decide +kernel
theorem dX0_cover_0 : decode cX0_cover 0 = .ok (.iload_n 2, 1) := by decide +kernel
theorem dX0_cover_1 : decode cX0_cover 1 = .ok (.iconst 3, 1) := by decide +kernel
theorem dX0_cover_2 : decode cX0_cover 2 = .ok (.ishr, 1) := by decide +kernel
theorem dX0_cover_3 : decode cX0_cover 3 = .ok (.istore 5, 2) := by decide +kernel
theorem dX0_cover_5 : decode cX0_cover 5 = .ok (.iload 5, 2) := by decide +kernel
theorem dX0_cover_7 : decode cX0_cover 7 = .ok (.iload_n 3, 1) := by decide +kernel
theorem dX0_cover_8 : decode cX0_cover 8 = .ok (.iconst 3, 1) := by decide +kernel
theorem dX0_cover_9 : decode cX0_cover 9 = .ok (.ishr, 1) := by decide +kernel
theorem dX0_cover_10 : decode cX0_cover 10 = .ok (.if_icmp .gt 56, 3) := by decide +kernel
theorem dX0_cover_13 : decode cX0_cover 13 = .ok (.iload 5, 2) := by decide +kernel
theorem dX0_cover_15 : decode cX0_cover 15 = .ok (.iload_n 2, 1) := by decide +kernel
theorem dX0_cover_16 : decode cX0_cover 16 = .ok (.iload_n 3, 1) := by decide +kernel
theorem dX0_cover_17 : decode cX0_cover 17 = .ok (.invokestatic 41, 3) := by decide +kernel
theorem dX0_cover_20 : decode cX0_cover 20 = .ok (.istore 6, 2) := by decide +kernel
theorem dX0_cover_22 : decode cX0_cover 22 = .ok (.aload_n 0, 1) := by decide +kernel
theorem dX0_cover_23 : decode cX0_cover 23 = .ok (.iload_n 1, 1) := by decide +kernel
theorem dX0_cover_24 : decode cX0_cover 24 = .ok (.iload 5, 2) := by decide +kernel
theorem dX0_cover_26 : decode cX0_cover 26 = .ok (.iload 4, 2) := by decide +kernel
theorem dX0_cover_28 : decode cX0_cover 28 = .ok (.iconst 1, 1) := by decide +kernel
theorem dX0_cover_29 : decode cX0_cover 29 = .ok (.if_icmp .ne 16, 3) := by decide +kernel
theorem dX0_cover_32 : decode cX0_cover 32 = .ok (.aload_n 0, 1) := by decide +kernel
theorem dX0_cover_33 : decode cX0_cover 33 = .ok (.iload_n 1, 1) := by decide +kernel
theorem dX0_cover_34 : decode cX0_cover 34 = .ok (.iload 5, 2) := by decide +kernel
theorem dX0_cover_36 : decode cX0_cover 36 = .ok (.invokevirtual 29, 3) := by decide +kernel
theorem dX0_cover_39 : decode cX0_cover 39 = .ok (.iload 6, 2) := by decide +kernel
theorem dX0_cover_41 : decode cX0_cover 41 = .ok (.ior, 1) := by decide +kernel
theorem dX0_cover_42 : decode cX0_cover 42 = .ok (.goto 15, 3) := by decide +kernel
theorem dX0_cover_45 : decode cX0_cover 45 = .ok (.aload_n 0, 1) := by decide +kernel
theorem dX0_cover_46 : decode cX0_cover 46 = .ok (.iload_n 1, 1) := by decide +kernel
theorem dX0_cover_47 : decode cX0_cover 47 = .ok (.iload 5, 2) := by decide +kernel
theorem dX0_cover_49 : decode cX0_cover 49 = .ok (.invokevirtual 29, 3) := by decide +kernel
theorem dX0_cover_52 : decode cX0_cover 52 = .ok (.iload 6, 2) := by decide +kernel
theorem dX0_cover_54 : decode cX0_cover 54 = .ok (.iconst (-1), 1) := by decide +kernel
theorem dX0_cover_55 : decode cX0_cover 55 = .ok (.ixor, 1) := by decide +kernel
theorem dX0_cover_56 : decode cX0_cover 56 = .ok (.iand, 1) := by decide +kernel
theorem dX0_cover_57 : decode cX0_cover 57 = .ok (.invokevirtual 25, 3) := by decide +kernel
theorem dX0_cover_60 : decode cX0_cover 60 = .ok (.iinc 5 1, 3) := by decide +kernel
theorem dX0_cover_63 : decode cX0_cover 63 = .ok (.goto (-58), 3) := by decide +kernel
theorem dX0_cover_66 : decode cX0_cover 66 = .ok (.return_, 1) := by decide +kernel
theorem dX0_invert_0 : decode cX0_invert 0 = .ok (.iload_n 2, 1) := by decide +kernel
theorem dX0_invert_1 : decode cX0_invert 1 = .ok (.iconst 3, 1) := by decide +kernel
theorem dX0_invert_2 : decode cX0_invert 2 = .ok (.ishr, 1) := by decide +kernel
theorem dX0_invert_3 : decode cX0_invert 3 = .ok (.istore 4, 2) := by decide +kernel
theorem dX0_invert_5 : decode cX0_invert 5 = .ok (.iload 4, 2) := by decide +kernel
theorem dX0_invert_7 : decode cX0_invert 7 = .ok (.iload_n 3, 1) := by decide +kernel
theorem dX0_invert_8 : decode cX0_invert 8 = .ok (.iconst 3, 1) := by decide +kernel
theorem dX0_invert_9 : decode cX0_invert 9 = .ok (.ishr, 1) := by decide +kernel
theorem dX0_invert_10 : decode cX0_invert 10 = .ok (.if_icmp .gt 31, 3) := by decide +kernel
theorem dX0_invert_13 : decode cX0_invert 13 = .ok (.aload_n 0, 1) := by decide +kernel
theorem dX0_invert_14 : decode cX0_invert 14 = .ok (.iload_n 1, 1) := by decide +kernel
theorem dX0_invert_15 : decode cX0_invert 15 = .ok (.iload 4, 2) := by decide +kernel
theorem dX0_invert_17 : decode cX0_invert 17 = .ok (.aload_n 0, 1) := by decide +kernel
theorem dX0_invert_18 : decode cX0_invert 18 = .ok (.iload_n 1, 1) := by decide +kernel
theorem dX0_invert_19 : decode cX0_invert 19 = .ok (.iload 4, 2) := by decide +kernel
theorem dX0_invert_21 : decode cX0_invert 21 = .ok (.invokevirtual 29, 3) := by decide +kernel
theorem dX0_invert_24 : decode cX0_invert 24 = .ok (.iload 4, 2) := by decide +kernel
theorem dX0_invert_26 : decode cX0_invert 26 = .ok (.iload_n 2, 1) := by decide +kernel
theorem dX0_invert_27 : decode cX0_invert 27 = .ok (.iload_n 3, 1) := by decide +kernel
theorem dX0_invert_28 : decode cX0_invert 28 = .ok (.invokestatic 41, 3) := by decide +kernel
theorem dX0_invert_31 : decode cX0_invert 31 = .ok (.ixor, 1) := by decide +kernel
theorem dX0_invert_32 : decode cX0_invert 32 = .ok (.invokevirtual 25, 3) := by decide +kernel
theorem dX0_invert_35 : decode cX0_invert 35 = .ok (.iinc 4 1, 3) := by decide +kernel
theorem dX0_invert_38 : decode cX0_invert 38 = .ok (.goto (-33), 3) := by decide +kernel
theorem dX0_invert_41 : decode cX0_invert 41 = .ok (.return_, 1) := by decide +kernel
theorem dX0_merge_0 : decode cX0_merge 0 = .ok (.iconst 0, 1) := by decide +kernel
theorem dX0_merge_1 : decode cX0_merge 1 = .ok (.istore 5, 2) := by decide +kernel
theorem dX0_merge_3 : decode cX0_merge 3 = .ok (.iload 5, 2) := by decide +kernel
theorem dX0_merge_5 : decode cX0_merge 5 = .ok (.sipush 256, 3) := by decide +kernel
theorem dX0_merge_8 : decode cX0_merge 8 = .ok (.if_icmp .ge 35, 3) := by decide +kernel
theorem dX0_merge_11 : decode cX0_merge 11 = .ok (.aload_n 0, 1) := by decide +kernel
theorem dX0_merge_12 : decode cX0_merge 12 = .ok (.iload 4, 2) := by decide +kernel
theorem dX0_merge_14 : decode cX0_merge 14 = .ok (.iload 5, 2) := by decide +kernel
theorem dX0_merge_16 : decode cX0_merge 16 = .ok (.iload_n 1, 1) := by decide +kernel
theorem dX0_merge_17 : decode cX0_merge 17 = .ok (.aload_n 0, 1) := by decide +kernel
theorem dX0_merge_18 : decode cX0_merge 18 = .ok (.iload_n 2, 1) := by decide +kernel
theorem dX0_merge_19 : decode cX0_merge 19 = .ok (.iload 5, 2) := by decide +kernel
theorem dX0_merge_21 : decode cX0_merge 21 = .ok (.invokevirtual 29, 3) := by decide +kernel
theorem dX0_merge_24 : decode cX0_merge 24 = .ok (.aload_n 0, 1) := by decide +kernel
theorem dX0_merge_25 : decode cX0_merge 25 = .ok (.iload_n 3, 1) := by decide +kernel
theorem dX0_merge_26 : decode cX0_merge 26 = .ok (.iload 5, 2) := by decide +kernel
theorem dX0_merge_28 : decode cX0_merge 28 = .ok (.invokevirtual 29, 3) := by decide +kernel
theorem dX0_merge_31 : decode cX0_merge 31 = .ok (.invokestatic 51, 3) := by decide +kernel
theorem dX0_merge_34 : decode cX0_merge 34 = .ok (.invokevirtual 25, 3) := by decide +kernel
theorem dX0_merge_37 : decode cX0_merge 37 = .ok (.iinc 5 1, 3) := by decide +kernel
theorem dX0_merge_40 : decode cX0_merge 40 = .ok (.goto (-37), 3) := by decide +kernel
theorem dX0_merge_43 : decode cX0_merge 43 = .ok (.return_, 1) := by decide +kernel
theorem dX0_mergedCell_0 : decode cX0_mergedCell 0 = .ok (.iload_n 0, 1) := by decide +kernel
theorem dX0_mergedCell_1 : decode cX0_mergedCell 1 = .ok (.tableswitch 41 0 2 #[27, 31, 35], 27) := by decide +kernel
theorem dX0_mergedCell_28 : decode cX0_mergedCell 28 = .ok (.iload_n 1, 1) := by decide +kernel
theorem dX0_mergedCell_29 : decode cX0_mergedCell 29 = .ok (.iload_n 2, 1) := by decide +kernel
theorem dX0_mergedCell_30 : decode cX0_mergedCell 30 = .ok (.ior, 1) := by decide +kernel
theorem dX0_mergedCell_31 : decode cX0_mergedCell 31 = .ok (.ireturn, 1) := by decide +kernel
theorem dX0_mergedCell_32 : decode cX0_mergedCell 32 = .ok (.iload_n 1, 1) := by decide +kernel
theorem dX0_mergedCell_33 : decode cX0_mergedCell 33 = .ok (.iload_n 2, 1) := by decide +kernel
theorem dX0_mergedCell_34 : decode cX0_mergedCell 34 = .ok (.iand, 1) := by decide +kernel
theorem dX0_mergedCell_35 : decode cX0_mergedCell 35 = .ok (.ireturn, 1) := by decide +kernel
theorem dX0_mergedCell_36 : decode cX0_mergedCell 36 = .ok (.iload_n 1, 1) := by decide +kernel
theorem dX0_mergedCell_37 : decode cX0_mergedCell 37 = .ok (.iload_n 2, 1) := by decide +kernel
theorem dX0_mergedCell_38 : decode cX0_mergedCell 38 = .ok (.iconst (-1), 1) := by decide +kernel
theorem dX0_mergedCell_39 : decode cX0_mergedCell 39 = .ok (.ixor, 1) := by decide +kernel
theorem dX0_mergedCell_40 : decode cX0_mergedCell 40 = .ok (.iand, 1) := by decide +kernel
theorem dX0_mergedCell_41 : decode cX0_mergedCell 41 = .ok (.ireturn, 1) := by decide +kernel
theorem dX0_mergedCell_42 : decode cX0_mergedCell 42 = .ok (.iload_n 1, 1) := by decide +kernel
theorem dX0_mergedCell_43 : decode cX0_mergedCell 43 = .ok (.iload_n 2, 1) := by decide +kernel
theorem dX0_mergedCell_44 : decode cX0_mergedCell 44 = .ok (.ixor, 1) := by decide +kernel
theorem dX0_mergedCell_45 : decode cX0_mergedCell 45 = .ok (.ireturn, 1) := by decide +kernel
theorem dX0_slide_0 : decode cX0_slide 0 = .ok (.aload_n 0, 1) := by decide +kernel
theorem dX0_slide_1 : decode cX0_slide 1 = .ok (.iload 4, 2) := by decide +kernel
theorem dX0_slide_3 : decode cX0_slide 3 = .ok (.iconst 0, 1) := by decide +kernel
theorem dX0_slide_4 : decode cX0_slide 4 = .ok (.sipush 256, 3) := by decide +kernel
theorem dX0_slide_7 : decode cX0_slide 7 = .ok (.iconst 0, 1) := by decide +kernel
theorem dX0_slide_8 : decode cX0_slide 8 = .ok (.invokevirtual 54, 3) := by decide +kernel
theorem dX0_slide_11 : decode cX0_slide 11 = .ok (.iconst 0, 1) := by decide +kernel
theorem dX0_slide_12 : decode cX0_slide 12 = .ok (.istore 5, 2) := by decide +kernel
theorem dX0_slide_14 : decode cX0_slide 14 = .ok (.iload 5, 2) := by decide +kernel
theorem dX0_slide_16 : decode cX0_slide 16 = .ok (.iload_n 3, 1) := by decide +kernel
theorem dX0_slide_17 : decode cX0_slide 17 = .ok (.if_icmp .ge 52, 3) := by decide +kernel
theorem dX0_slide_20 : decode cX0_slide 20 = .ok (.iload 5, 2) := by decide +kernel
theorem dX0_slide_22 : decode cX0_slide 22 = .ok (.i2l, 1) := by decide +kernel
theorem dX0_slide_23 : decode cX0_slide 23 = .ok (.iload_n 2, 1) := by decide +kernel
theorem dX0_slide_24 : decode cX0_slide 24 = .ok (.i2l, 1) := by decide +kernel
theorem dX0_slide_25 : decode cX0_slide 25 = .ok (.lsub, 1) := by decide +kernel
theorem dX0_slide_26 : decode cX0_slide 26 = .ok (.lstore 6, 2) := by decide +kernel
theorem dX0_slide_28 : decode cX0_slide 28 = .ok (.lload 6, 2) := by decide +kernel
theorem dX0_slide_30 : decode cX0_slide 30 = .ok (.lconst 0, 1) := by decide +kernel
theorem dX0_slide_31 : decode cX0_slide 31 = .ok (.lcmp, 1) := by decide +kernel
theorem dX0_slide_32 : decode cX0_slide 32 = .ok (.ifCond .lt 31, 3) := by decide +kernel
theorem dX0_slide_35 : decode cX0_slide 35 = .ok (.lload 6, 2) := by decide +kernel
theorem dX0_slide_37 : decode cX0_slide 37 = .ok (.iload_n 3, 1) := by decide +kernel
theorem dX0_slide_38 : decode cX0_slide 38 = .ok (.i2l, 1) := by decide +kernel
theorem dX0_slide_39 : decode cX0_slide 39 = .ok (.lcmp, 1) := by decide +kernel
theorem dX0_slide_40 : decode cX0_slide 40 = .ok (.ifCond .ge 23, 3) := by decide +kernel
theorem dX0_slide_43 : decode cX0_slide 43 = .ok (.aload_n 0, 1) := by decide +kernel
theorem dX0_slide_44 : decode cX0_slide 44 = .ok (.iload_n 1, 1) := by decide +kernel
theorem dX0_slide_45 : decode cX0_slide 45 = .ok (.lload 6, 2) := by decide +kernel
theorem dX0_slide_47 : decode cX0_slide 47 = .ok (.l2i, 1) := by decide +kernel
theorem dX0_slide_48 : decode cX0_slide 48 = .ok (.invokevirtual 58, 3) := by decide +kernel
theorem dX0_slide_51 : decode cX0_slide 51 = .ok (.iconst 1, 1) := by decide +kernel
theorem dX0_slide_52 : decode cX0_slide 52 = .ok (.if_icmp .ne 11, 3) := by decide +kernel
theorem dX0_slide_55 : decode cX0_slide 55 = .ok (.aload_n 0, 1) := by decide +kernel
theorem dX0_slide_56 : decode cX0_slide 56 = .ok (.iload 4, 2) := by decide +kernel
theorem dX0_slide_58 : decode cX0_slide 58 = .ok (.iload 5, 2) := by decide +kernel
theorem dX0_slide_60 : decode cX0_slide 60 = .ok (.invokevirtual 61, 3) := by decide +kernel
theorem dX0_slide_63 : decode cX0_slide 63 = .ok (.iinc 5 1, 3) := by decide +kernel
theorem dX0_slide_66 : decode cX0_slide 66 = .ok (.goto (-52), 3) := by decide +kernel
theorem dX0_slide_69 : decode cX0_slide 69 = .ok (.return_, 1) := by decide +kernel
theorem dX0_reflect_0 : decode cX0_reflect 0 = .ok (.aload_n 0, 1) := by decide +kernel
theorem dX0_reflect_1 : decode cX0_reflect 1 = .ok (.iload_n 3, 1) := by decide +kernel
theorem dX0_reflect_2 : decode cX0_reflect 2 = .ok (.iconst 0, 1) := by decide +kernel
theorem dX0_reflect_3 : decode cX0_reflect 3 = .ok (.sipush 256, 3) := by decide +kernel
theorem dX0_reflect_6 : decode cX0_reflect 6 = .ok (.iconst 0, 1) := by decide +kernel
theorem dX0_reflect_7 : decode cX0_reflect 7 = .ok (.invokevirtual 54, 3) := by decide +kernel
theorem dX0_reflect_10 : decode cX0_reflect 10 = .ok (.iconst 0, 1) := by decide +kernel
theorem dX0_reflect_11 : decode cX0_reflect 11 = .ok (.istore 4, 2) := by decide +kernel
theorem dX0_reflect_13 : decode cX0_reflect 13 = .ok (.iload 4, 2) := by decide +kernel
theorem dX0_reflect_15 : decode cX0_reflect 15 = .ok (.iload_n 2, 1) := by decide +kernel
theorem dX0_reflect_16 : decode cX0_reflect 16 = .ok (.if_icmp .ge 31, 3) := by decide +kernel
theorem dX0_reflect_19 : decode cX0_reflect 19 = .ok (.aload_n 0, 1) := by decide +kernel
theorem dX0_reflect_20 : decode cX0_reflect 20 = .ok (.iload_n 1, 1) := by decide +kernel
theorem dX0_reflect_21 : decode cX0_reflect 21 = .ok (.iload 4, 2) := by decide +kernel
theorem dX0_reflect_23 : decode cX0_reflect 23 = .ok (.invokevirtual 58, 3) := by decide +kernel
theorem dX0_reflect_26 : decode cX0_reflect 26 = .ok (.iconst 1, 1) := by decide +kernel
theorem dX0_reflect_27 : decode cX0_reflect 27 = .ok (.if_icmp .ne 14, 3) := by decide +kernel
theorem dX0_reflect_30 : decode cX0_reflect 30 = .ok (.aload_n 0, 1) := by decide +kernel
theorem dX0_reflect_31 : decode cX0_reflect 31 = .ok (.iload_n 3, 1) := by decide +kernel
theorem dX0_reflect_32 : decode cX0_reflect 32 = .ok (.iload_n 2, 1) := by decide +kernel
theorem dX0_reflect_33 : decode cX0_reflect 33 = .ok (.iconst 1, 1) := by decide +kernel
theorem dX0_reflect_34 : decode cX0_reflect 34 = .ok (.isub, 1) := by decide +kernel
theorem dX0_reflect_35 : decode cX0_reflect 35 = .ok (.iload 4, 2) := by decide +kernel
theorem dX0_reflect_37 : decode cX0_reflect 37 = .ok (.isub, 1) := by decide +kernel
theorem dX0_reflect_38 : decode cX0_reflect 38 = .ok (.invokevirtual 61, 3) := by decide +kernel
theorem dX0_reflect_41 : decode cX0_reflect 41 = .ok (.iinc 4 1, 3) := by decide +kernel
theorem dX0_reflect_44 : decode cX0_reflect 44 = .ok (.goto (-31), 3) := by decide +kernel
theorem dX0_reflect_47 : decode cX0_reflect 47 = .ok (.return_, 1) := by decide +kernel
theorem dX0_setBit_0 : decode cX0_setBit 0 = .ok (.aload_n 0, 1) := by decide +kernel
theorem dX0_setBit_1 : decode cX0_setBit 1 = .ok (.iload_n 1, 1) := by decide +kernel
theorem dX0_setBit_2 : decode cX0_setBit 2 = .ok (.iload_n 2, 1) := by decide +kernel
theorem dX0_setBit_3 : decode cX0_setBit 3 = .ok (.iconst 3, 1) := by decide +kernel
theorem dX0_setBit_4 : decode cX0_setBit 4 = .ok (.ishr, 1) := by decide +kernel
theorem dX0_setBit_5 : decode cX0_setBit 5 = .ok (.aload_n 0, 1) := by decide +kernel
theorem dX0_setBit_6 : decode cX0_setBit 6 = .ok (.iload_n 1, 1) := by decide +kernel
theorem dX0_setBit_7 : decode cX0_setBit 7 = .ok (.iload_n 2, 1) := by decide +kernel
theorem dX0_setBit_8 : decode cX0_setBit 8 = .ok (.iconst 3, 1) := by decide +kernel
theorem dX0_setBit_9 : decode cX0_setBit 9 = .ok (.ishr, 1) := by decide +kernel
theorem dX0_setBit_10 : decode cX0_setBit 10 = .ok (.invokevirtual 29, 3) := by decide +kernel
theorem dX0_setBit_13 : decode cX0_setBit 13 = .ok (.iconst 1, 1) := by decide +kernel
theorem dX0_setBit_14 : decode cX0_setBit 14 = .ok (.iload_n 2, 1) := by decide +kernel
theorem dX0_setBit_15 : decode cX0_setBit 15 = .ok (.bipush 7, 2) := by decide +kernel
theorem dX0_setBit_17 : decode cX0_setBit 17 = .ok (.iand, 1) := by decide +kernel
theorem dX0_setBit_18 : decode cX0_setBit 18 = .ok (.ishl, 1) := by decide +kernel
theorem dX0_setBit_19 : decode cX0_setBit 19 = .ok (.ior, 1) := by decide +kernel
theorem dX0_setBit_20 : decode cX0_setBit 20 = .ok (.invokevirtual 25, 3) := by decide +kernel
theorem dX0_setBit_23 : decode cX0_setBit 23 = .ok (.return_, 1) := by decide +kernel
theorem dX0_unlikeBits_0 : decode cX0_unlikeBits 0 = .ok (.iconst 0, 1) := by decide +kernel
theorem dX0_unlikeBits_1 : decode cX0_unlikeBits 1 = .ok (.istore 6, 2) := by decide +kernel
theorem dX0_unlikeBits_3 : decode cX0_unlikeBits 3 = .ok (.iconst 0, 1) := by decide +kernel
theorem dX0_unlikeBits_4 : decode cX0_unlikeBits 4 = .ok (.istore 7, 2) := by decide +kernel
theorem dX0_unlikeBits_6 : decode cX0_unlikeBits 6 = .ok (.iload 7, 2) := by decide +kernel
theorem dX0_unlikeBits_8 : decode cX0_unlikeBits 8 = .ok (.iload 5, 2) := by decide +kernel
theorem dX0_unlikeBits_10 : decode cX0_unlikeBits 10 = .ok (.if_icmp .ge 37, 3) := by decide +kernel
theorem dX0_unlikeBits_13 : decode cX0_unlikeBits 13 = .ok (.iload 6, 2) := by decide +kernel
theorem dX0_unlikeBits_15 : decode cX0_unlikeBits 15 = .ok (.aload_n 0, 1) := by decide +kernel
theorem dX0_unlikeBits_16 : decode cX0_unlikeBits 16 = .ok (.iload_n 1, 1) := by decide +kernel
theorem dX0_unlikeBits_17 : decode cX0_unlikeBits 17 = .ok (.iload_n 2, 1) := by decide +kernel
theorem dX0_unlikeBits_18 : decode cX0_unlikeBits 18 = .ok (.iload 7, 2) := by decide +kernel
theorem dX0_unlikeBits_20 : decode cX0_unlikeBits 20 = .ok (.iadd, 1) := by decide +kernel
theorem dX0_unlikeBits_21 : decode cX0_unlikeBits 21 = .ok (.invokevirtual 29, 3) := by decide +kernel
theorem dX0_unlikeBits_24 : decode cX0_unlikeBits 24 = .ok (.aload_n 0, 1) := by decide +kernel
theorem dX0_unlikeBits_25 : decode cX0_unlikeBits 25 = .ok (.iload_n 3, 1) := by decide +kernel
theorem dX0_unlikeBits_26 : decode cX0_unlikeBits 26 = .ok (.iload 4, 2) := by decide +kernel
theorem dX0_unlikeBits_28 : decode cX0_unlikeBits 28 = .ok (.iload 7, 2) := by decide +kernel
theorem dX0_unlikeBits_30 : decode cX0_unlikeBits 30 = .ok (.iadd, 1) := by decide +kernel
theorem dX0_unlikeBits_31 : decode cX0_unlikeBits 31 = .ok (.invokevirtual 29, 3) := by decide +kernel
theorem dX0_unlikeBits_34 : decode cX0_unlikeBits 34 = .ok (.ixor, 1) := by decide +kernel
theorem dX0_unlikeBits_35 : decode cX0_unlikeBits 35 = .ok (.invokestatic 45, 3) := by decide +kernel
theorem dX0_unlikeBits_38 : decode cX0_unlikeBits 38 = .ok (.iadd, 1) := by decide +kernel
theorem dX0_unlikeBits_39 : decode cX0_unlikeBits 39 = .ok (.istore 6, 2) := by decide +kernel
theorem dX0_unlikeBits_41 : decode cX0_unlikeBits 41 = .ok (.iinc 7 1, 3) := by decide +kernel
theorem dX0_unlikeBits_44 : decode cX0_unlikeBits 44 = .ok (.goto (-38), 3) := by decide +kernel
theorem dX0_unlikeBits_47 : decode cX0_unlikeBits 47 = .ok (.iload 6, 2) := by decide +kernel
theorem dX0_unlikeBits_49 : decode cX0_unlikeBits 49 = .ok (.ireturn, 1) := by decide +kernel
theorem dX1_init_0 : decode cX1_init 0 = .ok (.aload_n 0, 1) := by decide +kernel
theorem dX1_init_1 : decode cX1_init 1 = .ok (.invokespecial 1, 3) := by decide +kernel
theorem dX1_init_4 : decode cX1_init 4 = .ok (.aload_n 0, 1) := by decide +kernel
theorem dX1_init_5 : decode cX1_init 5 = .ok (.iload_n 1, 1) := by decide +kernel
theorem dX1_init_6 : decode cX1_init 6 = .ok (.ifCond .ge 7, 3) := by decide +kernel
theorem dX1_init_9 : decode cX1_init 9 = .ok (.iconst 0, 1) := by decide +kernel
theorem dX1_init_10 : decode cX1_init 10 = .ok (.goto 4, 3) := by decide +kernel
theorem dX1_init_13 : decode cX1_init 13 = .ok (.iload_n 1, 1) := by decide +kernel
theorem dX1_init_14 : decode cX1_init 14 = .ok (.newarray .int, 2) := by decide +kernel
theorem dX1_init_16 : decode cX1_init 16 = .ok (.putfield 7, 3) := by decide +kernel
theorem dX1_init_19 : decode cX1_init 19 = .ok (.return_, 1) := by decide +kernel
theorem dX1_length_0 : decode cX1_length 0 = .ok (.aload_n 0, 1) := by decide +kernel
theorem dX1_length_1 : decode cX1_length 1 = .ok (.getfield 13, 3) := by decide +kernel
theorem dX1_length_4 : decode cX1_length 4 = .ok (.ireturn, 1) := by decide +kernel
theorem dX1_hasRoom_0 : decode cX1_hasRoom 0 = .ok (.aload_n 0, 1) := by decide +kernel
theorem dX1_hasRoom_1 : decode cX1_hasRoom 1 = .ok (.getfield 13, 3) := by decide +kernel
theorem dX1_hasRoom_4 : decode cX1_hasRoom 4 = .ok (.iload_n 1, 1) := by decide +kernel
theorem dX1_hasRoom_5 : decode cX1_hasRoom 5 = .ok (.iadd, 1) := by decide +kernel
theorem dX1_hasRoom_6 : decode cX1_hasRoom 6 = .ok (.aload_n 0, 1) := by decide +kernel
theorem dX1_hasRoom_7 : decode cX1_hasRoom 7 = .ok (.getfield 7, 3) := by decide +kernel
theorem dX1_hasRoom_10 : decode cX1_hasRoom 10 = .ok (.arraylength, 1) := by decide +kernel
theorem dX1_hasRoom_11 : decode cX1_hasRoom 11 = .ok (.if_icmp .gt 7, 3) := by decide +kernel
theorem dX1_hasRoom_14 : decode cX1_hasRoom 14 = .ok (.iconst 1, 1) := by decide +kernel
theorem dX1_hasRoom_15 : decode cX1_hasRoom 15 = .ok (.goto 4, 3) := by decide +kernel
theorem dX1_hasRoom_18 : decode cX1_hasRoom 18 = .ok (.iconst 0, 1) := by decide +kernel
theorem dX1_hasRoom_19 : decode cX1_hasRoom 19 = .ok (.ireturn, 1) := by decide +kernel
theorem dX1_get_0 : decode cX1_get 0 = .ok (.iload_n 1, 1) := by decide +kernel
theorem dX1_get_1 : decode cX1_get 1 = .ok (.ifCond .lt 29, 3) := by decide +kernel
theorem dX1_get_4 : decode cX1_get 4 = .ok (.iload_n 1, 1) := by decide +kernel
theorem dX1_get_5 : decode cX1_get 5 = .ok (.aload_n 0, 1) := by decide +kernel
theorem dX1_get_6 : decode cX1_get 6 = .ok (.getfield 13, 3) := by decide +kernel
theorem dX1_get_9 : decode cX1_get 9 = .ok (.if_icmp .ge 21, 3) := by decide +kernel
theorem dX1_get_12 : decode cX1_get 12 = .ok (.iload_n 1, 1) := by decide +kernel
theorem dX1_get_13 : decode cX1_get 13 = .ok (.aload_n 0, 1) := by decide +kernel
theorem dX1_get_14 : decode cX1_get 14 = .ok (.getfield 7, 3) := by decide +kernel
theorem dX1_get_17 : decode cX1_get 17 = .ok (.arraylength, 1) := by decide +kernel
theorem dX1_get_18 : decode cX1_get 18 = .ok (.if_icmp .ge 12, 3) := by decide +kernel
theorem dX1_get_21 : decode cX1_get 21 = .ok (.aload_n 0, 1) := by decide +kernel
theorem dX1_get_22 : decode cX1_get 22 = .ok (.getfield 7, 3) := by decide +kernel
theorem dX1_get_25 : decode cX1_get 25 = .ok (.iload_n 1, 1) := by decide +kernel
theorem dX1_get_26 : decode cX1_get 26 = .ok (.iaload, 1) := by decide +kernel
theorem dX1_get_27 : decode cX1_get 27 = .ok (.goto 4, 3) := by decide +kernel
theorem dX1_get_30 : decode cX1_get 30 = .ok (.iconst 0, 1) := by decide +kernel
theorem dX1_get_31 : decode cX1_get 31 = .ok (.ireturn, 1) := by decide +kernel
theorem dX1_add_0 : decode cX1_add 0 = .ok (.aload_n 0, 1) := by decide +kernel
theorem dX1_add_1 : decode cX1_add 1 = .ok (.getfield 13, 3) := by decide +kernel
theorem dX1_add_4 : decode cX1_add 4 = .ok (.ifCond .lt 35, 3) := by decide +kernel
theorem dX1_add_7 : decode cX1_add 7 = .ok (.aload_n 0, 1) := by decide +kernel
theorem dX1_add_8 : decode cX1_add 8 = .ok (.getfield 13, 3) := by decide +kernel
theorem dX1_add_11 : decode cX1_add 11 = .ok (.aload_n 0, 1) := by decide +kernel
theorem dX1_add_12 : decode cX1_add 12 = .ok (.getfield 7, 3) := by decide +kernel
theorem dX1_add_15 : decode cX1_add 15 = .ok (.arraylength, 1) := by decide +kernel
theorem dX1_add_16 : decode cX1_add 16 = .ok (.if_icmp .ge 23, 3) := by decide +kernel
theorem dX1_add_19 : decode cX1_add 19 = .ok (.aload_n 0, 1) := by decide +kernel
theorem dX1_add_20 : decode cX1_add 20 = .ok (.getfield 7, 3) := by decide +kernel
theorem dX1_add_23 : decode cX1_add 23 = .ok (.aload_n 0, 1) := by decide +kernel
theorem dX1_add_24 : decode cX1_add 24 = .ok (.getfield 13, 3) := by decide +kernel
theorem dX1_add_27 : decode cX1_add 27 = .ok (.iload_n 1, 1) := by decide +kernel
theorem dX1_add_28 : decode cX1_add 28 = .ok (.iastore, 1) := by decide +kernel
theorem dX1_add_29 : decode cX1_add 29 = .ok (.aload_n 0, 1) := by decide +kernel
theorem dX1_add_30 : decode cX1_add 30 = .ok (.dup, 1) := by decide +kernel
theorem dX1_add_31 : decode cX1_add 31 = .ok (.getfield 13, 3) := by decide +kernel
theorem dX1_add_34 : decode cX1_add 34 = .ok (.iconst 1, 1) := by decide +kernel
theorem dX1_add_35 : decode cX1_add 35 = .ok (.iadd, 1) := by decide +kernel
theorem dX1_add_36 : decode cX1_add 36 = .ok (.putfield 13, 3) := by decide +kernel
theorem dX1_add_39 : decode cX1_add 39 = .ok (.return_, 1) := by decide +kernel
theorem dX1_addWord_0 : decode cX1_addWord 0 = .ok (.bipush 24, 2) := by decide +kernel
theorem dX1_addWord_2 : decode cX1_addWord 2 = .ok (.istore_n 2, 1) := by decide +kernel
theorem dX1_addWord_3 : decode cX1_addWord 3 = .ok (.iload_n 2, 1) := by decide +kernel
theorem dX1_addWord_4 : decode cX1_addWord 4 = .ok (.ifCond .lt 20, 3) := by decide +kernel
theorem dX1_addWord_7 : decode cX1_addWord 7 = .ok (.aload_n 0, 1) := by decide +kernel
theorem dX1_addWord_8 : decode cX1_addWord 8 = .ok (.iload_n 1, 1) := by decide +kernel
theorem dX1_addWord_9 : decode cX1_addWord 9 = .ok (.iload_n 2, 1) := by decide +kernel
theorem dX1_addWord_10 : decode cX1_addWord 10 = .ok (.ishr, 1) := by decide +kernel
theorem dX1_addWord_11 : decode cX1_addWord 11 = .ok (.sipush 255, 3) := by decide +kernel
theorem dX1_addWord_14 : decode cX1_addWord 14 = .ok (.iand, 1) := by decide +kernel
theorem dX1_addWord_15 : decode cX1_addWord 15 = .ok (.invokevirtual 17, 3) := by decide +kernel
theorem dX1_addWord_18 : decode cX1_addWord 18 = .ok (.iinc 2 (-8), 3) := by decide +kernel
theorem dX1_addWord_21 : decode cX1_addWord 21 = .ok (.goto (-18), 3) := by decide +kernel
theorem dX1_addWord_24 : decode cX1_addWord 24 = .ok (.return_, 1) := by decide +kernel
theorem dX1_addHex_0 : decode cX1_addHex 0 = .ok (.aload_n 0, 1) := by decide +kernel
theorem dX1_addHex_1 : decode cX1_addHex 1 = .ok (.iload_n 1, 1) := by decide +kernel
theorem dX1_addHex_2 : decode cX1_addHex 2 = .ok (.iconst 4, 1) := by decide +kernel
theorem dX1_addHex_3 : decode cX1_addHex 3 = .ok (.ishr, 1) := by decide +kernel
theorem dX1_addHex_4 : decode cX1_addHex 4 = .ok (.bipush 15, 2) := by decide +kernel
theorem dX1_addHex_6 : decode cX1_addHex 6 = .ok (.iand, 1) := by decide +kernel
theorem dX1_addHex_7 : decode cX1_addHex 7 = .ok (.invokestatic 21, 3) := by decide +kernel
theorem dX1_addHex_10 : decode cX1_addHex 10 = .ok (.invokevirtual 17, 3) := by decide +kernel
theorem dX1_addHex_13 : decode cX1_addHex 13 = .ok (.aload_n 0, 1) := by decide +kernel
theorem dX1_addHex_14 : decode cX1_addHex 14 = .ok (.iload_n 1, 1) := by decide +kernel
theorem dX1_addHex_15 : decode cX1_addHex 15 = .ok (.bipush 15, 2) := by decide +kernel
theorem dX1_addHex_17 : decode cX1_addHex 17 = .ok (.iand, 1) := by decide +kernel
theorem dX1_addHex_18 : decode cX1_addHex 18 = .ok (.invokestatic 21, 3) := by decide +kernel
theorem dX1_addHex_21 : decode cX1_addHex 21 = .ok (.invokevirtual 17, 3) := by decide +kernel
theorem dX1_addHex_24 : decode cX1_addHex 24 = .ok (.return_, 1) := by decide +kernel
theorem dX1_digit_0 : decode cX1_digit 0 = .ok (.iload_n 0, 1) := by decide +kernel
theorem dX1_digit_1 : decode cX1_digit 1 = .ok (.bipush 10, 2) := by decide +kernel
theorem dX1_digit_3 : decode cX1_digit 3 = .ok (.if_icmp .ge 10, 3) := by decide +kernel
theorem dX1_digit_6 : decode cX1_digit 6 = .ok (.bipush 48, 2) := by decide +kernel
theorem dX1_digit_8 : decode cX1_digit 8 = .ok (.iload_n 0, 1) := by decide +kernel
theorem dX1_digit_9 : decode cX1_digit 9 = .ok (.iadd, 1) := by decide +kernel
theorem dX1_digit_10 : decode cX1_digit 10 = .ok (.goto 10, 3) := by decide +kernel
theorem dX1_digit_13 : decode cX1_digit 13 = .ok (.bipush 97, 2) := by decide +kernel
theorem dX1_digit_15 : decode cX1_digit 15 = .ok (.iload_n 0, 1) := by decide +kernel
theorem dX1_digit_16 : decode cX1_digit 16 = .ok (.iadd, 1) := by decide +kernel
theorem dX1_digit_17 : decode cX1_digit 17 = .ok (.bipush 10, 2) := by decide +kernel
theorem dX1_digit_19 : decode cX1_digit 19 = .ok (.isub, 1) := by decide +kernel
theorem dX1_digit_20 : decode cX1_digit 20 = .ok (.ireturn, 1) := by decide +kernel
theorem dX1_clear_0 : decode cX1_clear 0 = .ok (.aload_n 0, 1) := by decide +kernel
theorem dX1_clear_1 : decode cX1_clear 1 = .ok (.iconst 0, 1) := by decide +kernel
theorem dX1_clear_2 : decode cX1_clear 2 = .ok (.putfield 13, 3) := by decide +kernel
theorem dX1_clear_5 : decode cX1_clear 5 = .ok (.return_, 1) := by decide +kernel
theorem dX2_init_0 : decode cX2_init 0 = .ok (.aload_n 0, 1) := by decide +kernel
theorem dX2_init_1 : decode cX2_init 1 = .ok (.invokespecial 3, 3) := by decide +kernel
theorem dX2_init_4 : decode cX2_init 4 = .ok (.aload_n 0, 1) := by decide +kernel
theorem dX2_init_5 : decode cX2_init 5 = .ok (.new 9, 3) := by decide +kernel
theorem dX2_init_8 : decode cX2_init 8 = .ok (.dup, 1) := by decide +kernel
theorem dX2_init_9 : decode cX2_init 9 = .ok (.bipush 8, 2) := by decide +kernel
theorem dX2_init_11 : decode cX2_init 11 = .ok (.invokespecial 11, 3) := by decide +kernel
theorem dX2_init_14 : decode cX2_init 14 = .ok (.putfield 14, 3) := by decide +kernel
theorem dX2_init_17 : decode cX2_init 17 = .ok (.aload_n 0, 1) := by decide +kernel
theorem dX2_init_18 : decode cX2_init 18 = .ok (.aload_n 1, 1) := by decide +kernel
theorem dX2_init_19 : decode cX2_init 19 = .ok (.putfield 20, 3) := by decide +kernel
theorem dX2_init_22 : decode cX2_init 22 = .ok (.return_, 1) := by decide +kernel
theorem dX2_length_0 : decode cX2_length 0 = .ok (.aload_n 0, 1) := by decide +kernel
theorem dX2_length_1 : decode cX2_length 1 = .ok (.getfield 24, 3) := by decide +kernel
theorem dX2_length_4 : decode cX2_length 4 = .ok (.ireturn, 1) := by decide +kernel
theorem dX2_remember_0 : decode cX2_remember 0 = .ok (.aload_n 0, 1) := by decide +kernel
theorem dX2_remember_1 : decode cX2_remember 1 = .ok (.aload_n 0, 1) := by decide +kernel
theorem dX2_remember_2 : decode cX2_remember 2 = .ok (.getfield 28, 3) := by decide +kernel
theorem dX2_remember_5 : decode cX2_remember 5 = .ok (.iconst 1, 1) := by decide +kernel
theorem dX2_remember_6 : decode cX2_remember 6 = .ok (.iadd, 1) := by decide +kernel
theorem dX2_remember_7 : decode cX2_remember 7 = .ok (.bipush 8, 2) := by decide +kernel
theorem dX2_remember_9 : decode cX2_remember 9 = .ok (.if_icmp .ge 12, 3) := by decide +kernel
theorem dX2_remember_12 : decode cX2_remember 12 = .ok (.aload_n 0, 1) := by decide +kernel
theorem dX2_remember_13 : decode cX2_remember 13 = .ok (.getfield 28, 3) := by decide +kernel
theorem dX2_remember_16 : decode cX2_remember 16 = .ok (.iconst 1, 1) := by decide +kernel
theorem dX2_remember_17 : decode cX2_remember 17 = .ok (.iadd, 1) := by decide +kernel
theorem dX2_remember_18 : decode cX2_remember 18 = .ok (.goto 4, 3) := by decide +kernel
theorem dX2_remember_21 : decode cX2_remember 21 = .ok (.iconst 0, 1) := by decide +kernel
theorem dX2_remember_22 : decode cX2_remember 22 = .ok (.putfield 28, 3) := by decide +kernel
theorem dX2_remember_25 : decode cX2_remember 25 = .ok (.aload_n 0, 1) := by decide +kernel
theorem dX2_remember_26 : decode cX2_remember 26 = .ok (.getfield 14, 3) := by decide +kernel
theorem dX2_remember_29 : decode cX2_remember 29 = .ok (.aload_n 0, 1) := by decide +kernel
theorem dX2_remember_30 : decode cX2_remember 30 = .ok (.getfield 28, 3) := by decide +kernel
theorem dX2_remember_33 : decode cX2_remember 33 = .ok (.iload_n 1, 1) := by decide +kernel
theorem dX2_remember_34 : decode cX2_remember 34 = .ok (.invokevirtual 31, 3) := by decide +kernel
theorem dX2_remember_37 : decode cX2_remember 37 = .ok (.aload_n 0, 1) := by decide +kernel
theorem dX2_remember_38 : decode cX2_remember 38 = .ok (.getfield 20, 3) := by decide +kernel
theorem dX2_remember_41 : decode cX2_remember 41 = .ok (.iload_n 1, 1) := by decide +kernel
theorem dX2_remember_42 : decode cX2_remember 42 = .ok (.bipush 12, 2) := by decide +kernel
theorem dX2_remember_44 : decode cX2_remember 44 = .ok (.aload_n 0, 1) := by decide +kernel
theorem dX2_remember_45 : decode cX2_remember 45 = .ok (.getfield 28, 3) := by decide +kernel
theorem dX2_remember_48 : decode cX2_remember 48 = .ok (.iadd, 1) := by decide +kernel
theorem dX2_remember_49 : decode cX2_remember 49 = .ok (.invokevirtual 35, 3) := by decide +kernel
theorem dX2_remember_52 : decode cX2_remember 52 = .ok (.aload_n 0, 1) := by decide +kernel
theorem dX2_remember_53 : decode cX2_remember 53 = .ok (.aload_n 0, 1) := by decide +kernel
theorem dX2_remember_54 : decode cX2_remember 54 = .ok (.getfield 24, 3) := by decide +kernel
theorem dX2_remember_57 : decode cX2_remember 57 = .ok (.iconst 1, 1) := by decide +kernel
theorem dX2_remember_58 : decode cX2_remember 58 = .ok (.iadd, 1) := by decide +kernel
theorem dX2_remember_59 : decode cX2_remember 59 = .ok (.bipush 8, 2) := by decide +kernel
theorem dX2_remember_61 : decode cX2_remember 61 = .ok (.invokestatic 40, 3) := by decide +kernel
theorem dX2_remember_64 : decode cX2_remember 64 = .ok (.putfield 24, 3) := by decide +kernel
theorem dX2_remember_67 : decode cX2_remember 67 = .ok (.return_, 1) := by decide +kernel
theorem dX2_goBack_0 : decode cX2_goBack 0 = .ok (.aload_n 0, 1) := by decide +kernel
theorem dX2_goBack_1 : decode cX2_goBack 1 = .ok (.getfield 24, 3) := by decide +kernel
theorem dX2_goBack_4 : decode cX2_goBack 4 = .ok (.ifCond .le 60, 3) := by decide +kernel
theorem dX2_goBack_7 : decode cX2_goBack 7 = .ok (.aload_n 0, 1) := by decide +kernel
theorem dX2_goBack_8 : decode cX2_goBack 8 = .ok (.getfield 20, 3) := by decide +kernel
theorem dX2_goBack_11 : decode cX2_goBack 11 = .ok (.bipush 12, 2) := by decide +kernel
theorem dX2_goBack_13 : decode cX2_goBack 13 = .ok (.aload_n 0, 1) := by decide +kernel
theorem dX2_goBack_14 : decode cX2_goBack 14 = .ok (.getfield 28, 3) := by decide +kernel
theorem dX2_goBack_17 : decode cX2_goBack 17 = .ok (.iadd, 1) := by decide +kernel
theorem dX2_goBack_18 : decode cX2_goBack 18 = .ok (.aload_n 0, 1) := by decide +kernel
theorem dX2_goBack_19 : decode cX2_goBack 19 = .ok (.getfield 14, 3) := by decide +kernel
theorem dX2_goBack_22 : decode cX2_goBack 22 = .ok (.aload_n 0, 1) := by decide +kernel
theorem dX2_goBack_23 : decode cX2_goBack 23 = .ok (.getfield 28, 3) := by decide +kernel
theorem dX2_goBack_26 : decode cX2_goBack 26 = .ok (.invokevirtual 46, 3) := by decide +kernel
theorem dX2_goBack_29 : decode cX2_goBack 29 = .ok (.invokevirtual 35, 3) := by decide +kernel
theorem dX2_goBack_32 : decode cX2_goBack 32 = .ok (.aload_n 0, 1) := by decide +kernel
theorem dX2_goBack_33 : decode cX2_goBack 33 = .ok (.aload_n 0, 1) := by decide +kernel
theorem dX2_goBack_34 : decode cX2_goBack 34 = .ok (.getfield 28, 3) := by decide +kernel
theorem dX2_goBack_37 : decode cX2_goBack 37 = .ok (.ifCond .le 12, 3) := by decide +kernel
theorem dX2_goBack_40 : decode cX2_goBack 40 = .ok (.aload_n 0, 1) := by decide +kernel
theorem dX2_goBack_41 : decode cX2_goBack 41 = .ok (.getfield 28, 3) := by decide +kernel
theorem dX2_goBack_44 : decode cX2_goBack 44 = .ok (.iconst 1, 1) := by decide +kernel
theorem dX2_goBack_45 : decode cX2_goBack 45 = .ok (.isub, 1) := by decide +kernel
theorem dX2_goBack_46 : decode cX2_goBack 46 = .ok (.goto 5, 3) := by decide +kernel
theorem dX2_goBack_49 : decode cX2_goBack 49 = .ok (.bipush 7, 2) := by decide +kernel
theorem dX2_goBack_51 : decode cX2_goBack 51 = .ok (.putfield 28, 3) := by decide +kernel
theorem dX2_goBack_54 : decode cX2_goBack 54 = .ok (.aload_n 0, 1) := by decide +kernel
theorem dX2_goBack_55 : decode cX2_goBack 55 = .ok (.dup, 1) := by decide +kernel
theorem dX2_goBack_56 : decode cX2_goBack 56 = .ok (.getfield 24, 3) := by decide +kernel
theorem dX2_goBack_59 : decode cX2_goBack 59 = .ok (.iconst 1, 1) := by decide +kernel
theorem dX2_goBack_60 : decode cX2_goBack 60 = .ok (.isub, 1) := by decide +kernel
theorem dX2_goBack_61 : decode cX2_goBack 61 = .ok (.putfield 24, 3) := by decide +kernel
theorem dX2_goBack_64 : decode cX2_goBack 64 = .ok (.return_, 1) := by decide +kernel
theorem dX2_forget_0 : decode cX2_forget 0 = .ok (.aload_n 0, 1) := by decide +kernel
theorem dX2_forget_1 : decode cX2_forget 1 = .ok (.iconst 0, 1) := by decide +kernel
theorem dX2_forget_2 : decode cX2_forget 2 = .ok (.putfield 24, 3) := by decide +kernel
theorem dX2_forget_5 : decode cX2_forget 5 = .ok (.return_, 1) := by decide +kernel
theorem dX3_init_0 : decode cX3_init 0 = .ok (.aload_n 0, 1) := by decide +kernel
theorem dX3_init_1 : decode cX3_init 1 = .ok (.invokespecial 3, 3) := by decide +kernel
theorem dX3_init_4 : decode cX3_init 4 = .ok (.aload_n 0, 1) := by decide +kernel
theorem dX3_init_5 : decode cX3_init 5 = .ok (.new 9, 3) := by decide +kernel
theorem dX3_init_8 : decode cX3_init 8 = .ok (.dup, 1) := by decide +kernel
theorem dX3_init_9 : decode cX3_init 9 = .ok (.bipush 6, 2) := by decide +kernel
theorem dX3_init_11 : decode cX3_init 11 = .ok (.invokespecial 11, 3) := by decide +kernel
theorem dX3_init_14 : decode cX3_init 14 = .ok (.putfield 14, 3) := by decide +kernel
theorem dX3_init_17 : decode cX3_init 17 = .ok (.aload_n 0, 1) := by decide +kernel
theorem dX3_init_18 : decode cX3_init 18 = .ok (.aload_n 1, 1) := by decide +kernel
theorem dX3_init_19 : decode cX3_init 19 = .ok (.putfield 20, 3) := by decide +kernel
theorem dX3_init_22 : decode cX3_init 22 = .ok (.aload_n 0, 1) := by decide +kernel
theorem dX3_init_23 : decode cX3_init 23 = .ok (.aload_n 2, 1) := by decide +kernel
theorem dX3_init_24 : decode cX3_init 24 = .ok (.putfield 24, 3) := by decide +kernel
theorem dX3_init_27 : decode cX3_init 27 = .ok (.aload_n 0, 1) := by decide +kernel
theorem dX3_init_28 : decode cX3_init 28 = .ok (.aload_n 3, 1) := by decide +kernel
theorem dX3_init_29 : decode cX3_init 29 = .ok (.putfield 28, 3) := by decide +kernel
theorem dX3_init_32 : decode cX3_init 32 = .ok (.return_, 1) := by decide +kernel
theorem dX3_parsedLevel_0 : decode cX3_parsedLevel 0 = .ok (.aload_n 0, 1) := by decide +kernel
theorem dX3_parsedLevel_1 : decode cX3_parsedLevel 1 = .ok (.getfield 32, 3) := by decide +kernel
theorem dX3_parsedLevel_4 : decode cX3_parsedLevel 4 = .ok (.ireturn, 1) := by decide +kernel
theorem dX3_parsedMaps_0 : decode cX3_parsedMaps 0 = .ok (.aload_n 0, 1) := by decide +kernel
theorem dX3_parsedMaps_1 : decode cX3_parsedMaps 1 = .ok (.getfield 36, 3) := by decide +kernel
theorem dX3_parsedMaps_4 : decode cX3_parsedMaps 4 = .ok (.ireturn, 1) := by decide +kernel
theorem dX3_parsedName_0 : decode cX3_parsedName 0 = .ok (.aload_n 0, 1) := by decide +kernel
theorem dX3_parsedName_1 : decode cX3_parsedName 1 = .ok (.getfield 14, 3) := by decide +kernel
theorem dX3_parsedName_4 : decode cX3_parsedName 4 = .ok (.iload_n 1, 1) := by decide +kernel
theorem dX3_parsedName_5 : decode cX3_parsedName 5 = .ok (.invokevirtual 39, 3) := by decide +kernel
theorem dX3_parsedName_8 : decode cX3_parsedName 8 = .ok (.ireturn, 1) := by decide +kernel
theorem dX3_errorCode_0 : decode cX3_errorCode 0 = .ok (.aload_n 0, 1) := by decide +kernel
theorem dX3_errorCode_1 : decode cX3_errorCode 1 = .ok (.getfield 43, 3) := by decide +kernel
theorem dX3_errorCode_4 : decode cX3_errorCode 4 = .ok (.ireturn, 1) := by decide +kernel
theorem dX3_errorAt_0 : decode cX3_errorAt 0 = .ok (.aload_n 0, 1) := by decide +kernel
theorem dX3_errorAt_1 : decode cX3_errorAt 1 = .ok (.getfield 46, 3) := by decide +kernel
theorem dX3_errorAt_4 : decode cX3_errorAt 4 = .ok (.ireturn, 1) := by decide +kernel
theorem dX3_nameIn_0 : decode cX3_nameIn 0 = .ok (.aload_n 0, 1) := by decide +kernel
theorem dX3_nameIn_1 : decode cX3_nameIn 1 = .ok (.iload_n 1, 1) := by decide +kernel
theorem dX3_nameIn_2 : decode cX3_nameIn 2 = .ok (.invokevirtual 49, 3) := by decide +kernel
theorem dX3_nameIn_5 : decode cX3_nameIn 5 = .ok (.aload_n 0, 1) := by decide +kernel
theorem dX3_nameIn_6 : decode cX3_nameIn 6 = .ok (.getfield 52, 3) := by decide +kernel
theorem dX3_nameIn_9 : decode cX3_nameIn 9 = .ok (.iconst 1, 1) := by decide +kernel
theorem dX3_nameIn_10 : decode cX3_nameIn 10 = .ok (.if_icmp .ne 25, 3) := by decide +kernel
theorem dX3_nameIn_13 : decode cX3_nameIn 13 = .ok (.aload_n 0, 1) := by decide +kernel
theorem dX3_nameIn_14 : decode cX3_nameIn 14 = .ok (.getfield 55, 3) := by decide +kernel
theorem dX3_nameIn_17 : decode cX3_nameIn 17 = .ok (.ifCond .ne 18, 3) := by decide +kernel
theorem dX3_nameIn_20 : decode cX3_nameIn 20 = .ok (.aload_n 0, 1) := by decide +kernel
theorem dX3_nameIn_21 : decode cX3_nameIn 21 = .ok (.getfield 58, 3) := by decide +kernel
theorem dX3_nameIn_24 : decode cX3_nameIn 24 = .ok (.iload_n 1, 1) := by decide +kernel
theorem dX3_nameIn_25 : decode cX3_nameIn 25 = .ok (.if_icmp .ne 10, 3) := by decide +kernel
theorem dX3_nameIn_28 : decode cX3_nameIn 28 = .ok (.aload_n 0, 1) := by decide +kernel
theorem dX3_nameIn_29 : decode cX3_nameIn 29 = .ok (.getfield 61, 3) := by decide +kernel
theorem dX3_nameIn_32 : decode cX3_nameIn 32 = .ok (.goto 4, 3) := by decide +kernel
theorem dX3_nameIn_35 : decode cX3_nameIn 35 = .ok (.iconst (-1), 1) := by decide +kernel
theorem dX3_nameIn_36 : decode cX3_nameIn 36 = .ok (.ireturn, 1) := by decide +kernel
theorem dX3_parse_0 : decode cX3_parse 0 = .ok (.aload_n 0, 1) := by decide +kernel
theorem dX3_parse_1 : decode cX3_parse 1 = .ok (.iconst 0, 1) := by decide +kernel
theorem dX3_parse_2 : decode cX3_parse 2 = .ok (.putfield 43, 3) := by decide +kernel
theorem dX3_parse_5 : decode cX3_parse 5 = .ok (.aload_n 0, 1) := by decide +kernel
theorem dX3_parse_6 : decode cX3_parse 6 = .ok (.iconst (-1), 1) := by decide +kernel
theorem dX3_parse_7 : decode cX3_parse 7 = .ok (.putfield 46, 3) := by decide +kernel
theorem dX3_parse_10 : decode cX3_parse 10 = .ok (.aload_n 0, 1) := by decide +kernel
theorem dX3_parse_11 : decode cX3_parse 11 = .ok (.iconst 0, 1) := by decide +kernel
theorem dX3_parse_12 : decode cX3_parse 12 = .ok (.putfield 36, 3) := by decide +kernel
theorem dX3_parse_15 : decode cX3_parse 15 = .ok (.aload_n 0, 1) := by decide +kernel
theorem dX3_parse_16 : decode cX3_parse 16 = .ok (.iload_n 1, 1) := by decide +kernel
theorem dX3_parse_17 : decode cX3_parse 17 = .ok (.invokevirtual 49, 3) := by decide +kernel
theorem dX3_parse_20 : decode cX3_parse 20 = .ok (.aload_n 0, 1) := by decide +kernel
theorem dX3_parse_21 : decode cX3_parse 21 = .ok (.ldc 64, 2) := by decide +kernel
theorem dX3_parse_23 : decode cX3_parse 23 = .ok (.invokevirtual 65, 3) := by decide +kernel
theorem dX3_parse_26 : decode cX3_parse 26 = .ok (.ifCond .ne 5, 3) := by decide +kernel
theorem dX3_parse_29 : decode cX3_parse 29 = .ok (.iconst 0, 1) := by decide +kernel
theorem dX3_parse_30 : decode cX3_parse 30 = .ok (.ireturn, 1) := by decide +kernel
theorem dX3_parse_31 : decode cX3_parse 31 = .ok (.aload_n 0, 1) := by decide +kernel
theorem dX3_parse_32 : decode cX3_parse 32 = .ok (.aload_n 0, 1) := by decide +kernel
theorem dX3_parse_33 : decode cX3_parse 33 = .ok (.iconst 1, 1) := by decide +kernel
theorem dX3_parse_34 : decode cX3_parse 34 = .ok (.iconst 4, 1) := by decide +kernel
theorem dX3_parse_35 : decode cX3_parse 35 = .ok (.invokevirtual 69, 3) := by decide +kernel
theorem dX3_parse_38 : decode cX3_parse 38 = .ok (.putfield 32, 3) := by decide +kernel
theorem dX3_parse_41 : decode cX3_parse 41 = .ok (.aload_n 0, 1) := by decide +kernel
theorem dX3_parse_42 : decode cX3_parse 42 = .ok (.getfield 32, 3) := by decide +kernel
theorem dX3_parse_45 : decode cX3_parse 45 = .ok (.iconst (-1), 1) := by decide +kernel
theorem dX3_parse_46 : decode cX3_parse 46 = .ok (.if_icmp .ne 5, 3) := by decide +kernel
theorem dX3_parse_49 : decode cX3_parse 49 = .ok (.iconst 0, 1) := by decide +kernel
theorem dX3_parse_50 : decode cX3_parse 50 = .ok (.ireturn, 1) := by decide +kernel
theorem dX3_parse_51 : decode cX3_parse 51 = .ok (.iconst 0, 1) := by decide +kernel
theorem dX3_parse_52 : decode cX3_parse 52 = .ok (.istore_n 2, 1) := by decide +kernel
theorem dX3_parse_53 : decode cX3_parse 53 = .ok (.iload_n 2, 1) := by decide +kernel
theorem dX3_parse_54 : decode cX3_parse 54 = .ok (.iload_n 1, 1) := by decide +kernel
theorem dX3_parse_55 : decode cX3_parse 55 = .ok (.if_icmp .ge 45, 3) := by decide +kernel
theorem dX3_parse_58 : decode cX3_parse 58 = .ok (.aload_n 0, 1) := by decide +kernel
theorem dX3_parse_59 : decode cX3_parse 59 = .ok (.getfield 52, 3) := by decide +kernel
theorem dX3_parse_62 : decode cX3_parse 62 = .ok (.ifCond .ne 5, 3) := by decide +kernel
theorem dX3_parse_65 : decode cX3_parse 65 = .ok (.iconst 1, 1) := by decide +kernel
theorem dX3_parse_66 : decode cX3_parse 66 = .ok (.ireturn, 1) := by decide +kernel
theorem dX3_parse_67 : decode cX3_parse 67 = .ok (.aload_n 0, 1) := by decide +kernel
theorem dX3_parse_68 : decode cX3_parse 68 = .ok (.getfield 52, 3) := by decide +kernel
theorem dX3_parse_71 : decode cX3_parse 71 = .ok (.iconst 3, 1) := by decide +kernel
theorem dX3_parse_72 : decode cX3_parse 72 = .ok (.if_icmp .eq 9, 3) := by decide +kernel
theorem dX3_parse_75 : decode cX3_parse 75 = .ok (.aload_n 0, 1) := by decide +kernel
theorem dX3_parse_76 : decode cX3_parse 76 = .ok (.iconst 1, 1) := by decide +kernel
theorem dX3_parse_77 : decode cX3_parse 77 = .ok (.invokevirtual 73, 3) := by decide +kernel
theorem dX3_parse_80 : decode cX3_parse 80 = .ok (.ireturn, 1) := by decide +kernel
theorem dX3_parse_81 : decode cX3_parse 81 = .ok (.aload_n 0, 1) := by decide +kernel
theorem dX3_parse_82 : decode cX3_parse 82 = .ok (.invokevirtual 77, 3) := by decide +kernel
theorem dX3_parse_85 : decode cX3_parse 85 = .ok (.aload_n 0, 1) := by decide +kernel
theorem dX3_parse_86 : decode cX3_parse 86 = .ok (.invokevirtual 80, 3) := by decide +kernel
theorem dX3_parse_89 : decode cX3_parse 89 = .ok (.ifCond .ne 5, 3) := by decide +kernel
theorem dX3_parse_92 : decode cX3_parse 92 = .ok (.iconst 0, 1) := by decide +kernel
theorem dX3_parse_93 : decode cX3_parse 93 = .ok (.ireturn, 1) := by decide +kernel
theorem dX3_parse_94 : decode cX3_parse 94 = .ok (.iinc 2 1, 3) := by decide +kernel
theorem dX3_parse_97 : decode cX3_parse 97 = .ok (.goto (-44), 3) := by decide +kernel
theorem dX3_parse_100 : decode cX3_parse 100 = .ok (.aload_n 0, 1) := by decide +kernel
theorem dX3_parse_101 : decode cX3_parse 101 = .ok (.getfield 52, 3) := by decide +kernel
theorem dX3_parse_104 : decode cX3_parse 104 = .ok (.ifCond .eq 11, 3) := by decide +kernel
theorem dX3_parse_107 : decode cX3_parse 107 = .ok (.aload_n 0, 1) := by decide +kernel
theorem dX3_parse_108 : decode cX3_parse 108 = .ok (.iconst 1, 1) := by decide +kernel
theorem dX3_parse_109 : decode cX3_parse 109 = .ok (.invokevirtual 73, 3) := by decide +kernel
theorem dX3_parse_112 : decode cX3_parse 112 = .ok (.ifCond .eq 7, 3) := by decide +kernel
theorem dX3_parse_115 : decode cX3_parse 115 = .ok (.iconst 1, 1) := by decide +kernel
theorem dX3_parse_116 : decode cX3_parse 116 = .ok (.goto 4, 3) := by decide +kernel
theorem dX3_parse_119 : decode cX3_parse 119 = .ok (.iconst 0, 1) := by decide +kernel
theorem dX3_parse_120 : decode cX3_parse 120 = .ok (.ireturn, 1) := by decide +kernel
theorem dX3_takeLine_0 : decode cX3_takeLine 0 = .ok (.aload_n 0, 1) := by decide +kernel
theorem dX3_takeLine_1 : decode cX3_takeLine 1 = .ok (.ldc 84, 2) := by decide +kernel
theorem dX3_takeLine_3 : decode cX3_takeLine 3 = .ok (.invokevirtual 86, 3) := by decide +kernel
theorem dX3_takeLine_6 : decode cX3_takeLine 6 = .ok (.ifCond .eq 8, 3) := by decide +kernel
theorem dX3_takeLine_9 : decode cX3_takeLine 9 = .ok (.aload_n 0, 1) := by decide +kernel
theorem dX3_takeLine_10 : decode cX3_takeLine 10 = .ok (.invokevirtual 89, 3) := by decide +kernel
theorem dX3_takeLine_13 : decode cX3_takeLine 13 = .ok (.ireturn, 1) := by decide +kernel
theorem dX3_takeLine_14 : decode cX3_takeLine 14 = .ok (.aload_n 0, 1) := by decide +kernel
theorem dX3_takeLine_15 : decode cX3_takeLine 15 = .ok (.ldc 92, 2) := by decide +kernel
theorem dX3_takeLine_17 : decode cX3_takeLine 17 = .ok (.invokevirtual 86, 3) := by decide +kernel
theorem dX3_takeLine_20 : decode cX3_takeLine 20 = .ok (.ifCond .eq 9, 3) := by decide +kernel
theorem dX3_takeLine_23 : decode cX3_takeLine 23 = .ok (.aload_n 0, 1) := by decide +kernel
theorem dX3_takeLine_24 : decode cX3_takeLine 24 = .ok (.iconst 1, 1) := by decide +kernel
theorem dX3_takeLine_25 : decode cX3_takeLine 25 = .ok (.invokevirtual 94, 3) := by decide +kernel
theorem dX3_takeLine_28 : decode cX3_takeLine 28 = .ok (.ireturn, 1) := by decide +kernel
theorem dX3_takeLine_29 : decode cX3_takeLine 29 = .ok (.aload_n 0, 1) := by decide +kernel
theorem dX3_takeLine_30 : decode cX3_takeLine 30 = .ok (.ldc 97, 2) := by decide +kernel
theorem dX3_takeLine_32 : decode cX3_takeLine 32 = .ok (.invokevirtual 86, 3) := by decide +kernel
theorem dX3_takeLine_35 : decode cX3_takeLine 35 = .ok (.ifCond .eq 9, 3) := by decide +kernel
theorem dX3_takeLine_38 : decode cX3_takeLine 38 = .ok (.aload_n 0, 1) := by decide +kernel
theorem dX3_takeLine_39 : decode cX3_takeLine 39 = .ok (.iconst 0, 1) := by decide +kernel
theorem dX3_takeLine_40 : decode cX3_takeLine 40 = .ok (.invokevirtual 94, 3) := by decide +kernel
theorem dX3_takeLine_43 : decode cX3_takeLine 43 = .ok (.ireturn, 1) := by decide +kernel
theorem dX3_takeLine_44 : decode cX3_takeLine 44 = .ok (.aload_n 0, 1) := by decide +kernel
theorem dX3_takeLine_45 : decode cX3_takeLine 45 = .ok (.ldc 99, 2) := by decide +kernel
theorem dX3_takeLine_47 : decode cX3_takeLine 47 = .ok (.invokevirtual 86, 3) := by decide +kernel
theorem dX3_takeLine_50 : decode cX3_takeLine 50 = .ok (.ifCond .eq 9, 3) := by decide +kernel
theorem dX3_takeLine_53 : decode cX3_takeLine 53 = .ok (.aload_n 0, 1) := by decide +kernel
theorem dX3_takeLine_54 : decode cX3_takeLine 54 = .ok (.iconst 2, 1) := by decide +kernel
theorem dX3_takeLine_55 : decode cX3_takeLine 55 = .ok (.invokevirtual 94, 3) := by decide +kernel
theorem dX3_takeLine_58 : decode cX3_takeLine 58 = .ok (.ireturn, 1) := by decide +kernel
theorem dX3_takeLine_59 : decode cX3_takeLine 59 = .ok (.aload_n 0, 1) := by decide +kernel
theorem dX3_takeLine_60 : decode cX3_takeLine 60 = .ok (.ldc 101, 2) := by decide +kernel
theorem dX3_takeLine_62 : decode cX3_takeLine 62 = .ok (.invokevirtual 86, 3) := by decide +kernel
theorem dX3_takeLine_65 : decode cX3_takeLine 65 = .ok (.ifCond .eq 8, 3) := by decide +kernel
theorem dX3_takeLine_68 : decode cX3_takeLine 68 = .ok (.aload_n 0, 1) := by decide +kernel
theorem dX3_takeLine_69 : decode cX3_takeLine 69 = .ok (.invokevirtual 103, 3) := by decide +kernel
theorem dX3_takeLine_72 : decode cX3_takeLine 72 = .ok (.ireturn, 1) := by decide +kernel
theorem dX3_takeLine_73 : decode cX3_takeLine 73 = .ok (.aload_n 0, 1) := by decide +kernel
theorem dX3_takeLine_74 : decode cX3_takeLine 74 = .ok (.ldc 106, 2) := by decide +kernel
theorem dX3_takeLine_76 : decode cX3_takeLine 76 = .ok (.invokevirtual 86, 3) := by decide +kernel
theorem dX3_takeLine_79 : decode cX3_takeLine 79 = .ok (.ifCond .eq 10, 3) := by decide +kernel
theorem dX3_takeLine_82 : decode cX3_takeLine 82 = .ok (.aload_n 0, 1) := by decide +kernel
theorem dX3_takeLine_83 : decode cX3_takeLine 83 = .ok (.invokevirtual 108, 3) := by decide +kernel
theorem dX3_takeLine_86 : decode cX3_takeLine 86 = .ok (.goto 8, 3) := by decide +kernel
theorem dX3_takeLine_89 : decode cX3_takeLine 89 = .ok (.aload_n 0, 1) := by decide +kernel
theorem dX3_takeLine_90 : decode cX3_takeLine 90 = .ok (.iconst 1, 1) := by decide +kernel
theorem dX3_takeLine_91 : decode cX3_takeLine 91 = .ok (.invokevirtual 73, 3) := by decide +kernel
theorem dX3_takeLine_94 : decode cX3_takeLine 94 = .ok (.ireturn, 1) := by decide +kernel
theorem dX3_takeMapLine_0 : decode cX3_takeMapLine 0 = .ok (.aload_n 0, 1) := by decide +kernel
theorem dX3_takeMapLine_1 : decode cX3_takeMapLine 1 = .ok (.getfield 36, 3) := by decide +kernel
theorem dX3_takeMapLine_4 : decode cX3_takeMapLine 4 = .ok (.bipush 6, 2) := by decide +kernel
theorem dX3_takeMapLine_6 : decode cX3_takeMapLine 6 = .ok (.if_icmp .lt 9, 3) := by decide +kernel
theorem dX3_takeMapLine_9 : decode cX3_takeMapLine 9 = .ok (.aload_n 0, 1) := by decide +kernel
theorem dX3_takeMapLine_10 : decode cX3_takeMapLine 10 = .ok (.iconst 4, 1) := by decide +kernel
theorem dX3_takeMapLine_11 : decode cX3_takeMapLine 11 = .ok (.invokevirtual 73, 3) := by decide +kernel
theorem dX3_takeMapLine_14 : decode cX3_takeMapLine 14 = .ok (.ireturn, 1) := by decide +kernel
theorem dX3_takeMapLine_15 : decode cX3_takeMapLine 15 = .ok (.aload_n 0, 1) := by decide +kernel
theorem dX3_takeMapLine_16 : decode cX3_takeMapLine 16 = .ok (.invokevirtual 77, 3) := by decide +kernel
theorem dX3_takeMapLine_19 : decode cX3_takeMapLine 19 = .ok (.aload_n 0, 1) := by decide +kernel
theorem dX3_takeMapLine_20 : decode cX3_takeMapLine 20 = .ok (.getfield 52, 3) := by decide +kernel
theorem dX3_takeMapLine_23 : decode cX3_takeMapLine 23 = .ok (.iconst 1, 1) := by decide +kernel
theorem dX3_takeMapLine_24 : decode cX3_takeMapLine 24 = .ok (.if_icmp .eq 9, 3) := by decide +kernel
theorem dX3_takeMapLine_27 : decode cX3_takeMapLine 27 = .ok (.aload_n 0, 1) := by decide +kernel
theorem dX3_takeMapLine_28 : decode cX3_takeMapLine 28 = .ok (.iconst 1, 1) := by decide +kernel
theorem dX3_takeMapLine_29 : decode cX3_takeMapLine 29 = .ok (.invokevirtual 73, 3) := by decide +kernel
theorem dX3_takeMapLine_32 : decode cX3_takeMapLine 32 = .ok (.ireturn, 1) := by decide +kernel
theorem dX3_takeMapLine_33 : decode cX3_takeMapLine 33 = .ok (.aload_n 0, 1) := by decide +kernel
theorem dX3_takeMapLine_34 : decode cX3_takeMapLine 34 = .ok (.aload_n 0, 1) := by decide +kernel
theorem dX3_takeMapLine_35 : decode cX3_takeMapLine 35 = .ok (.getfield 61, 3) := by decide +kernel
theorem dX3_takeMapLine_38 : decode cX3_takeMapLine 38 = .ok (.invokevirtual 111, 3) := by decide +kernel
theorem dX3_takeMapLine_41 : decode cX3_takeMapLine 41 = .ok (.iconst (-1), 1) := by decide +kernel
theorem dX3_takeMapLine_42 : decode cX3_takeMapLine 42 = .ok (.if_icmp .eq 9, 3) := by decide +kernel
theorem dX3_takeMapLine_45 : decode cX3_takeMapLine 45 = .ok (.aload_n 0, 1) := by decide +kernel
theorem dX3_takeMapLine_46 : decode cX3_takeMapLine 46 = .ok (.iconst 3, 1) := by decide +kernel
theorem dX3_takeMapLine_47 : decode cX3_takeMapLine 47 = .ok (.invokevirtual 73, 3) := by decide +kernel
theorem dX3_takeMapLine_50 : decode cX3_takeMapLine 50 = .ok (.ireturn, 1) := by decide +kernel
theorem dX3_takeMapLine_51 : decode cX3_takeMapLine 51 = .ok (.aload_n 0, 1) := by decide +kernel
theorem dX3_takeMapLine_52 : decode cX3_takeMapLine 52 = .ok (.getfield 14, 3) := by decide +kernel
theorem dX3_takeMapLine_55 : decode cX3_takeMapLine 55 = .ok (.aload_n 0, 1) := by decide +kernel
theorem dX3_takeMapLine_56 : decode cX3_takeMapLine 56 = .ok (.getfield 36, 3) := by decide +kernel
theorem dX3_takeMapLine_59 : decode cX3_takeMapLine 59 = .ok (.aload_n 0, 1) := by decide +kernel
theorem dX3_takeMapLine_60 : decode cX3_takeMapLine 60 = .ok (.getfield 61, 3) := by decide +kernel
theorem dX3_takeMapLine_63 : decode cX3_takeMapLine 63 = .ok (.invokevirtual 114, 3) := by decide +kernel
theorem dX3_takeMapLine_66 : decode cX3_takeMapLine 66 = .ok (.aload_n 0, 1) := by decide +kernel
theorem dX3_takeMapLine_67 : decode cX3_takeMapLine 67 = .ok (.getfield 24, 3) := by decide +kernel
theorem dX3_takeMapLine_70 : decode cX3_takeMapLine 70 = .ok (.bipush 6, 2) := by decide +kernel
theorem dX3_takeMapLine_72 : decode cX3_takeMapLine 72 = .ok (.aload_n 0, 1) := by decide +kernel
theorem dX3_takeMapLine_73 : decode cX3_takeMapLine 73 = .ok (.getfield 36, 3) := by decide +kernel
theorem dX3_takeMapLine_76 : decode cX3_takeMapLine 76 = .ok (.iadd, 1) := by decide +kernel
theorem dX3_takeMapLine_77 : decode cX3_takeMapLine 77 = .ok (.iconst 0, 1) := by decide +kernel
theorem dX3_takeMapLine_78 : decode cX3_takeMapLine 78 = .ok (.sipush 256, 3) := by decide +kernel
theorem dX3_takeMapLine_81 : decode cX3_takeMapLine 81 = .ok (.iconst 0, 1) := by decide +kernel
theorem dX3_takeMapLine_82 : decode cX3_takeMapLine 82 = .ok (.invokevirtual 118, 3) := by decide +kernel
theorem dX3_takeMapLine_85 : decode cX3_takeMapLine 85 = .ok (.aload_n 0, 1) := by decide +kernel
theorem dX3_takeMapLine_86 : decode cX3_takeMapLine 86 = .ok (.dup, 1) := by decide +kernel
theorem dX3_takeMapLine_87 : decode cX3_takeMapLine 87 = .ok (.getfield 36, 3) := by decide +kernel
theorem dX3_takeMapLine_90 : decode cX3_takeMapLine 90 = .ok (.iconst 1, 1) := by decide +kernel
theorem dX3_takeMapLine_91 : decode cX3_takeMapLine 91 = .ok (.iadd, 1) := by decide +kernel
theorem dX3_takeMapLine_92 : decode cX3_takeMapLine 92 = .ok (.putfield 36, 3) := by decide +kernel
theorem dX3_takeMapLine_95 : decode cX3_takeMapLine 95 = .ok (.aload_n 0, 1) := by decide +kernel
theorem dX3_takeMapLine_96 : decode cX3_takeMapLine 96 = .ok (.invokevirtual 77, 3) := by decide +kernel
theorem dX3_takeMapLine_99 : decode cX3_takeMapLine 99 = .ok (.iconst 1, 1) := by decide +kernel
theorem dX3_takeMapLine_100 : decode cX3_takeMapLine 100 = .ok (.ireturn, 1) := by decide +kernel
theorem dX3_takeRangeLine_0 : decode cX3_takeRangeLine 0 = .ok (.aload_n 0, 1) := by decide +kernel
theorem dX3_takeRangeLine_1 : decode cX3_takeRangeLine 1 = .ok (.invokevirtual 77, 3) := by decide +kernel
theorem dX3_takeRangeLine_4 : decode cX3_takeRangeLine 4 = .ok (.aload_n 0, 1) := by decide +kernel
theorem dX3_takeRangeLine_5 : decode cX3_takeRangeLine 5 = .ok (.invokevirtual 124, 3) := by decide +kernel
theorem dX3_takeRangeLine_8 : decode cX3_takeRangeLine 8 = .ok (.istore_n 2, 1) := by decide +kernel
theorem dX3_takeRangeLine_9 : decode cX3_takeRangeLine 9 = .ok (.iload_n 2, 1) := by decide +kernel
theorem dX3_takeRangeLine_10 : decode cX3_takeRangeLine 10 = .ok (.iconst (-1), 1) := by decide +kernel
theorem dX3_takeRangeLine_11 : decode cX3_takeRangeLine 11 = .ok (.if_icmp .ne 5, 3) := by decide +kernel
theorem dX3_takeRangeLine_14 : decode cX3_takeRangeLine 14 = .ok (.iconst 0, 1) := by decide +kernel
theorem dX3_takeRangeLine_15 : decode cX3_takeRangeLine 15 = .ok (.ireturn, 1) := by decide +kernel
theorem dX3_takeRangeLine_16 : decode cX3_takeRangeLine 16 = .ok (.bipush 8, 2) := by decide +kernel
theorem dX3_takeRangeLine_18 : decode cX3_takeRangeLine 18 = .ok (.aload_n 0, 1) := by decide +kernel
theorem dX3_takeRangeLine_19 : decode cX3_takeRangeLine 19 = .ok (.getfield 32, 3) := by decide +kernel
theorem dX3_takeRangeLine_22 : decode cX3_takeRangeLine 22 = .ok (.invokestatic 128, 3) := by decide +kernel
theorem dX3_takeRangeLine_25 : decode cX3_takeRangeLine 25 = .ok (.imul, 1) := by decide +kernel
theorem dX3_takeRangeLine_26 : decode cX3_takeRangeLine 26 = .ok (.iconst 1, 1) := by decide +kernel
theorem dX3_takeRangeLine_27 : decode cX3_takeRangeLine 27 = .ok (.isub, 1) := by decide +kernel
theorem dX3_takeRangeLine_28 : decode cX3_takeRangeLine 28 = .ok (.istore_n 3, 1) := by decide +kernel
theorem dX3_takeRangeLine_29 : decode cX3_takeRangeLine 29 = .ok (.aload_n 0, 1) := by decide +kernel
theorem dX3_takeRangeLine_30 : decode cX3_takeRangeLine 30 = .ok (.iconst 0, 1) := by decide +kernel
theorem dX3_takeRangeLine_31 : decode cX3_takeRangeLine 31 = .ok (.iload_n 3, 1) := by decide +kernel
theorem dX3_takeRangeLine_32 : decode cX3_takeRangeLine 32 = .ok (.invokevirtual 69, 3) := by decide +kernel
theorem dX3_takeRangeLine_35 : decode cX3_takeRangeLine 35 = .ok (.istore 4, 2) := by decide +kernel
theorem dX3_takeRangeLine_37 : decode cX3_takeRangeLine 37 = .ok (.iload 4, 2) := by decide +kernel
theorem dX3_takeRangeLine_39 : decode cX3_takeRangeLine 39 = .ok (.iconst (-1), 1) := by decide +kernel
theorem dX3_takeRangeLine_40 : decode cX3_takeRangeLine 40 = .ok (.if_icmp .ne 5, 3) := by decide +kernel
theorem dX3_takeRangeLine_43 : decode cX3_takeRangeLine 43 = .ok (.iconst 0, 1) := by decide +kernel
theorem dX3_takeRangeLine_44 : decode cX3_takeRangeLine 44 = .ok (.ireturn, 1) := by decide +kernel
theorem dX3_takeRangeLine_45 : decode cX3_takeRangeLine 45 = .ok (.aload_n 0, 1) := by decide +kernel
theorem dX3_takeRangeLine_46 : decode cX3_takeRangeLine 46 = .ok (.iload 4, 2) := by decide +kernel
theorem dX3_takeRangeLine_48 : decode cX3_takeRangeLine 48 = .ok (.iload_n 3, 1) := by decide +kernel
theorem dX3_takeRangeLine_49 : decode cX3_takeRangeLine 49 = .ok (.invokevirtual 69, 3) := by decide +kernel
theorem dX3_takeRangeLine_52 : decode cX3_takeRangeLine 52 = .ok (.istore 5, 2) := by decide +kernel
theorem dX3_takeRangeLine_54 : decode cX3_takeRangeLine 54 = .ok (.iload 5, 2) := by decide +kernel
theorem dX3_takeRangeLine_56 : decode cX3_takeRangeLine 56 = .ok (.iconst (-1), 1) := by decide +kernel
theorem dX3_takeRangeLine_57 : decode cX3_takeRangeLine 57 = .ok (.if_icmp .ne 5, 3) := by decide +kernel
theorem dX3_takeRangeLine_60 : decode cX3_takeRangeLine 60 = .ok (.iconst 0, 1) := by decide +kernel
theorem dX3_takeRangeLine_61 : decode cX3_takeRangeLine 61 = .ok (.ireturn, 1) := by decide +kernel
theorem dX3_takeRangeLine_62 : decode cX3_takeRangeLine 62 = .ok (.iload_n 1, 1) := by decide +kernel
theorem dX3_takeRangeLine_63 : decode cX3_takeRangeLine 63 = .ok (.iconst 2, 1) := by decide +kernel
theorem dX3_takeRangeLine_64 : decode cX3_takeRangeLine 64 = .ok (.if_icmp .ne 21, 3) := by decide +kernel
theorem dX3_takeRangeLine_67 : decode cX3_takeRangeLine 67 = .ok (.aload_n 0, 1) := by decide +kernel
theorem dX3_takeRangeLine_68 : decode cX3_takeRangeLine 68 = .ok (.getfield 24, 3) := by decide +kernel
theorem dX3_takeRangeLine_71 : decode cX3_takeRangeLine 71 = .ok (.bipush 6, 2) := by decide +kernel
theorem dX3_takeRangeLine_73 : decode cX3_takeRangeLine 73 = .ok (.iload_n 2, 1) := by decide +kernel
theorem dX3_takeRangeLine_74 : decode cX3_takeRangeLine 74 = .ok (.iadd, 1) := by decide +kernel
theorem dX3_takeRangeLine_75 : decode cX3_takeRangeLine 75 = .ok (.iload 4, 2) := by decide +kernel
theorem dX3_takeRangeLine_77 : decode cX3_takeRangeLine 77 = .ok (.iload 5, 2) := by decide +kernel
theorem dX3_takeRangeLine_79 : decode cX3_takeRangeLine 79 = .ok (.invokevirtual 131, 3) := by decide +kernel
theorem dX3_takeRangeLine_82 : decode cX3_takeRangeLine 82 = .ok (.goto 19, 3) := by decide +kernel
theorem dX3_takeRangeLine_85 : decode cX3_takeRangeLine 85 = .ok (.aload_n 0, 1) := by decide +kernel
theorem dX3_takeRangeLine_86 : decode cX3_takeRangeLine 86 = .ok (.getfield 24, 3) := by decide +kernel
theorem dX3_takeRangeLine_89 : decode cX3_takeRangeLine 89 = .ok (.bipush 6, 2) := by decide +kernel
theorem dX3_takeRangeLine_91 : decode cX3_takeRangeLine 91 = .ok (.iload_n 2, 1) := by decide +kernel
theorem dX3_takeRangeLine_92 : decode cX3_takeRangeLine 92 = .ok (.iadd, 1) := by decide +kernel
theorem dX3_takeRangeLine_93 : decode cX3_takeRangeLine 93 = .ok (.iload 4, 2) := by decide +kernel
theorem dX3_takeRangeLine_95 : decode cX3_takeRangeLine 95 = .ok (.iload 5, 2) := by decide +kernel
theorem dX3_takeRangeLine_97 : decode cX3_takeRangeLine 97 = .ok (.iload_n 1, 1) := by decide +kernel
theorem dX3_takeRangeLine_98 : decode cX3_takeRangeLine 98 = .ok (.invokevirtual 135, 3) := by decide +kernel
theorem dX3_takeRangeLine_101 : decode cX3_takeRangeLine 101 = .ok (.iconst 1, 1) := by decide +kernel
theorem dX3_takeRangeLine_102 : decode cX3_takeRangeLine 102 = .ok (.ireturn, 1) := by decide +kernel
theorem dX3_takeOrLine_0 : decode cX3_takeOrLine 0 = .ok (.aload_n 0, 1) := by decide +kernel
theorem dX3_takeOrLine_1 : decode cX3_takeOrLine 1 = .ok (.invokevirtual 77, 3) := by decide +kernel
theorem dX3_takeOrLine_4 : decode cX3_takeOrLine 4 = .ok (.aload_n 0, 1) := by decide +kernel
theorem dX3_takeOrLine_5 : decode cX3_takeOrLine 5 = .ok (.invokevirtual 124, 3) := by decide +kernel
theorem dX3_takeOrLine_8 : decode cX3_takeOrLine 8 = .ok (.istore_n 1, 1) := by decide +kernel
theorem dX3_takeOrLine_9 : decode cX3_takeOrLine 9 = .ok (.iload_n 1, 1) := by decide +kernel
theorem dX3_takeOrLine_10 : decode cX3_takeOrLine 10 = .ok (.iconst (-1), 1) := by decide +kernel
theorem dX3_takeOrLine_11 : decode cX3_takeOrLine 11 = .ok (.if_icmp .ne 5, 3) := by decide +kernel
theorem dX3_takeOrLine_14 : decode cX3_takeOrLine 14 = .ok (.iconst 0, 1) := by decide +kernel
theorem dX3_takeOrLine_15 : decode cX3_takeOrLine 15 = .ok (.ireturn, 1) := by decide +kernel
theorem dX3_takeOrLine_16 : decode cX3_takeOrLine 16 = .ok (.aload_n 0, 1) := by decide +kernel
theorem dX3_takeOrLine_17 : decode cX3_takeOrLine 17 = .ok (.invokevirtual 124, 3) := by decide +kernel
theorem dX3_takeOrLine_20 : decode cX3_takeOrLine 20 = .ok (.istore_n 2, 1) := by decide +kernel
theorem dX3_takeOrLine_21 : decode cX3_takeOrLine 21 = .ok (.iload_n 2, 1) := by decide +kernel
theorem dX3_takeOrLine_22 : decode cX3_takeOrLine 22 = .ok (.iconst (-1), 1) := by decide +kernel
theorem dX3_takeOrLine_23 : decode cX3_takeOrLine 23 = .ok (.if_icmp .ne 5, 3) := by decide +kernel
theorem dX3_takeOrLine_26 : decode cX3_takeOrLine 26 = .ok (.iconst 0, 1) := by decide +kernel
theorem dX3_takeOrLine_27 : decode cX3_takeOrLine 27 = .ok (.ireturn, 1) := by decide +kernel
theorem dX3_takeOrLine_28 : decode cX3_takeOrLine 28 = .ok (.aload_n 0, 1) := by decide +kernel
theorem dX3_takeOrLine_29 : decode cX3_takeOrLine 29 = .ok (.getfield 24, 3) := by decide +kernel
theorem dX3_takeOrLine_32 : decode cX3_takeOrLine 32 = .ok (.iconst 0, 1) := by decide +kernel
theorem dX3_takeOrLine_33 : decode cX3_takeOrLine 33 = .ok (.bipush 6, 2) := by decide +kernel
theorem dX3_takeOrLine_35 : decode cX3_takeOrLine 35 = .ok (.iload_n 1, 1) := by decide +kernel
theorem dX3_takeOrLine_36 : decode cX3_takeOrLine 36 = .ok (.iadd, 1) := by decide +kernel
theorem dX3_takeOrLine_37 : decode cX3_takeOrLine 37 = .ok (.bipush 6, 2) := by decide +kernel
theorem dX3_takeOrLine_39 : decode cX3_takeOrLine 39 = .ok (.iload_n 2, 1) := by decide +kernel
theorem dX3_takeOrLine_40 : decode cX3_takeOrLine 40 = .ok (.iadd, 1) := by decide +kernel
theorem dX3_takeOrLine_41 : decode cX3_takeOrLine 41 = .ok (.bipush 6, 2) := by decide +kernel
theorem dX3_takeOrLine_43 : decode cX3_takeOrLine 43 = .ok (.iload_n 1, 1) := by decide +kernel
theorem dX3_takeOrLine_44 : decode cX3_takeOrLine 44 = .ok (.iadd, 1) := by decide +kernel
theorem dX3_takeOrLine_45 : decode cX3_takeOrLine 45 = .ok (.invokevirtual 138, 3) := by decide +kernel
theorem dX3_takeOrLine_48 : decode cX3_takeOrLine 48 = .ok (.iconst 1, 1) := by decide +kernel
theorem dX3_takeOrLine_49 : decode cX3_takeOrLine 49 = .ok (.ireturn, 1) := by decide +kernel
theorem dX3_takeTreeLine_0 : decode cX3_takeTreeLine 0 = .ok (.aload_n 0, 1) := by decide +kernel
theorem dX3_takeTreeLine_1 : decode cX3_takeTreeLine 1 = .ok (.invokevirtual 77, 3) := by decide +kernel
theorem dX3_takeTreeLine_4 : decode cX3_takeTreeLine 4 = .ok (.aload_n 0, 1) := by decide +kernel
theorem dX3_takeTreeLine_5 : decode cX3_takeTreeLine 5 = .ok (.invokevirtual 124, 3) := by decide +kernel
theorem dX3_takeTreeLine_8 : decode cX3_takeTreeLine 8 = .ok (.istore_n 1, 1) := by decide +kernel
theorem dX3_takeTreeLine_9 : decode cX3_takeTreeLine 9 = .ok (.iload_n 1, 1) := by decide +kernel
theorem dX3_takeTreeLine_10 : decode cX3_takeTreeLine 10 = .ok (.iconst (-1), 1) := by decide +kernel
theorem dX3_takeTreeLine_11 : decode cX3_takeTreeLine 11 = .ok (.if_icmp .ne 5, 3) := by decide +kernel
theorem dX3_takeTreeLine_14 : decode cX3_takeTreeLine 14 = .ok (.iconst 0, 1) := by decide +kernel
theorem dX3_takeTreeLine_15 : decode cX3_takeTreeLine 15 = .ok (.ireturn, 1) := by decide +kernel
theorem dX3_takeTreeLine_16 : decode cX3_takeTreeLine 16 = .ok (.aload_n 0, 1) := by decide +kernel
theorem dX3_takeTreeLine_17 : decode cX3_takeTreeLine 17 = .ok (.getfield 52, 3) := by decide +kernel
theorem dX3_takeTreeLine_20 : decode cX3_takeTreeLine 20 = .ok (.iconst 2, 1) := by decide +kernel
theorem dX3_takeTreeLine_21 : decode cX3_takeTreeLine 21 = .ok (.if_icmp .eq 9, 3) := by decide +kernel
theorem dX3_takeTreeLine_24 : decode cX3_takeTreeLine 24 = .ok (.aload_n 0, 1) := by decide +kernel
theorem dX3_takeTreeLine_25 : decode cX3_takeTreeLine 25 = .ok (.iconst 1, 1) := by decide +kernel
theorem dX3_takeTreeLine_26 : decode cX3_takeTreeLine 26 = .ok (.invokevirtual 73, 3) := by decide +kernel
theorem dX3_takeTreeLine_29 : decode cX3_takeTreeLine 29 = .ok (.ireturn, 1) := by decide +kernel
theorem dX3_takeTreeLine_30 : decode cX3_takeTreeLine 30 = .ok (.aload_n 0, 1) := by decide +kernel
theorem dX3_takeTreeLine_31 : decode cX3_takeTreeLine 31 = .ok (.getfield 28, 3) := by decide +kernel
theorem dX3_takeTreeLine_34 : decode cX3_takeTreeLine 34 = .ok (.bipush 6, 2) := by decide +kernel
theorem dX3_takeTreeLine_36 : decode cX3_takeTreeLine 36 = .ok (.iload_n 1, 1) := by decide +kernel
theorem dX3_takeTreeLine_37 : decode cX3_takeTreeLine 37 = .ok (.iadd, 1) := by decide +kernel
theorem dX3_takeTreeLine_38 : decode cX3_takeTreeLine 38 = .ok (.aload_n 0, 1) := by decide +kernel
theorem dX3_takeTreeLine_39 : decode cX3_takeTreeLine 39 = .ok (.getfield 32, 3) := by decide +kernel
theorem dX3_takeTreeLine_42 : decode cX3_takeTreeLine 42 = .ok (.invokevirtual 141, 3) := by decide +kernel
theorem dX3_takeTreeLine_45 : decode cX3_takeTreeLine 45 = .ok (.iconst 0, 1) := by decide +kernel
theorem dX3_takeTreeLine_46 : decode cX3_takeTreeLine 46 = .ok (.istore_n 2, 1) := by decide +kernel
theorem dX3_takeTreeLine_47 : decode cX3_takeTreeLine 47 = .ok (.iload_n 2, 1) := by decide +kernel
theorem dX3_takeTreeLine_48 : decode cX3_takeTreeLine 48 = .ok (.aload_n 0, 1) := by decide +kernel
theorem dX3_takeTreeLine_49 : decode cX3_takeTreeLine 49 = .ok (.getfield 145, 3) := by decide +kernel
theorem dX3_takeTreeLine_52 : decode cX3_takeTreeLine 52 = .ok (.if_icmp .ge 57, 3) := by decide +kernel
theorem dX3_takeTreeLine_55 : decode cX3_takeTreeLine 55 = .ok (.aload_n 0, 1) := by decide +kernel
theorem dX3_takeTreeLine_56 : decode cX3_takeTreeLine 56 = .ok (.getfield 52, 3) := by decide +kernel
theorem dX3_takeTreeLine_59 : decode cX3_takeTreeLine 59 = .ok (.iconst 2, 1) := by decide +kernel
theorem dX3_takeTreeLine_60 : decode cX3_takeTreeLine 60 = .ok (.if_icmp .ne 49, 3) := by decide +kernel
theorem dX3_takeTreeLine_63 : decode cX3_takeTreeLine 63 = .ok (.aload_n 0, 1) := by decide +kernel
theorem dX3_takeTreeLine_64 : decode cX3_takeTreeLine 64 = .ok (.getfield 61, 3) := by decide +kernel
theorem dX3_takeTreeLine_67 : decode cX3_takeTreeLine 67 = .ok (.sipush 255, 3) := by decide +kernel
theorem dX3_takeTreeLine_70 : decode cX3_takeTreeLine 70 = .ok (.if_icmp .le 9, 3) := by decide +kernel
theorem dX3_takeTreeLine_73 : decode cX3_takeTreeLine 73 = .ok (.aload_n 0, 1) := by decide +kernel
theorem dX3_takeTreeLine_74 : decode cX3_takeTreeLine 74 = .ok (.iconst 2, 1) := by decide +kernel
theorem dX3_takeTreeLine_75 : decode cX3_takeTreeLine 75 = .ok (.invokevirtual 73, 3) := by decide +kernel
theorem dX3_takeTreeLine_78 : decode cX3_takeTreeLine 78 = .ok (.ireturn, 1) := by decide +kernel
theorem dX3_takeTreeLine_79 : decode cX3_takeTreeLine 79 = .ok (.aload_n 0, 1) := by decide +kernel
theorem dX3_takeTreeLine_80 : decode cX3_takeTreeLine 80 = .ok (.getfield 28, 3) := by decide +kernel
theorem dX3_takeTreeLine_83 : decode cX3_takeTreeLine 83 = .ok (.aload_n 0, 1) := by decide +kernel
theorem dX3_takeTreeLine_84 : decode cX3_takeTreeLine 84 = .ok (.getfield 61, 3) := by decide +kernel
theorem dX3_takeTreeLine_87 : decode cX3_takeTreeLine 87 = .ok (.invokevirtual 148, 3) := by decide +kernel
theorem dX3_takeTreeLine_90 : decode cX3_takeTreeLine 90 = .ok (.ifCond .ne 9, 3) := by decide +kernel
theorem dX3_takeTreeLine_93 : decode cX3_takeTreeLine 93 = .ok (.aload_n 0, 1) := by decide +kernel
theorem dX3_takeTreeLine_94 : decode cX3_takeTreeLine 94 = .ok (.iconst 5, 1) := by decide +kernel
theorem dX3_takeTreeLine_95 : decode cX3_takeTreeLine 95 = .ok (.invokevirtual 73, 3) := by decide +kernel
theorem dX3_takeTreeLine_98 : decode cX3_takeTreeLine 98 = .ok (.ireturn, 1) := by decide +kernel
theorem dX3_takeTreeLine_99 : decode cX3_takeTreeLine 99 = .ok (.aload_n 0, 1) := by decide +kernel
theorem dX3_takeTreeLine_100 : decode cX3_takeTreeLine 100 = .ok (.invokevirtual 77, 3) := by decide +kernel
theorem dX3_takeTreeLine_103 : decode cX3_takeTreeLine 103 = .ok (.iinc 2 1, 3) := by decide +kernel
theorem dX3_takeTreeLine_106 : decode cX3_takeTreeLine 106 = .ok (.goto (-59), 3) := by decide +kernel
theorem dX3_takeTreeLine_109 : decode cX3_takeTreeLine 109 = .ok (.aload_n 0, 1) := by decide +kernel
theorem dX3_takeTreeLine_110 : decode cX3_takeTreeLine 110 = .ok (.getfield 52, 3) := by decide +kernel
theorem dX3_takeTreeLine_113 : decode cX3_takeTreeLine 113 = .ok (.iconst 3, 1) := by decide +kernel
theorem dX3_takeTreeLine_114 : decode cX3_takeTreeLine 114 = .ok (.if_icmp .eq 16, 3) := by decide +kernel
theorem dX3_takeTreeLine_117 : decode cX3_takeTreeLine 117 = .ok (.aload_n 0, 1) := by decide +kernel
theorem dX3_takeTreeLine_118 : decode cX3_takeTreeLine 118 = .ok (.getfield 52, 3) := by decide +kernel
theorem dX3_takeTreeLine_121 : decode cX3_takeTreeLine 121 = .ok (.ifCond .eq 9, 3) := by decide +kernel
theorem dX3_takeTreeLine_124 : decode cX3_takeTreeLine 124 = .ok (.aload_n 0, 1) := by decide +kernel
theorem dX3_takeTreeLine_125 : decode cX3_takeTreeLine 125 = .ok (.iconst 1, 1) := by decide +kernel
theorem dX3_takeTreeLine_126 : decode cX3_takeTreeLine 126 = .ok (.invokevirtual 73, 3) := by decide +kernel
theorem dX3_takeTreeLine_129 : decode cX3_takeTreeLine 129 = .ok (.ireturn, 1) := by decide +kernel
theorem dX3_takeTreeLine_130 : decode cX3_takeTreeLine 130 = .ok (.aload_n 0, 1) := by decide +kernel
theorem dX3_takeTreeLine_131 : decode cX3_takeTreeLine 131 = .ok (.getfield 28, 3) := by decide +kernel
theorem dX3_takeTreeLine_134 : decode cX3_takeTreeLine 134 = .ok (.invokevirtual 151, 3) := by decide +kernel
theorem dX3_takeTreeLine_137 : decode cX3_takeTreeLine 137 = .ok (.ifCond .ne 11, 3) := by decide +kernel
theorem dX3_takeTreeLine_140 : decode cX3_takeTreeLine 140 = .ok (.aload_n 0, 1) := by decide +kernel
theorem dX3_takeTreeLine_141 : decode cX3_takeTreeLine 141 = .ok (.iconst 5, 1) := by decide +kernel
theorem dX3_takeTreeLine_142 : decode cX3_takeTreeLine 142 = .ok (.invokevirtual 73, 3) := by decide +kernel
theorem dX3_takeTreeLine_145 : decode cX3_takeTreeLine 145 = .ok (.ifCond .eq 7, 3) := by decide +kernel
theorem dX3_takeTreeLine_148 : decode cX3_takeTreeLine 148 = .ok (.iconst 1, 1) := by decide +kernel
theorem dX3_takeTreeLine_149 : decode cX3_takeTreeLine 149 = .ok (.goto 4, 3) := by decide +kernel
theorem dX3_takeTreeLine_152 : decode cX3_takeTreeLine 152 = .ok (.iconst 0, 1) := by decide +kernel
theorem dX3_takeTreeLine_153 : decode cX3_takeTreeLine 153 = .ok (.ireturn, 1) := by decide +kernel
theorem dX3_takeWord_0 : decode cX3_takeWord 0 = .ok (.aload_n 0, 1) := by decide +kernel
theorem dX3_takeWord_1 : decode cX3_takeWord 1 = .ok (.aload_n 1, 1) := by decide +kernel
theorem dX3_takeWord_2 : decode cX3_takeWord 2 = .ok (.invokevirtual 86, 3) := by decide +kernel
theorem dX3_takeWord_5 : decode cX3_takeWord 5 = .ok (.ifCond .ne 9, 3) := by decide +kernel
theorem dX3_takeWord_8 : decode cX3_takeWord 8 = .ok (.aload_n 0, 1) := by decide +kernel
theorem dX3_takeWord_9 : decode cX3_takeWord 9 = .ok (.iconst 1, 1) := by decide +kernel
theorem dX3_takeWord_10 : decode cX3_takeWord 10 = .ok (.invokevirtual 73, 3) := by decide +kernel
theorem dX3_takeWord_13 : decode cX3_takeWord 13 = .ok (.ireturn, 1) := by decide +kernel
theorem dX3_takeWord_14 : decode cX3_takeWord 14 = .ok (.aload_n 0, 1) := by decide +kernel
theorem dX3_takeWord_15 : decode cX3_takeWord 15 = .ok (.invokevirtual 77, 3) := by decide +kernel
theorem dX3_takeWord_18 : decode cX3_takeWord 18 = .ok (.iconst 1, 1) := by decide +kernel
theorem dX3_takeWord_19 : decode cX3_takeWord 19 = .ok (.ireturn, 1) := by decide +kernel
theorem dX3_takeMap_0 : decode cX3_takeMap 0 = .ok (.aload_n 0, 1) := by decide +kernel
theorem dX3_takeMap_1 : decode cX3_takeMap 1 = .ok (.getfield 52, 3) := by decide +kernel
theorem dX3_takeMap_4 : decode cX3_takeMap 4 = .ok (.iconst 1, 1) := by decide +kernel
theorem dX3_takeMap_5 : decode cX3_takeMap 5 = .ok (.if_icmp .eq 11, 3) := by decide +kernel
theorem dX3_takeMap_8 : decode cX3_takeMap 8 = .ok (.aload_n 0, 1) := by decide +kernel
theorem dX3_takeMap_9 : decode cX3_takeMap 9 = .ok (.iconst 1, 1) := by decide +kernel
theorem dX3_takeMap_10 : decode cX3_takeMap 10 = .ok (.invokevirtual 73, 3) := by decide +kernel
theorem dX3_takeMap_13 : decode cX3_takeMap 13 = .ok (.pop, 1) := by decide +kernel
theorem dX3_takeMap_14 : decode cX3_takeMap 14 = .ok (.iconst (-1), 1) := by decide +kernel
theorem dX3_takeMap_15 : decode cX3_takeMap 15 = .ok (.ireturn, 1) := by decide +kernel
theorem dX3_takeMap_16 : decode cX3_takeMap 16 = .ok (.aload_n 0, 1) := by decide +kernel
theorem dX3_takeMap_17 : decode cX3_takeMap 17 = .ok (.aload_n 0, 1) := by decide +kernel
theorem dX3_takeMap_18 : decode cX3_takeMap 18 = .ok (.getfield 61, 3) := by decide +kernel
theorem dX3_takeMap_21 : decode cX3_takeMap 21 = .ok (.invokevirtual 111, 3) := by decide +kernel
theorem dX3_takeMap_24 : decode cX3_takeMap 24 = .ok (.istore_n 1, 1) := by decide +kernel
theorem dX3_takeMap_25 : decode cX3_takeMap 25 = .ok (.iload_n 1, 1) := by decide +kernel
theorem dX3_takeMap_26 : decode cX3_takeMap 26 = .ok (.iconst (-1), 1) := by decide +kernel
theorem dX3_takeMap_27 : decode cX3_takeMap 27 = .ok (.if_icmp .ne 11, 3) := by decide +kernel
theorem dX3_takeMap_30 : decode cX3_takeMap 30 = .ok (.aload_n 0, 1) := by decide +kernel
theorem dX3_takeMap_31 : decode cX3_takeMap 31 = .ok (.iconst 3, 1) := by decide +kernel
theorem dX3_takeMap_32 : decode cX3_takeMap 32 = .ok (.invokevirtual 73, 3) := by decide +kernel
theorem dX3_takeMap_35 : decode cX3_takeMap 35 = .ok (.pop, 1) := by decide +kernel
theorem dX3_takeMap_36 : decode cX3_takeMap 36 = .ok (.iconst (-1), 1) := by decide +kernel
theorem dX3_takeMap_37 : decode cX3_takeMap 37 = .ok (.ireturn, 1) := by decide +kernel
theorem dX3_takeMap_38 : decode cX3_takeMap 38 = .ok (.aload_n 0, 1) := by decide +kernel
theorem dX3_takeMap_39 : decode cX3_takeMap 39 = .ok (.invokevirtual 77, 3) := by decide +kernel
theorem dX3_takeMap_42 : decode cX3_takeMap 42 = .ok (.iload_n 1, 1) := by decide +kernel
theorem dX3_takeMap_43 : decode cX3_takeMap 43 = .ok (.ireturn, 1) := by decide +kernel
theorem dX3_takeNumber_0 : decode cX3_takeNumber 0 = .ok (.aload_n 0, 1) := by decide +kernel
theorem dX3_takeNumber_1 : decode cX3_takeNumber 1 = .ok (.getfield 52, 3) := by decide +kernel
theorem dX3_takeNumber_4 : decode cX3_takeNumber 4 = .ok (.iconst 2, 1) := by decide +kernel
theorem dX3_takeNumber_5 : decode cX3_takeNumber 5 = .ok (.if_icmp .eq 11, 3) := by decide +kernel
theorem dX3_takeNumber_8 : decode cX3_takeNumber 8 = .ok (.aload_n 0, 1) := by decide +kernel
theorem dX3_takeNumber_9 : decode cX3_takeNumber 9 = .ok (.iconst 1, 1) := by decide +kernel
theorem dX3_takeNumber_10 : decode cX3_takeNumber 10 = .ok (.invokevirtual 73, 3) := by decide +kernel
theorem dX3_takeNumber_13 : decode cX3_takeNumber 13 = .ok (.pop, 1) := by decide +kernel
theorem dX3_takeNumber_14 : decode cX3_takeNumber 14 = .ok (.iconst (-1), 1) := by decide +kernel
theorem dX3_takeNumber_15 : decode cX3_takeNumber 15 = .ok (.ireturn, 1) := by decide +kernel
theorem dX3_takeNumber_16 : decode cX3_takeNumber 16 = .ok (.aload_n 0, 1) := by decide +kernel
theorem dX3_takeNumber_17 : decode cX3_takeNumber 17 = .ok (.getfield 61, 3) := by decide +kernel
theorem dX3_takeNumber_20 : decode cX3_takeNumber 20 = .ok (.istore_n 3, 1) := by decide +kernel
theorem dX3_takeNumber_21 : decode cX3_takeNumber 21 = .ok (.iload_n 3, 1) := by decide +kernel
theorem dX3_takeNumber_22 : decode cX3_takeNumber 22 = .ok (.iload_n 1, 1) := by decide +kernel
theorem dX3_takeNumber_23 : decode cX3_takeNumber 23 = .ok (.if_icmp .lt 8, 3) := by decide +kernel
theorem dX3_takeNumber_26 : decode cX3_takeNumber 26 = .ok (.iload_n 3, 1) := by decide +kernel
theorem dX3_takeNumber_27 : decode cX3_takeNumber 27 = .ok (.iload_n 2, 1) := by decide +kernel
theorem dX3_takeNumber_28 : decode cX3_takeNumber 28 = .ok (.if_icmp .le 11, 3) := by decide +kernel
theorem dX3_takeNumber_31 : decode cX3_takeNumber 31 = .ok (.aload_n 0, 1) := by decide +kernel
theorem dX3_takeNumber_32 : decode cX3_takeNumber 32 = .ok (.iconst 2, 1) := by decide +kernel
theorem dX3_takeNumber_33 : decode cX3_takeNumber 33 = .ok (.invokevirtual 73, 3) := by decide +kernel
theorem dX3_takeNumber_36 : decode cX3_takeNumber 36 = .ok (.pop, 1) := by decide +kernel
theorem dX3_takeNumber_37 : decode cX3_takeNumber 37 = .ok (.iconst (-1), 1) := by decide +kernel
theorem dX3_takeNumber_38 : decode cX3_takeNumber 38 = .ok (.ireturn, 1) := by decide +kernel
theorem dX3_takeNumber_39 : decode cX3_takeNumber 39 = .ok (.aload_n 0, 1) := by decide +kernel
theorem dX3_takeNumber_40 : decode cX3_takeNumber 40 = .ok (.invokevirtual 77, 3) := by decide +kernel
theorem dX3_takeNumber_43 : decode cX3_takeNumber 43 = .ok (.iload_n 3, 1) := by decide +kernel
theorem dX3_takeNumber_44 : decode cX3_takeNumber 44 = .ok (.ireturn, 1) := by decide +kernel
theorem dX3_fail_0 : decode cX3_fail 0 = .ok (.aload_n 0, 1) := by decide +kernel
theorem dX3_fail_1 : decode cX3_fail 1 = .ok (.iload_n 1, 1) := by decide +kernel
theorem dX3_fail_2 : decode cX3_fail 2 = .ok (.putfield 43, 3) := by decide +kernel
theorem dX3_fail_5 : decode cX3_fail 5 = .ok (.aload_n 0, 1) := by decide +kernel
theorem dX3_fail_6 : decode cX3_fail 6 = .ok (.aload_n 0, 1) := by decide +kernel
theorem dX3_fail_7 : decode cX3_fail 7 = .ok (.getfield 55, 3) := by decide +kernel
theorem dX3_fail_10 : decode cX3_fail 10 = .ok (.putfield 46, 3) := by decide +kernel
theorem dX3_fail_13 : decode cX3_fail 13 = .ok (.iconst 0, 1) := by decide +kernel
theorem dX3_fail_14 : decode cX3_fail 14 = .ok (.ireturn, 1) := by decide +kernel
theorem dX3_mapNamed_0 : decode cX3_mapNamed 0 = .ok (.iconst 0, 1) := by decide +kernel
theorem dX3_mapNamed_1 : decode cX3_mapNamed 1 = .ok (.istore_n 2, 1) := by decide +kernel
theorem dX3_mapNamed_2 : decode cX3_mapNamed 2 = .ok (.iload_n 2, 1) := by decide +kernel
theorem dX3_mapNamed_3 : decode cX3_mapNamed 3 = .ok (.aload_n 0, 1) := by decide +kernel
theorem dX3_mapNamed_4 : decode cX3_mapNamed 4 = .ok (.getfield 36, 3) := by decide +kernel
theorem dX3_mapNamed_7 : decode cX3_mapNamed 7 = .ok (.if_icmp .ge 23, 3) := by decide +kernel
theorem dX3_mapNamed_10 : decode cX3_mapNamed 10 = .ok (.aload_n 0, 1) := by decide +kernel
theorem dX3_mapNamed_11 : decode cX3_mapNamed 11 = .ok (.getfield 14, 3) := by decide +kernel
theorem dX3_mapNamed_14 : decode cX3_mapNamed 14 = .ok (.iload_n 2, 1) := by decide +kernel
theorem dX3_mapNamed_15 : decode cX3_mapNamed 15 = .ok (.invokevirtual 39, 3) := by decide +kernel
theorem dX3_mapNamed_18 : decode cX3_mapNamed 18 = .ok (.iload_n 1, 1) := by decide +kernel
theorem dX3_mapNamed_19 : decode cX3_mapNamed 19 = .ok (.if_icmp .ne 5, 3) := by decide +kernel
theorem dX3_mapNamed_22 : decode cX3_mapNamed 22 = .ok (.iload_n 2, 1) := by decide +kernel
theorem dX3_mapNamed_23 : decode cX3_mapNamed 23 = .ok (.ireturn, 1) := by decide +kernel
theorem dX3_mapNamed_24 : decode cX3_mapNamed 24 = .ok (.iinc 2 1, 3) := by decide +kernel
theorem dX3_mapNamed_27 : decode cX3_mapNamed 27 = .ok (.goto (-25), 3) := by decide +kernel
theorem dX3_mapNamed_30 : decode cX3_mapNamed 30 = .ok (.iconst (-1), 1) := by decide +kernel
theorem dX3_mapNamed_31 : decode cX3_mapNamed 31 = .ok (.ireturn, 1) := by decide +kernel
theorem dX3_isWord_0 : decode cX3_isWord 0 = .ok (.iconst 0, 1) := by decide +kernel
theorem dX3_isWord_1 : decode cX3_isWord 1 = .ok (.istore_n 2, 1) := by decide +kernel
theorem dX3_isWord_2 : decode cX3_isWord 2 = .ok (.iconst 0, 1) := by decide +kernel
theorem dX3_isWord_3 : decode cX3_isWord 3 = .ok (.istore_n 3, 1) := by decide +kernel
theorem dX3_isWord_4 : decode cX3_isWord 4 = .ok (.iload_n 3, 1) := by decide +kernel
theorem dX3_isWord_5 : decode cX3_isWord 5 = .ok (.aload_n 1, 1) := by decide +kernel
theorem dX3_isWord_6 : decode cX3_isWord 6 = .ok (.invokevirtual 154, 3) := by decide +kernel
theorem dX3_isWord_9 : decode cX3_isWord 9 = .ok (.if_icmp .ge 19, 3) := by decide +kernel
theorem dX3_isWord_12 : decode cX3_isWord 12 = .ok (.iload_n 2, 1) := by decide +kernel
theorem dX3_isWord_13 : decode cX3_isWord 13 = .ok (.aload_n 1, 1) := by decide +kernel
theorem dX3_isWord_14 : decode cX3_isWord 14 = .ok (.iload_n 3, 1) := by decide +kernel
theorem dX3_isWord_15 : decode cX3_isWord 15 = .ok (.invokevirtual 159, 3) := by decide +kernel
theorem dX3_isWord_18 : decode cX3_isWord 18 = .ok (.invokestatic 163, 3) := by decide +kernel
theorem dX3_isWord_21 : decode cX3_isWord 21 = .ok (.istore_n 2, 1) := by decide +kernel
theorem dX3_isWord_22 : decode cX3_isWord 22 = .ok (.iinc 3 1, 3) := by decide +kernel
theorem dX3_isWord_25 : decode cX3_isWord 25 = .ok (.goto (-21), 3) := by decide +kernel
theorem dX3_isWord_28 : decode cX3_isWord 28 = .ok (.aload_n 0, 1) := by decide +kernel
theorem dX3_isWord_29 : decode cX3_isWord 29 = .ok (.getfield 52, 3) := by decide +kernel
theorem dX3_isWord_32 : decode cX3_isWord 32 = .ok (.iconst 1, 1) := by decide +kernel
theorem dX3_isWord_33 : decode cX3_isWord 33 = .ok (.if_icmp .ne 15, 3) := by decide +kernel
theorem dX3_isWord_36 : decode cX3_isWord 36 = .ok (.aload_n 0, 1) := by decide +kernel
theorem dX3_isWord_37 : decode cX3_isWord 37 = .ok (.getfield 61, 3) := by decide +kernel
theorem dX3_isWord_40 : decode cX3_isWord 40 = .ok (.iload_n 2, 1) := by decide +kernel
theorem dX3_isWord_41 : decode cX3_isWord 41 = .ok (.if_icmp .ne 7, 3) := by decide +kernel
theorem dX3_isWord_44 : decode cX3_isWord 44 = .ok (.iconst 1, 1) := by decide +kernel
theorem dX3_isWord_45 : decode cX3_isWord 45 = .ok (.goto 4, 3) := by decide +kernel
theorem dX3_isWord_48 : decode cX3_isWord 48 = .ok (.iconst 0, 1) := by decide +kernel
theorem dX3_isWord_49 : decode cX3_isWord 49 = .ok (.ireturn, 1) := by decide +kernel
theorem dX3_withLetter_0 : decode cX3_withLetter 0 = .ok (.iload_n 0, 1) := by decide +kernel
theorem dX3_withLetter_1 : decode cX3_withLetter 1 = .ok (.iconst 5, 1) := by decide +kernel
theorem dX3_withLetter_2 : decode cX3_withLetter 2 = .ok (.ishl, 1) := by decide +kernel
theorem dX3_withLetter_3 : decode cX3_withLetter 3 = .ok (.iload_n 1, 1) := by decide +kernel
theorem dX3_withLetter_4 : decode cX3_withLetter 4 = .ok (.bipush 97, 2) := by decide +kernel
theorem dX3_withLetter_6 : decode cX3_withLetter 6 = .ok (.isub, 1) := by decide +kernel
theorem dX3_withLetter_7 : decode cX3_withLetter 7 = .ok (.iconst 1, 1) := by decide +kernel
theorem dX3_withLetter_8 : decode cX3_withLetter 8 = .ok (.iadd, 1) := by decide +kernel
theorem dX3_withLetter_9 : decode cX3_withLetter 9 = .ok (.ior, 1) := by decide +kernel
theorem dX3_withLetter_10 : decode cX3_withLetter 10 = .ok (.ireturn, 1) := by decide +kernel
theorem dX3_begin_0 : decode cX3_begin 0 = .ok (.aload_n 0, 1) := by decide +kernel
theorem dX3_begin_1 : decode cX3_begin 1 = .ok (.iload_n 1, 1) := by decide +kernel
theorem dX3_begin_2 : decode cX3_begin 2 = .ok (.putfield 145, 3) := by decide +kernel
theorem dX3_begin_5 : decode cX3_begin 5 = .ok (.aload_n 0, 1) := by decide +kernel
theorem dX3_begin_6 : decode cX3_begin 6 = .ok (.iconst 0, 1) := by decide +kernel
theorem dX3_begin_7 : decode cX3_begin 7 = .ok (.putfield 58, 3) := by decide +kernel
theorem dX3_begin_10 : decode cX3_begin 10 = .ok (.aload_n 0, 1) := by decide +kernel
theorem dX3_begin_11 : decode cX3_begin 11 = .ok (.invokevirtual 77, 3) := by decide +kernel
theorem dX3_begin_14 : decode cX3_begin 14 = .ok (.return_, 1) := by decide +kernel
theorem dX3_advance_0 : decode cX3_advance 0 = .ok (.aload_n 0, 1) := by decide +kernel
theorem dX3_advance_1 : decode cX3_advance 1 = .ok (.getfield 58, 3) := by decide +kernel
theorem dX3_advance_4 : decode cX3_advance 4 = .ok (.aload_n 0, 1) := by decide +kernel
theorem dX3_advance_5 : decode cX3_advance 5 = .ok (.getfield 145, 3) := by decide +kernel
theorem dX3_advance_8 : decode cX3_advance 8 = .ok (.if_icmp .ge 32, 3) := by decide +kernel
theorem dX3_advance_11 : decode cX3_advance 11 = .ok (.aload_n 0, 1) := by decide +kernel
theorem dX3_advance_12 : decode cX3_advance 12 = .ok (.getfield 20, 3) := by decide +kernel
theorem dX3_advance_15 : decode cX3_advance 15 = .ok (.aload_n 0, 1) := by decide +kernel
theorem dX3_advance_16 : decode cX3_advance 16 = .ok (.getfield 58, 3) := by decide +kernel
theorem dX3_advance_19 : decode cX3_advance 19 = .ok (.invokevirtual 166, 3) := by decide +kernel
theorem dX3_advance_22 : decode cX3_advance 22 = .ok (.bipush 32, 2) := by decide +kernel
theorem dX3_advance_24 : decode cX3_advance 24 = .ok (.if_icmp .ne 16, 3) := by decide +kernel
theorem dX3_advance_27 : decode cX3_advance 27 = .ok (.aload_n 0, 1) := by decide +kernel
theorem dX3_advance_28 : decode cX3_advance 28 = .ok (.dup, 1) := by decide +kernel
theorem dX3_advance_29 : decode cX3_advance 29 = .ok (.getfield 58, 3) := by decide +kernel
theorem dX3_advance_32 : decode cX3_advance 32 = .ok (.iconst 1, 1) := by decide +kernel
theorem dX3_advance_33 : decode cX3_advance 33 = .ok (.iadd, 1) := by decide +kernel
theorem dX3_advance_34 : decode cX3_advance 34 = .ok (.putfield 58, 3) := by decide +kernel
theorem dX3_advance_37 : decode cX3_advance 37 = .ok (.goto (-37), 3) := by decide +kernel
theorem dX3_advance_40 : decode cX3_advance 40 = .ok (.aload_n 0, 1) := by decide +kernel
theorem dX3_advance_41 : decode cX3_advance 41 = .ok (.aload_n 0, 1) := by decide +kernel
theorem dX3_advance_42 : decode cX3_advance 42 = .ok (.getfield 58, 3) := by decide +kernel
theorem dX3_advance_45 : decode cX3_advance 45 = .ok (.putfield 55, 3) := by decide +kernel
theorem dX3_advance_48 : decode cX3_advance 48 = .ok (.aload_n 0, 1) := by decide +kernel
theorem dX3_advance_49 : decode cX3_advance 49 = .ok (.iconst 0, 1) := by decide +kernel
theorem dX3_advance_50 : decode cX3_advance 50 = .ok (.putfield 61, 3) := by decide +kernel
theorem dX3_advance_53 : decode cX3_advance 53 = .ok (.aload_n 0, 1) := by decide +kernel
theorem dX3_advance_54 : decode cX3_advance 54 = .ok (.getfield 20, 3) := by decide +kernel
theorem dX3_advance_57 : decode cX3_advance 57 = .ok (.aload_n 0, 1) := by decide +kernel
theorem dX3_advance_58 : decode cX3_advance 58 = .ok (.getfield 58, 3) := by decide +kernel
theorem dX3_advance_61 : decode cX3_advance 61 = .ok (.invokevirtual 166, 3) := by decide +kernel
theorem dX3_advance_64 : decode cX3_advance 64 = .ok (.istore_n 1, 1) := by decide +kernel
theorem dX3_advance_65 : decode cX3_advance 65 = .ok (.aload_n 0, 1) := by decide +kernel
theorem dX3_advance_66 : decode cX3_advance 66 = .ok (.getfield 58, 3) := by decide +kernel
theorem dX3_advance_69 : decode cX3_advance 69 = .ok (.aload_n 0, 1) := by decide +kernel
theorem dX3_advance_70 : decode cX3_advance 70 = .ok (.getfield 145, 3) := by decide +kernel
theorem dX3_advance_73 : decode cX3_advance 73 = .ok (.if_icmp .lt 11, 3) := by decide +kernel
theorem dX3_advance_76 : decode cX3_advance 76 = .ok (.aload_n 0, 1) := by decide +kernel
theorem dX3_advance_77 : decode cX3_advance 77 = .ok (.iconst 0, 1) := by decide +kernel
theorem dX3_advance_78 : decode cX3_advance 78 = .ok (.putfield 52, 3) := by decide +kernel
theorem dX3_advance_81 : decode cX3_advance 81 = .ok (.goto 223, 3) := by decide +kernel
theorem dX3_advance_84 : decode cX3_advance 84 = .ok (.iload_n 1, 1) := by decide +kernel
theorem dX3_advance_85 : decode cX3_advance 85 = .ok (.invokestatic 169, 3) := by decide +kernel
theorem dX3_advance_88 : decode cX3_advance 88 = .ok (.ifCond .eq 92, 3) := by decide +kernel
theorem dX3_advance_91 : decode cX3_advance 91 = .ok (.aload_n 0, 1) := by decide +kernel
theorem dX3_advance_92 : decode cX3_advance 92 = .ok (.getfield 58, 3) := by decide +kernel
theorem dX3_advance_95 : decode cX3_advance 95 = .ok (.aload_n 0, 1) := by decide +kernel
theorem dX3_advance_96 : decode cX3_advance 96 = .ok (.getfield 145, 3) := by decide +kernel
theorem dX3_advance_99 : decode cX3_advance 99 = .ok (.if_icmp .ge 55, 3) := by decide +kernel
theorem dX3_advance_102 : decode cX3_advance 102 = .ok (.aload_n 0, 1) := by decide +kernel
theorem dX3_advance_103 : decode cX3_advance 103 = .ok (.getfield 20, 3) := by decide +kernel
theorem dX3_advance_106 : decode cX3_advance 106 = .ok (.aload_n 0, 1) := by decide +kernel
theorem dX3_advance_107 : decode cX3_advance 107 = .ok (.getfield 58, 3) := by decide +kernel
theorem dX3_advance_110 : decode cX3_advance 110 = .ok (.invokevirtual 166, 3) := by decide +kernel
theorem dX3_advance_113 : decode cX3_advance 113 = .ok (.invokestatic 169, 3) := by decide +kernel
theorem dX3_advance_116 : decode cX3_advance 116 = .ok (.ifCond .eq 38, 3) := by decide +kernel
theorem dX3_advance_119 : decode cX3_advance 119 = .ok (.aload_n 0, 1) := by decide +kernel
theorem dX3_advance_120 : decode cX3_advance 120 = .ok (.aload_n 0, 1) := by decide +kernel
theorem dX3_advance_121 : decode cX3_advance 121 = .ok (.getfield 61, 3) := by decide +kernel
theorem dX3_advance_124 : decode cX3_advance 124 = .ok (.aload_n 0, 1) := by decide +kernel
theorem dX3_advance_125 : decode cX3_advance 125 = .ok (.getfield 20, 3) := by decide +kernel
theorem dX3_advance_128 : decode cX3_advance 128 = .ok (.aload_n 0, 1) := by decide +kernel
theorem dX3_advance_129 : decode cX3_advance 129 = .ok (.getfield 58, 3) := by decide +kernel
theorem dX3_advance_132 : decode cX3_advance 132 = .ok (.invokevirtual 166, 3) := by decide +kernel
theorem dX3_advance_135 : decode cX3_advance 135 = .ok (.invokestatic 163, 3) := by decide +kernel
theorem dX3_advance_138 : decode cX3_advance 138 = .ok (.putfield 61, 3) := by decide +kernel
theorem dX3_advance_141 : decode cX3_advance 141 = .ok (.aload_n 0, 1) := by decide +kernel
theorem dX3_advance_142 : decode cX3_advance 142 = .ok (.dup, 1) := by decide +kernel
theorem dX3_advance_143 : decode cX3_advance 143 = .ok (.getfield 58, 3) := by decide +kernel
theorem dX3_advance_146 : decode cX3_advance 146 = .ok (.iconst 1, 1) := by decide +kernel
theorem dX3_advance_147 : decode cX3_advance 147 = .ok (.iadd, 1) := by decide +kernel
theorem dX3_advance_148 : decode cX3_advance 148 = .ok (.putfield 58, 3) := by decide +kernel
theorem dX3_advance_151 : decode cX3_advance 151 = .ok (.goto (-60), 3) := by decide +kernel
theorem dX3_advance_154 : decode cX3_advance 154 = .ok (.aload_n 0, 1) := by decide +kernel
theorem dX3_advance_155 : decode cX3_advance 155 = .ok (.aload_n 0, 1) := by decide +kernel
theorem dX3_advance_156 : decode cX3_advance 156 = .ok (.getfield 58, 3) := by decide +kernel
theorem dX3_advance_159 : decode cX3_advance 159 = .ok (.aload_n 0, 1) := by decide +kernel
theorem dX3_advance_160 : decode cX3_advance 160 = .ok (.getfield 55, 3) := by decide +kernel
theorem dX3_advance_163 : decode cX3_advance 163 = .ok (.isub, 1) := by decide +kernel
theorem dX3_advance_164 : decode cX3_advance 164 = .ok (.bipush 6, 2) := by decide +kernel
theorem dX3_advance_166 : decode cX3_advance 166 = .ok (.if_icmp .gt 7, 3) := by decide +kernel
theorem dX3_advance_169 : decode cX3_advance 169 = .ok (.iconst 1, 1) := by decide +kernel
theorem dX3_advance_170 : decode cX3_advance 170 = .ok (.goto 4, 3) := by decide +kernel
theorem dX3_advance_173 : decode cX3_advance 173 = .ok (.iconst 4, 1) := by decide +kernel
theorem dX3_advance_174 : decode cX3_advance 174 = .ok (.putfield 52, 3) := by decide +kernel
theorem dX3_advance_177 : decode cX3_advance 177 = .ok (.goto 127, 3) := by decide +kernel
theorem dX3_advance_180 : decode cX3_advance 180 = .ok (.iload_n 1, 1) := by decide +kernel
theorem dX3_advance_181 : decode cX3_advance 181 = .ok (.invokestatic 172, 3) := by decide +kernel
theorem dX3_advance_184 : decode cX3_advance 184 = .ok (.ifCond .eq 95, 3) := by decide +kernel
theorem dX3_advance_187 : decode cX3_advance 187 = .ok (.aload_n 0, 1) := by decide +kernel
theorem dX3_advance_188 : decode cX3_advance 188 = .ok (.getfield 58, 3) := by decide +kernel
theorem dX3_advance_191 : decode cX3_advance 191 = .ok (.aload_n 0, 1) := by decide +kernel
theorem dX3_advance_192 : decode cX3_advance 192 = .ok (.getfield 145, 3) := by decide +kernel
theorem dX3_advance_195 : decode cX3_advance 195 = .ok (.if_icmp .ge 59, 3) := by decide +kernel
theorem dX3_advance_198 : decode cX3_advance 198 = .ok (.aload_n 0, 1) := by decide +kernel
theorem dX3_advance_199 : decode cX3_advance 199 = .ok (.getfield 20, 3) := by decide +kernel
theorem dX3_advance_202 : decode cX3_advance 202 = .ok (.aload_n 0, 1) := by decide +kernel
theorem dX3_advance_203 : decode cX3_advance 203 = .ok (.getfield 58, 3) := by decide +kernel
theorem dX3_advance_206 : decode cX3_advance 206 = .ok (.invokevirtual 166, 3) := by decide +kernel
theorem dX3_advance_209 : decode cX3_advance 209 = .ok (.invokestatic 172, 3) := by decide +kernel
theorem dX3_advance_212 : decode cX3_advance 212 = .ok (.ifCond .eq 42, 3) := by decide +kernel
theorem dX3_advance_215 : decode cX3_advance 215 = .ok (.aload_n 0, 1) := by decide +kernel
theorem dX3_advance_216 : decode cX3_advance 216 = .ok (.bipush 10, 2) := by decide +kernel
theorem dX3_advance_218 : decode cX3_advance 218 = .ok (.aload_n 0, 1) := by decide +kernel
theorem dX3_advance_219 : decode cX3_advance 219 = .ok (.getfield 61, 3) := by decide +kernel
theorem dX3_advance_222 : decode cX3_advance 222 = .ok (.imul, 1) := by decide +kernel
theorem dX3_advance_223 : decode cX3_advance 223 = .ok (.aload_n 0, 1) := by decide +kernel
theorem dX3_advance_224 : decode cX3_advance 224 = .ok (.getfield 20, 3) := by decide +kernel
theorem dX3_advance_227 : decode cX3_advance 227 = .ok (.aload_n 0, 1) := by decide +kernel
theorem dX3_advance_228 : decode cX3_advance 228 = .ok (.getfield 58, 3) := by decide +kernel
theorem dX3_advance_231 : decode cX3_advance 231 = .ok (.invokevirtual 166, 3) := by decide +kernel
theorem dX3_advance_234 : decode cX3_advance 234 = .ok (.iadd, 1) := by decide +kernel
theorem dX3_advance_235 : decode cX3_advance 235 = .ok (.bipush 48, 2) := by decide +kernel
theorem dX3_advance_237 : decode cX3_advance 237 = .ok (.isub, 1) := by decide +kernel
theorem dX3_advance_238 : decode cX3_advance 238 = .ok (.putfield 61, 3) := by decide +kernel
theorem dX3_advance_241 : decode cX3_advance 241 = .ok (.aload_n 0, 1) := by decide +kernel
theorem dX3_advance_242 : decode cX3_advance 242 = .ok (.dup, 1) := by decide +kernel
theorem dX3_advance_243 : decode cX3_advance 243 = .ok (.getfield 58, 3) := by decide +kernel
theorem dX3_advance_246 : decode cX3_advance 246 = .ok (.iconst 1, 1) := by decide +kernel
theorem dX3_advance_247 : decode cX3_advance 247 = .ok (.iadd, 1) := by decide +kernel
theorem dX3_advance_248 : decode cX3_advance 248 = .ok (.putfield 58, 3) := by decide +kernel
theorem dX3_advance_251 : decode cX3_advance 251 = .ok (.goto (-64), 3) := by decide +kernel
theorem dX3_advance_254 : decode cX3_advance 254 = .ok (.aload_n 0, 1) := by decide +kernel
theorem dX3_advance_255 : decode cX3_advance 255 = .ok (.aload_n 0, 1) := by decide +kernel
theorem dX3_advance_256 : decode cX3_advance 256 = .ok (.getfield 58, 3) := by decide +kernel
theorem dX3_advance_259 : decode cX3_advance 259 = .ok (.aload_n 0, 1) := by decide +kernel
theorem dX3_advance_260 : decode cX3_advance 260 = .ok (.getfield 55, 3) := by decide +kernel
theorem dX3_advance_263 : decode cX3_advance 263 = .ok (.isub, 1) := by decide +kernel
theorem dX3_advance_264 : decode cX3_advance 264 = .ok (.iconst 4, 1) := by decide +kernel
theorem dX3_advance_265 : decode cX3_advance 265 = .ok (.if_icmp .gt 7, 3) := by decide +kernel
theorem dX3_advance_268 : decode cX3_advance 268 = .ok (.iconst 2, 1) := by decide +kernel
theorem dX3_advance_269 : decode cX3_advance 269 = .ok (.goto 4, 3) := by decide +kernel
theorem dX3_advance_272 : decode cX3_advance 272 = .ok (.iconst 4, 1) := by decide +kernel
theorem dX3_advance_273 : decode cX3_advance 273 = .ok (.putfield 52, 3) := by decide +kernel
theorem dX3_advance_276 : decode cX3_advance 276 = .ok (.goto 28, 3) := by decide +kernel
theorem dX3_advance_279 : decode cX3_advance 279 = .ok (.aload_n 0, 1) := by decide +kernel
theorem dX3_advance_280 : decode cX3_advance 280 = .ok (.iload_n 1, 1) := by decide +kernel
theorem dX3_advance_281 : decode cX3_advance 281 = .ok (.bipush 59, 2) := by decide +kernel
theorem dX3_advance_283 : decode cX3_advance 283 = .ok (.if_icmp .ne 7, 3) := by decide +kernel
theorem dX3_advance_286 : decode cX3_advance 286 = .ok (.iconst 3, 1) := by decide +kernel
theorem dX3_advance_287 : decode cX3_advance 287 = .ok (.goto 4, 3) := by decide +kernel
theorem dX3_advance_290 : decode cX3_advance 290 = .ok (.iconst 4, 1) := by decide +kernel
theorem dX3_advance_291 : decode cX3_advance 291 = .ok (.putfield 52, 3) := by decide +kernel
theorem dX3_advance_294 : decode cX3_advance 294 = .ok (.aload_n 0, 1) := by decide +kernel
theorem dX3_advance_295 : decode cX3_advance 295 = .ok (.dup, 1) := by decide +kernel
theorem dX3_advance_296 : decode cX3_advance 296 = .ok (.getfield 58, 3) := by decide +kernel
theorem dX3_advance_299 : decode cX3_advance 299 = .ok (.iconst 1, 1) := by decide +kernel
theorem dX3_advance_300 : decode cX3_advance 300 = .ok (.iadd, 1) := by decide +kernel
theorem dX3_advance_301 : decode cX3_advance 301 = .ok (.putfield 58, 3) := by decide +kernel
theorem dX3_advance_304 : decode cX3_advance 304 = .ok (.return_, 1) := by decide +kernel
theorem dX3_isLetter_0 : decode cX3_isLetter 0 = .ok (.iload_n 0, 1) := by decide +kernel
theorem dX3_isLetter_1 : decode cX3_isLetter 1 = .ok (.bipush 97, 2) := by decide +kernel
theorem dX3_isLetter_3 : decode cX3_isLetter 3 = .ok (.if_icmp .lt 13, 3) := by decide +kernel
theorem dX3_isLetter_6 : decode cX3_isLetter 6 = .ok (.iload_n 0, 1) := by decide +kernel
theorem dX3_isLetter_7 : decode cX3_isLetter 7 = .ok (.bipush 122, 2) := by decide +kernel
theorem dX3_isLetter_9 : decode cX3_isLetter 9 = .ok (.if_icmp .gt 7, 3) := by decide +kernel
theorem dX3_isLetter_12 : decode cX3_isLetter 12 = .ok (.iconst 1, 1) := by decide +kernel
theorem dX3_isLetter_13 : decode cX3_isLetter 13 = .ok (.goto 4, 3) := by decide +kernel
theorem dX3_isLetter_16 : decode cX3_isLetter 16 = .ok (.iconst 0, 1) := by decide +kernel
theorem dX3_isLetter_17 : decode cX3_isLetter 17 = .ok (.ireturn, 1) := by decide +kernel
theorem dX3_isDigit_0 : decode cX3_isDigit 0 = .ok (.iload_n 0, 1) := by decide +kernel
theorem dX3_isDigit_1 : decode cX3_isDigit 1 = .ok (.bipush 48, 2) := by decide +kernel
theorem dX3_isDigit_3 : decode cX3_isDigit 3 = .ok (.if_icmp .lt 13, 3) := by decide +kernel
theorem dX3_isDigit_6 : decode cX3_isDigit 6 = .ok (.iload_n 0, 1) := by decide +kernel
theorem dX3_isDigit_7 : decode cX3_isDigit 7 = .ok (.bipush 57, 2) := by decide +kernel
theorem dX3_isDigit_9 : decode cX3_isDigit 9 = .ok (.if_icmp .gt 7, 3) := by decide +kernel
theorem dX3_isDigit_12 : decode cX3_isDigit 12 = .ok (.iconst 1, 1) := by decide +kernel
theorem dX3_isDigit_13 : decode cX3_isDigit 13 = .ok (.goto 4, 3) := by decide +kernel
theorem dX3_isDigit_16 : decode cX3_isDigit 16 = .ok (.iconst 0, 1) := by decide +kernel
theorem dX3_isDigit_17 : decode cX3_isDigit 17 = .ok (.ireturn, 1) := by decide +kernel
theorem dX4_init_0 : decode cX4_init 0 = .ok (.aload_n 0, 1) := by decide +kernel
theorem dX4_init_1 : decode cX4_init 1 = .ok (.invokespecial 3, 3) := by decide +kernel
theorem dX4_init_4 : decode cX4_init 4 = .ok (.aload_n 0, 1) := by decide +kernel
theorem dX4_init_5 : decode cX4_init 5 = .ok (.new 9, 3) := by decide +kernel
theorem dX4_init_8 : decode cX4_init 8 = .ok (.dup, 1) := by decide +kernel
theorem dX4_init_9 : decode cX4_init 9 = .ok (.iconst 5, 1) := by decide +kernel
theorem dX4_init_10 : decode cX4_init 10 = .ok (.invokespecial 11, 3) := by decide +kernel
theorem dX4_init_13 : decode cX4_init 13 = .ok (.putfield 14, 3) := by decide +kernel
theorem dX4_init_16 : decode cX4_init 16 = .ok (.aload_n 0, 1) := by decide +kernel
theorem dX4_init_17 : decode cX4_init 17 = .ok (.new 9, 3) := by decide +kernel
theorem dX4_init_20 : decode cX4_init 20 = .ok (.dup, 1) := by decide +kernel
theorem dX4_init_21 : decode cX4_init 21 = .ok (.iconst 5, 1) := by decide +kernel
theorem dX4_init_22 : decode cX4_init 22 = .ok (.invokespecial 11, 3) := by decide +kernel
theorem dX4_init_25 : decode cX4_init 25 = .ok (.putfield 20, 3) := by decide +kernel
theorem dX4_init_28 : decode cX4_init 28 = .ok (.aload_n 0, 1) := by decide +kernel
theorem dX4_init_29 : decode cX4_init 29 = .ok (.new 9, 3) := by decide +kernel
theorem dX4_init_32 : decode cX4_init 32 = .ok (.dup, 1) := by decide +kernel
theorem dX4_init_33 : decode cX4_init 33 = .ok (.iconst 5, 1) := by decide +kernel
theorem dX4_init_34 : decode cX4_init 34 = .ok (.invokespecial 11, 3) := by decide +kernel
theorem dX4_init_37 : decode cX4_init 37 = .ok (.putfield 23, 3) := by decide +kernel
theorem dX4_init_40 : decode cX4_init 40 = .ok (.aload_n 0, 1) := by decide +kernel
theorem dX4_init_41 : decode cX4_init 41 = .ok (.aload_n 1, 1) := by decide +kernel
theorem dX4_init_42 : decode cX4_init 42 = .ok (.putfield 26, 3) := by decide +kernel
theorem dX4_init_45 : decode cX4_init 45 = .ok (.return_, 1) := by decide +kernel
theorem dX4_begin_0 : decode cX4_begin 0 = .ok (.aload_n 0, 1) := by decide +kernel
theorem dX4_begin_1 : decode cX4_begin 1 = .ok (.iload_n 1, 1) := by decide +kernel
theorem dX4_begin_2 : decode cX4_begin 2 = .ok (.putfield 30, 3) := by decide +kernel
theorem dX4_begin_5 : decode cX4_begin 5 = .ok (.aload_n 0, 1) := by decide +kernel
theorem dX4_begin_6 : decode cX4_begin 6 = .ok (.iload_n 2, 1) := by decide +kernel
theorem dX4_begin_7 : decode cX4_begin 7 = .ok (.putfield 34, 3) := by decide +kernel
theorem dX4_begin_10 : decode cX4_begin 10 = .ok (.aload_n 0, 1) := by decide +kernel
theorem dX4_begin_11 : decode cX4_begin 11 = .ok (.iload_n 2, 1) := by decide +kernel
theorem dX4_begin_12 : decode cX4_begin 12 = .ok (.putfield 37, 3) := by decide +kernel
theorem dX4_begin_15 : decode cX4_begin 15 = .ok (.aload_n 0, 1) := by decide +kernel
theorem dX4_begin_16 : decode cX4_begin 16 = .ok (.getfield 14, 3) := by decide +kernel
theorem dX4_begin_19 : decode cX4_begin 19 = .ok (.aload_n 0, 1) := by decide +kernel
theorem dX4_begin_20 : decode cX4_begin 20 = .ok (.getfield 37, 3) := by decide +kernel
theorem dX4_begin_23 : decode cX4_begin 23 = .ok (.iconst 0, 1) := by decide +kernel
theorem dX4_begin_24 : decode cX4_begin 24 = .ok (.invokevirtual 40, 3) := by decide +kernel
theorem dX4_begin_27 : decode cX4_begin 27 = .ok (.aload_n 0, 1) := by decide +kernel
theorem dX4_begin_28 : decode cX4_begin 28 = .ok (.iconst 0, 1) := by decide +kernel
theorem dX4_begin_29 : decode cX4_begin 29 = .ok (.putfield 44, 3) := by decide +kernel
theorem dX4_begin_32 : decode cX4_begin 32 = .ok (.return_, 1) := by decide +kernel
theorem dX4_isWhole_0 : decode cX4_isWhole 0 = .ok (.aload_n 0, 1) := by decide +kernel
theorem dX4_isWhole_1 : decode cX4_isWhole 1 = .ok (.getfield 44, 3) := by decide +kernel
theorem dX4_isWhole_4 : decode cX4_isWhole 4 = .ok (.ireturn, 1) := by decide +kernel
theorem dX4_take_0 : decode cX4_take 0 = .ok (.aload_n 0, 1) := by decide +kernel
theorem dX4_take_1 : decode cX4_take 1 = .ok (.getfield 44, 3) := by decide +kernel
theorem dX4_take_4 : decode cX4_take 4 = .ok (.ifCond .ne 17, 3) := by decide +kernel
theorem dX4_take_7 : decode cX4_take 7 = .ok (.aload_n 0, 1) := by decide +kernel
theorem dX4_take_8 : decode cX4_take 8 = .ok (.getfield 37, 3) := by decide +kernel
theorem dX4_take_11 : decode cX4_take 11 = .ok (.ifCond .le 12, 3) := by decide +kernel
theorem dX4_take_14 : decode cX4_take 14 = .ok (.iload_n 1, 1) := by decide +kernel
theorem dX4_take_15 : decode cX4_take 15 = .ok (.invokestatic 48, 3) := by decide +kernel
theorem dX4_take_18 : decode cX4_take 18 = .ok (.ifCond .ne 5, 3) := by decide +kernel
theorem dX4_take_21 : decode cX4_take 21 = .ok (.iconst 0, 1) := by decide +kernel
theorem dX4_take_22 : decode cX4_take 22 = .ok (.ireturn, 1) := by decide +kernel
theorem dX4_take_23 : decode cX4_take 23 = .ok (.aload_n 0, 1) := by decide +kernel
theorem dX4_take_24 : decode cX4_take 24 = .ok (.getfield 37, 3) := by decide +kernel
theorem dX4_take_27 : decode cX4_take 27 = .ok (.ifCond .ne 23, 3) := by decide +kernel
theorem dX4_take_30 : decode cX4_take 30 = .ok (.aload_n 0, 1) := by decide +kernel
theorem dX4_take_31 : decode cX4_take 31 = .ok (.getfield 26, 3) := by decide +kernel
theorem dX4_take_34 : decode cX4_take 34 = .ok (.aload_n 0, 1) := by decide +kernel
theorem dX4_take_35 : decode cX4_take 35 = .ok (.getfield 30, 3) := by decide +kernel
theorem dX4_take_38 : decode cX4_take 38 = .ok (.aload_n 0, 1) := by decide +kernel
theorem dX4_take_39 : decode cX4_take 39 = .ok (.getfield 14, 3) := by decide +kernel
theorem dX4_take_42 : decode cX4_take 42 = .ok (.iconst 0, 1) := by decide +kernel
theorem dX4_take_43 : decode cX4_take 43 = .ok (.invokevirtual 52, 3) := by decide +kernel
theorem dX4_take_46 : decode cX4_take 46 = .ok (.iload_n 1, 1) := by decide +kernel
theorem dX4_take_47 : decode cX4_take 47 = .ok (.invokevirtual 56, 3) := by decide +kernel
theorem dX4_take_50 : decode cX4_take 50 = .ok (.aload_n 0, 1) := by decide +kernel
theorem dX4_take_51 : decode cX4_take 51 = .ok (.getfield 20, 3) := by decide +kernel
theorem dX4_take_54 : decode cX4_take 54 = .ok (.aload_n 0, 1) := by decide +kernel
theorem dX4_take_55 : decode cX4_take 55 = .ok (.getfield 37, 3) := by decide +kernel
theorem dX4_take_58 : decode cX4_take 58 = .ok (.iload_n 1, 1) := by decide +kernel
theorem dX4_take_59 : decode cX4_take 59 = .ok (.invokevirtual 40, 3) := by decide +kernel
theorem dX4_take_62 : decode cX4_take 62 = .ok (.aload_n 0, 1) := by decide +kernel
theorem dX4_take_63 : decode cX4_take 63 = .ok (.getfield 23, 3) := by decide +kernel
theorem dX4_take_66 : decode cX4_take 66 = .ok (.aload_n 0, 1) := by decide +kernel
theorem dX4_take_67 : decode cX4_take 67 = .ok (.getfield 37, 3) := by decide +kernel
theorem dX4_take_70 : decode cX4_take 70 = .ok (.aload_n 0, 1) := by decide +kernel
theorem dX4_take_71 : decode cX4_take 71 = .ok (.getfield 37, 3) := by decide +kernel
theorem dX4_take_74 : decode cX4_take 74 = .ok (.ifCond .ne 7, 3) := by decide +kernel
theorem dX4_take_77 : decode cX4_take 77 = .ok (.iconst 4, 1) := by decide +kernel
theorem dX4_take_78 : decode cX4_take 78 = .ok (.goto 4, 3) := by decide +kernel
theorem dX4_take_81 : decode cX4_take 81 = .ok (.iconst 0, 1) := by decide +kernel
theorem dX4_take_82 : decode cX4_take 82 = .ok (.invokevirtual 40, 3) := by decide +kernel
theorem dX4_take_85 : decode cX4_take 85 = .ok (.iconst 0, 1) := by decide +kernel
theorem dX4_take_86 : decode cX4_take 86 = .ok (.istore_n 2, 1) := by decide +kernel
theorem dX4_take_87 : decode cX4_take 87 = .ok (.iload_n 2, 1) := by decide +kernel
theorem dX4_take_88 : decode cX4_take 88 = .ok (.bipush 25, 2) := by decide +kernel
theorem dX4_take_90 : decode cX4_take 90 = .ok (.if_icmp .ge 97, 3) := by decide +kernel
theorem dX4_take_93 : decode cX4_take 93 = .ok (.aload_n 0, 1) := by decide +kernel
theorem dX4_take_94 : decode cX4_take 94 = .ok (.getfield 23, 3) := by decide +kernel
theorem dX4_take_97 : decode cX4_take 97 = .ok (.aload_n 0, 1) := by decide +kernel
theorem dX4_take_98 : decode cX4_take 98 = .ok (.getfield 37, 3) := by decide +kernel
theorem dX4_take_101 : decode cX4_take 101 = .ok (.invokevirtual 52, 3) := by decide +kernel
theorem dX4_take_104 : decode cX4_take 104 = .ok (.iconst 4, 1) := by decide +kernel
theorem dX4_take_105 : decode cX4_take 105 = .ok (.if_icmp .ge 12, 3) := by decide +kernel
theorem dX4_take_108 : decode cX4_take 108 = .ok (.aload_n 0, 1) := by decide +kernel
theorem dX4_take_109 : decode cX4_take 109 = .ok (.invokevirtual 62, 3) := by decide +kernel
theorem dX4_take_112 : decode cX4_take 112 = .ok (.ifCond .eq 69, 3) := by decide +kernel
theorem dX4_take_115 : decode cX4_take 115 = .ok (.iconst 1, 1) := by decide +kernel
theorem dX4_take_116 : decode cX4_take 116 = .ok (.ireturn, 1) := by decide +kernel
theorem dX4_take_117 : decode cX4_take 117 = .ok (.aload_n 0, 1) := by decide +kernel
theorem dX4_take_118 : decode cX4_take 118 = .ok (.getfield 37, 3) := by decide +kernel
theorem dX4_take_121 : decode cX4_take 121 = .ok (.aload_n 0, 1) := by decide +kernel
theorem dX4_take_122 : decode cX4_take 122 = .ok (.getfield 34, 3) := by decide +kernel
theorem dX4_take_125 : decode cX4_take 125 = .ok (.if_icmp .lt 10, 3) := by decide +kernel
theorem dX4_take_128 : decode cX4_take 128 = .ok (.aload_n 0, 1) := by decide +kernel
theorem dX4_take_129 : decode cX4_take 129 = .ok (.iconst 1, 1) := by decide +kernel
theorem dX4_take_130 : decode cX4_take 130 = .ok (.putfield 44, 3) := by decide +kernel
theorem dX4_take_133 : decode cX4_take 133 = .ok (.iconst 1, 1) := by decide +kernel
theorem dX4_take_134 : decode cX4_take 134 = .ok (.ireturn, 1) := by decide +kernel
theorem dX4_take_135 : decode cX4_take 135 = .ok (.aload_n 0, 1) := by decide +kernel
theorem dX4_take_136 : decode cX4_take 136 = .ok (.invokevirtual 66, 3) := by decide +kernel
theorem dX4_take_139 : decode cX4_take 139 = .ok (.ifCond .eq 40, 3) := by decide +kernel
theorem dX4_take_142 : decode cX4_take 142 = .ok (.aload_n 0, 1) := by decide +kernel
theorem dX4_take_143 : decode cX4_take 143 = .ok (.dup, 1) := by decide +kernel
theorem dX4_take_144 : decode cX4_take 144 = .ok (.getfield 37, 3) := by decide +kernel
theorem dX4_take_147 : decode cX4_take 147 = .ok (.iconst 1, 1) := by decide +kernel
theorem dX4_take_148 : decode cX4_take 148 = .ok (.iadd, 1) := by decide +kernel
theorem dX4_take_149 : decode cX4_take 149 = .ok (.putfield 37, 3) := by decide +kernel
theorem dX4_take_152 : decode cX4_take 152 = .ok (.aload_n 0, 1) := by decide +kernel
theorem dX4_take_153 : decode cX4_take 153 = .ok (.getfield 23, 3) := by decide +kernel
theorem dX4_take_156 : decode cX4_take 156 = .ok (.aload_n 0, 1) := by decide +kernel
theorem dX4_take_157 : decode cX4_take 157 = .ok (.getfield 37, 3) := by decide +kernel
theorem dX4_take_160 : decode cX4_take 160 = .ok (.aload_n 0, 1) := by decide +kernel
theorem dX4_take_161 : decode cX4_take 161 = .ok (.getfield 23, 3) := by decide +kernel
theorem dX4_take_164 : decode cX4_take 164 = .ok (.aload_n 0, 1) := by decide +kernel
theorem dX4_take_165 : decode cX4_take 165 = .ok (.getfield 37, 3) := by decide +kernel
theorem dX4_take_168 : decode cX4_take 168 = .ok (.invokevirtual 52, 3) := by decide +kernel
theorem dX4_take_171 : decode cX4_take 171 = .ok (.iconst 1, 1) := by decide +kernel
theorem dX4_take_172 : decode cX4_take 172 = .ok (.iadd, 1) := by decide +kernel
theorem dX4_take_173 : decode cX4_take 173 = .ok (.invokevirtual 40, 3) := by decide +kernel
theorem dX4_take_176 : decode cX4_take 176 = .ok (.goto 5, 3) := by decide +kernel
theorem dX4_take_179 : decode cX4_take 179 = .ok (.iconst 0, 1) := by decide +kernel
theorem dX4_take_180 : decode cX4_take 180 = .ok (.ireturn, 1) := by decide +kernel
theorem dX4_take_181 : decode cX4_take 181 = .ok (.iinc 2 1, 3) := by decide +kernel
theorem dX4_take_184 : decode cX4_take 184 = .ok (.goto (-97), 3) := by decide +kernel
theorem dX4_take_187 : decode cX4_take 187 = .ok (.iconst 0, 1) := by decide +kernel
theorem dX4_take_188 : decode cX4_take 188 = .ok (.ireturn, 1) := by decide +kernel
theorem dX4_isHead_0 : decode cX4_isHead 0 = .ok (.iconst 0, 1) := by decide +kernel
theorem dX4_isHead_1 : decode cX4_isHead 1 = .ok (.istore_n 1, 1) := by decide +kernel
theorem dX4_isHead_2 : decode cX4_isHead 2 = .ok (.iload_n 1, 1) := by decide +kernel
theorem dX4_isHead_3 : decode cX4_isHead 3 = .ok (.iconst 4, 1) := by decide +kernel
theorem dX4_isHead_4 : decode cX4_isHead 4 = .ok (.if_icmp .ge 29, 3) := by decide +kernel
theorem dX4_isHead_7 : decode cX4_isHead 7 = .ok (.iload_n 0, 1) := by decide +kernel
theorem dX4_isHead_8 : decode cX4_isHead 8 = .ok (.iload_n 1, 1) := by decide +kernel
theorem dX4_isHead_9 : decode cX4_isHead 9 = .ok (.invokestatic 69, 3) := by decide +kernel
theorem dX4_isHead_12 : decode cX4_isHead 12 = .ok (.iconst 3, 1) := by decide +kernel
theorem dX4_isHead_13 : decode cX4_isHead 13 = .ok (.if_icmp .ne 14, 3) := by decide +kernel
theorem dX4_isHead_16 : decode cX4_isHead 16 = .ok (.iload_n 0, 1) := by decide +kernel
theorem dX4_isHead_17 : decode cX4_isHead 17 = .ok (.iload_n 1, 1) := by decide +kernel
theorem dX4_isHead_18 : decode cX4_isHead 18 = .ok (.invokestatic 73, 3) := by decide +kernel
theorem dX4_isHead_21 : decode cX4_isHead 21 = .ok (.iconst (-1), 1) := by decide +kernel
theorem dX4_isHead_22 : decode cX4_isHead 22 = .ok (.if_icmp .ne 5, 3) := by decide +kernel
theorem dX4_isHead_25 : decode cX4_isHead 25 = .ok (.iconst 0, 1) := by decide +kernel
theorem dX4_isHead_26 : decode cX4_isHead 26 = .ok (.ireturn, 1) := by decide +kernel
theorem dX4_isHead_27 : decode cX4_isHead 27 = .ok (.iinc 1 1, 3) := by decide +kernel
theorem dX4_isHead_30 : decode cX4_isHead 30 = .ok (.goto (-28), 3) := by decide +kernel
theorem dX4_isHead_33 : decode cX4_isHead 33 = .ok (.iconst 1, 1) := by decide +kernel
theorem dX4_isHead_34 : decode cX4_isHead 34 = .ok (.ireturn, 1) := by decide +kernel
theorem dX4_lastTree_0 : decode cX4_lastTree 0 = .ok (.iconst (-1), 1) := by decide +kernel
theorem dX4_lastTree_1 : decode cX4_lastTree 1 = .ok (.istore_n 2, 1) := by decide +kernel
theorem dX4_lastTree_2 : decode cX4_lastTree 2 = .ok (.iconst 0, 1) := by decide +kernel
theorem dX4_lastTree_3 : decode cX4_lastTree 3 = .ok (.istore_n 3, 1) := by decide +kernel
theorem dX4_lastTree_4 : decode cX4_lastTree 4 = .ok (.iload_n 3, 1) := by decide +kernel
theorem dX4_lastTree_5 : decode cX4_lastTree 5 = .ok (.iload_n 1, 1) := by decide +kernel
theorem dX4_lastTree_6 : decode cX4_lastTree 6 = .ok (.if_icmp .ge 20, 3) := by decide +kernel
theorem dX4_lastTree_9 : decode cX4_lastTree 9 = .ok (.iload_n 0, 1) := by decide +kernel
theorem dX4_lastTree_10 : decode cX4_lastTree 10 = .ok (.iload_n 3, 1) := by decide +kernel
theorem dX4_lastTree_11 : decode cX4_lastTree 11 = .ok (.invokestatic 69, 3) := by decide +kernel
theorem dX4_lastTree_14 : decode cX4_lastTree 14 = .ok (.iconst 2, 1) := by decide +kernel
theorem dX4_lastTree_15 : decode cX4_lastTree 15 = .ok (.if_icmp .ne 5, 3) := by decide +kernel
theorem dX4_lastTree_18 : decode cX4_lastTree 18 = .ok (.iload_n 3, 1) := by decide +kernel
theorem dX4_lastTree_19 : decode cX4_lastTree 19 = .ok (.istore_n 2, 1) := by decide +kernel
theorem dX4_lastTree_20 : decode cX4_lastTree 20 = .ok (.iinc 3 1, 3) := by decide +kernel
theorem dX4_lastTree_23 : decode cX4_lastTree 23 = .ok (.goto (-19), 3) := by decide +kernel
theorem dX4_lastTree_26 : decode cX4_lastTree 26 = .ok (.iload_n 2, 1) := by decide +kernel
theorem dX4_lastTree_27 : decode cX4_lastTree 27 = .ok (.ireturn, 1) := by decide +kernel
theorem dX4_opensQuarter_0 : decode cX4_opensQuarter 0 = .ok (.aload_n 0, 1) := by decide +kernel
theorem dX4_opensQuarter_1 : decode cX4_opensQuarter 1 = .ok (.getfield 20, 3) := by decide +kernel
theorem dX4_opensQuarter_4 : decode cX4_opensQuarter 4 = .ok (.aload_n 0, 1) := by decide +kernel
theorem dX4_opensQuarter_5 : decode cX4_opensQuarter 5 = .ok (.getfield 37, 3) := by decide +kernel
theorem dX4_opensQuarter_8 : decode cX4_opensQuarter 8 = .ok (.invokevirtual 52, 3) := by decide +kernel
theorem dX4_opensQuarter_11 : decode cX4_opensQuarter 11 = .ok (.istore_n 1, 1) := by decide +kernel
theorem dX4_opensQuarter_12 : decode cX4_opensQuarter 12 = .ok (.aload_n 0, 1) := by decide +kernel
theorem dX4_opensQuarter_13 : decode cX4_opensQuarter 13 = .ok (.getfield 23, 3) := by decide +kernel
theorem dX4_opensQuarter_16 : decode cX4_opensQuarter 16 = .ok (.aload_n 0, 1) := by decide +kernel
theorem dX4_opensQuarter_17 : decode cX4_opensQuarter 17 = .ok (.getfield 37, 3) := by decide +kernel
theorem dX4_opensQuarter_20 : decode cX4_opensQuarter 20 = .ok (.invokevirtual 52, 3) := by decide +kernel
theorem dX4_opensQuarter_23 : decode cX4_opensQuarter 23 = .ok (.istore_n 2, 1) := by decide +kernel
theorem dX4_opensQuarter_24 : decode cX4_opensQuarter 24 = .ok (.iload_n 1, 1) := by decide +kernel
theorem dX4_opensQuarter_25 : decode cX4_opensQuarter 25 = .ok (.iload_n 2, 1) := by decide +kernel
theorem dX4_opensQuarter_26 : decode cX4_opensQuarter 26 = .ok (.invokestatic 69, 3) := by decide +kernel
theorem dX4_opensQuarter_29 : decode cX4_opensQuarter 29 = .ok (.istore_n 3, 1) := by decide +kernel
theorem dX4_opensQuarter_30 : decode cX4_opensQuarter 30 = .ok (.iconst 4, 1) := by decide +kernel
theorem dX4_opensQuarter_31 : decode cX4_opensQuarter 31 = .ok (.aload_n 0, 1) := by decide +kernel
theorem dX4_opensQuarter_32 : decode cX4_opensQuarter 32 = .ok (.getfield 14, 3) := by decide +kernel
theorem dX4_opensQuarter_35 : decode cX4_opensQuarter 35 = .ok (.aload_n 0, 1) := by decide +kernel
theorem dX4_opensQuarter_36 : decode cX4_opensQuarter 36 = .ok (.getfield 37, 3) := by decide +kernel
theorem dX4_opensQuarter_39 : decode cX4_opensQuarter 39 = .ok (.invokevirtual 52, 3) := by decide +kernel
theorem dX4_opensQuarter_42 : decode cX4_opensQuarter 42 = .ok (.imul, 1) := by decide +kernel
theorem dX4_opensQuarter_43 : decode cX4_opensQuarter 43 = .ok (.istore 4, 2) := by decide +kernel
theorem dX4_opensQuarter_45 : decode cX4_opensQuarter 45 = .ok (.iload_n 3, 1) := by decide +kernel
theorem dX4_opensQuarter_46 : decode cX4_opensQuarter 46 = .ok (.iconst 2, 1) := by decide +kernel
theorem dX4_opensQuarter_47 : decode cX4_opensQuarter 47 = .ok (.if_icmp .ne 30, 3) := by decide +kernel
theorem dX4_opensQuarter_50 : decode cX4_opensQuarter 50 = .ok (.aload_n 0, 1) := by decide +kernel
theorem dX4_opensQuarter_51 : decode cX4_opensQuarter 51 = .ok (.dup, 1) := by decide +kernel
theorem dX4_opensQuarter_52 : decode cX4_opensQuarter 52 = .ok (.getfield 37, 3) := by decide +kernel
theorem dX4_opensQuarter_55 : decode cX4_opensQuarter 55 = .ok (.iconst 1, 1) := by decide +kernel
theorem dX4_opensQuarter_56 : decode cX4_opensQuarter 56 = .ok (.isub, 1) := by decide +kernel
theorem dX4_opensQuarter_57 : decode cX4_opensQuarter 57 = .ok (.putfield 37, 3) := by decide +kernel
theorem dX4_opensQuarter_60 : decode cX4_opensQuarter 60 = .ok (.aload_n 0, 1) := by decide +kernel
theorem dX4_opensQuarter_61 : decode cX4_opensQuarter 61 = .ok (.getfield 14, 3) := by decide +kernel
theorem dX4_opensQuarter_64 : decode cX4_opensQuarter 64 = .ok (.aload_n 0, 1) := by decide +kernel
theorem dX4_opensQuarter_65 : decode cX4_opensQuarter 65 = .ok (.getfield 37, 3) := by decide +kernel
theorem dX4_opensQuarter_68 : decode cX4_opensQuarter 68 = .ok (.iload 4, 2) := by decide +kernel
theorem dX4_opensQuarter_70 : decode cX4_opensQuarter 70 = .ok (.iload_n 2, 1) := by decide +kernel
theorem dX4_opensQuarter_71 : decode cX4_opensQuarter 71 = .ok (.iadd, 1) := by decide +kernel
theorem dX4_opensQuarter_72 : decode cX4_opensQuarter 72 = .ok (.invokevirtual 40, 3) := by decide +kernel
theorem dX4_opensQuarter_75 : decode cX4_opensQuarter 75 = .ok (.iconst 1, 1) := by decide +kernel
theorem dX4_opensQuarter_76 : decode cX4_opensQuarter 76 = .ok (.ireturn, 1) := by decide +kernel
theorem dX4_opensQuarter_77 : decode cX4_opensQuarter 77 = .ok (.aload_n 0, 1) := by decide +kernel
theorem dX4_opensQuarter_78 : decode cX4_opensQuarter 78 = .ok (.getfield 37, 3) := by decide +kernel
theorem dX4_opensQuarter_81 : decode cX4_opensQuarter 81 = .ok (.iconst 1, 1) := by decide +kernel
theorem dX4_opensQuarter_82 : decode cX4_opensQuarter 82 = .ok (.isub, 1) := by decide +kernel
theorem dX4_opensQuarter_83 : decode cX4_opensQuarter 83 = .ok (.invokestatic 76, 3) := by decide +kernel
theorem dX4_opensQuarter_86 : decode cX4_opensQuarter 86 = .ok (.istore 5, 2) := by decide +kernel
theorem dX4_opensQuarter_88 : decode cX4_opensQuarter 88 = .ok (.iload 4, 2) := by decide +kernel
theorem dX4_opensQuarter_90 : decode cX4_opensQuarter 90 = .ok (.iload_n 2, 1) := by decide +kernel
theorem dX4_opensQuarter_91 : decode cX4_opensQuarter 91 = .ok (.iadd, 1) := by decide +kernel
theorem dX4_opensQuarter_92 : decode cX4_opensQuarter 92 = .ok (.iload 5, 2) := by decide +kernel
theorem dX4_opensQuarter_94 : decode cX4_opensQuarter 94 = .ok (.imul, 1) := by decide +kernel
theorem dX4_opensQuarter_95 : decode cX4_opensQuarter 95 = .ok (.istore 6, 2) := by decide +kernel
theorem dX4_opensQuarter_97 : decode cX4_opensQuarter 97 = .ok (.iload_n 3, 1) := by decide +kernel
theorem dX4_opensQuarter_98 : decode cX4_opensQuarter 98 = .ok (.iconst 3, 1) := by decide +kernel
theorem dX4_opensQuarter_99 : decode cX4_opensQuarter 99 = .ok (.if_icmp .ne 32, 3) := by decide +kernel
theorem dX4_opensQuarter_102 : decode cX4_opensQuarter 102 = .ok (.aload_n 0, 1) := by decide +kernel
theorem dX4_opensQuarter_103 : decode cX4_opensQuarter 103 = .ok (.getfield 26, 3) := by decide +kernel
theorem dX4_opensQuarter_106 : decode cX4_opensQuarter 106 = .ok (.aload_n 0, 1) := by decide +kernel
theorem dX4_opensQuarter_107 : decode cX4_opensQuarter 107 = .ok (.getfield 30, 3) := by decide +kernel
theorem dX4_opensQuarter_110 : decode cX4_opensQuarter 110 = .ok (.iload 4, 2) := by decide +kernel
theorem dX4_opensQuarter_112 : decode cX4_opensQuarter 112 = .ok (.iload_n 1, 1) := by decide +kernel
theorem dX4_opensQuarter_113 : decode cX4_opensQuarter 113 = .ok (.iload_n 2, 1) := by decide +kernel
theorem dX4_opensQuarter_114 : decode cX4_opensQuarter 114 = .ok (.invokestatic 73, 3) := by decide +kernel
theorem dX4_opensQuarter_117 : decode cX4_opensQuarter 117 = .ok (.iadd, 1) := by decide +kernel
theorem dX4_opensQuarter_118 : decode cX4_opensQuarter 118 = .ok (.iload 5, 2) := by decide +kernel
theorem dX4_opensQuarter_120 : decode cX4_opensQuarter 120 = .ok (.imul, 1) := by decide +kernel
theorem dX4_opensQuarter_121 : decode cX4_opensQuarter 121 = .ok (.iload 6, 2) := by decide +kernel
theorem dX4_opensQuarter_123 : decode cX4_opensQuarter 123 = .ok (.iload 5, 2) := by decide +kernel
theorem dX4_opensQuarter_125 : decode cX4_opensQuarter 125 = .ok (.invokevirtual 79, 3) := by decide +kernel
theorem dX4_opensQuarter_128 : decode cX4_opensQuarter 128 = .ok (.goto 30, 3) := by decide +kernel
theorem dX4_opensQuarter_131 : decode cX4_opensQuarter 131 = .ok (.aload_n 0, 1) := by decide +kernel
theorem dX4_opensQuarter_132 : decode cX4_opensQuarter 132 = .ok (.getfield 26, 3) := by decide +kernel
theorem dX4_opensQuarter_135 : decode cX4_opensQuarter 135 = .ok (.aload_n 0, 1) := by decide +kernel
theorem dX4_opensQuarter_136 : decode cX4_opensQuarter 136 = .ok (.getfield 30, 3) := by decide +kernel
theorem dX4_opensQuarter_139 : decode cX4_opensQuarter 139 = .ok (.iload 6, 2) := by decide +kernel
theorem dX4_opensQuarter_141 : decode cX4_opensQuarter 141 = .ok (.iload 5, 2) := by decide +kernel
theorem dX4_opensQuarter_143 : decode cX4_opensQuarter 143 = .ok (.iload_n 3, 1) := by decide +kernel
theorem dX4_opensQuarter_144 : decode cX4_opensQuarter 144 = .ok (.iconst 1, 1) := by decide +kernel
theorem dX4_opensQuarter_145 : decode cX4_opensQuarter 145 = .ok (.if_icmp .ne 9, 3) := by decide +kernel
theorem dX4_opensQuarter_148 : decode cX4_opensQuarter 148 = .ok (.sipush 255, 3) := by decide +kernel
theorem dX4_opensQuarter_151 : decode cX4_opensQuarter 151 = .ok (.goto 4, 3) := by decide +kernel
theorem dX4_opensQuarter_154 : decode cX4_opensQuarter 154 = .ok (.iconst 0, 1) := by decide +kernel
theorem dX4_opensQuarter_155 : decode cX4_opensQuarter 155 = .ok (.invokevirtual 83, 3) := by decide +kernel
theorem dX4_opensQuarter_158 : decode cX4_opensQuarter 158 = .ok (.aload_n 0, 1) := by decide +kernel
theorem dX4_opensQuarter_159 : decode cX4_opensQuarter 159 = .ok (.getfield 23, 3) := by decide +kernel
theorem dX4_opensQuarter_162 : decode cX4_opensQuarter 162 = .ok (.aload_n 0, 1) := by decide +kernel
theorem dX4_opensQuarter_163 : decode cX4_opensQuarter 163 = .ok (.getfield 37, 3) := by decide +kernel
theorem dX4_opensQuarter_166 : decode cX4_opensQuarter 166 = .ok (.iload_n 2, 1) := by decide +kernel
theorem dX4_opensQuarter_167 : decode cX4_opensQuarter 167 = .ok (.iconst 1, 1) := by decide +kernel
theorem dX4_opensQuarter_168 : decode cX4_opensQuarter 168 = .ok (.iadd, 1) := by decide +kernel
theorem dX4_opensQuarter_169 : decode cX4_opensQuarter 169 = .ok (.invokevirtual 40, 3) := by decide +kernel
theorem dX4_opensQuarter_172 : decode cX4_opensQuarter 172 = .ok (.iconst 0, 1) := by decide +kernel
theorem dX4_opensQuarter_173 : decode cX4_opensQuarter 173 = .ok (.ireturn, 1) := by decide +kernel
theorem dX4_mayStand_0 : decode cX4_mayStand 0 = .ok (.aload_n 0, 1) := by decide +kernel
theorem dX4_mayStand_1 : decode cX4_mayStand 1 = .ok (.getfield 37, 3) := by decide +kernel
theorem dX4_mayStand_4 : decode cX4_mayStand 4 = .ok (.invokestatic 76, 3) := by decide +kernel
theorem dX4_mayStand_7 : decode cX4_mayStand 7 = .ok (.istore_n 1, 1) := by decide +kernel
theorem dX4_mayStand_8 : decode cX4_mayStand 8 = .ok (.aload_n 0, 1) := by decide +kernel
theorem dX4_mayStand_9 : decode cX4_mayStand 9 = .ok (.getfield 14, 3) := by decide +kernel
theorem dX4_mayStand_12 : decode cX4_mayStand 12 = .ok (.aload_n 0, 1) := by decide +kernel
theorem dX4_mayStand_13 : decode cX4_mayStand 13 = .ok (.getfield 37, 3) := by decide +kernel
theorem dX4_mayStand_16 : decode cX4_mayStand 16 = .ok (.invokevirtual 52, 3) := by decide +kernel
theorem dX4_mayStand_19 : decode cX4_mayStand 19 = .ok (.iload_n 1, 1) := by decide +kernel
theorem dX4_mayStand_20 : decode cX4_mayStand 20 = .ok (.imul, 1) := by decide +kernel
theorem dX4_mayStand_21 : decode cX4_mayStand 21 = .ok (.istore_n 2, 1) := by decide +kernel
theorem dX4_mayStand_22 : decode cX4_mayStand 22 = .ok (.aload_n 0, 1) := by decide +kernel
theorem dX4_mayStand_23 : decode cX4_mayStand 23 = .ok (.getfield 26, 3) := by decide +kernel
theorem dX4_mayStand_26 : decode cX4_mayStand 26 = .ok (.aload_n 0, 1) := by decide +kernel
theorem dX4_mayStand_27 : decode cX4_mayStand 27 = .ok (.getfield 30, 3) := by decide +kernel
theorem dX4_mayStand_30 : decode cX4_mayStand 30 = .ok (.iload_n 2, 1) := by decide +kernel
theorem dX4_mayStand_31 : decode cX4_mayStand 31 = .ok (.iload_n 1, 1) := by decide +kernel
theorem dX4_mayStand_32 : decode cX4_mayStand 32 = .ok (.iconst 0, 1) := by decide +kernel
theorem dX4_mayStand_33 : decode cX4_mayStand 33 = .ok (.invokevirtual 86, 3) := by decide +kernel
theorem dX4_mayStand_36 : decode cX4_mayStand 36 = .ok (.ifCond .ne 22, 3) := by decide +kernel
theorem dX4_mayStand_39 : decode cX4_mayStand 39 = .ok (.aload_n 0, 1) := by decide +kernel
theorem dX4_mayStand_40 : decode cX4_mayStand 40 = .ok (.getfield 26, 3) := by decide +kernel
theorem dX4_mayStand_43 : decode cX4_mayStand 43 = .ok (.aload_n 0, 1) := by decide +kernel
theorem dX4_mayStand_44 : decode cX4_mayStand 44 = .ok (.getfield 30, 3) := by decide +kernel
theorem dX4_mayStand_47 : decode cX4_mayStand 47 = .ok (.iload_n 2, 1) := by decide +kernel
theorem dX4_mayStand_48 : decode cX4_mayStand 48 = .ok (.iload_n 1, 1) := by decide +kernel
theorem dX4_mayStand_49 : decode cX4_mayStand 49 = .ok (.sipush 255, 3) := by decide +kernel
theorem dX4_mayStand_52 : decode cX4_mayStand 52 = .ok (.invokevirtual 86, 3) := by decide +kernel
theorem dX4_mayStand_55 : decode cX4_mayStand 55 = .ok (.ifCond .eq 5, 3) := by decide +kernel
theorem dX4_mayStand_58 : decode cX4_mayStand 58 = .ok (.iconst 0, 1) := by decide +kernel
theorem dX4_mayStand_59 : decode cX4_mayStand 59 = .ok (.ireturn, 1) := by decide +kernel
theorem dX4_mayStand_60 : decode cX4_mayStand 60 = .ok (.aload_n 0, 1) := by decide +kernel
theorem dX4_mayStand_61 : decode cX4_mayStand 61 = .ok (.getfield 20, 3) := by decide +kernel
theorem dX4_mayStand_64 : decode cX4_mayStand 64 = .ok (.aload_n 0, 1) := by decide +kernel
theorem dX4_mayStand_65 : decode cX4_mayStand 65 = .ok (.getfield 37, 3) := by decide +kernel
theorem dX4_mayStand_68 : decode cX4_mayStand 68 = .ok (.iconst 1, 1) := by decide +kernel
theorem dX4_mayStand_69 : decode cX4_mayStand 69 = .ok (.iadd, 1) := by decide +kernel
theorem dX4_mayStand_70 : decode cX4_mayStand 70 = .ok (.invokevirtual 52, 3) := by decide +kernel
theorem dX4_mayStand_73 : decode cX4_mayStand 73 = .ok (.aload_n 0, 1) := by decide +kernel
theorem dX4_mayStand_74 : decode cX4_mayStand 74 = .ok (.getfield 23, 3) := by decide +kernel
theorem dX4_mayStand_77 : decode cX4_mayStand 77 = .ok (.aload_n 0, 1) := by decide +kernel
theorem dX4_mayStand_78 : decode cX4_mayStand 78 = .ok (.getfield 37, 3) := by decide +kernel
theorem dX4_mayStand_81 : decode cX4_mayStand 81 = .ok (.iconst 1, 1) := by decide +kernel
theorem dX4_mayStand_82 : decode cX4_mayStand 82 = .ok (.iadd, 1) := by decide +kernel
theorem dX4_mayStand_83 : decode cX4_mayStand 83 = .ok (.invokevirtual 52, 3) := by decide +kernel
theorem dX4_mayStand_86 : decode cX4_mayStand 86 = .ok (.invokestatic 73, 3) := by decide +kernel
theorem dX4_mayStand_89 : decode cX4_mayStand 89 = .ok (.istore_n 3, 1) := by decide +kernel
theorem dX4_mayStand_90 : decode cX4_mayStand 90 = .ok (.iconst 4, 1) := by decide +kernel
theorem dX4_mayStand_91 : decode cX4_mayStand 91 = .ok (.aload_n 0, 1) := by decide +kernel
theorem dX4_mayStand_92 : decode cX4_mayStand 92 = .ok (.getfield 14, 3) := by decide +kernel
theorem dX4_mayStand_95 : decode cX4_mayStand 95 = .ok (.aload_n 0, 1) := by decide +kernel
theorem dX4_mayStand_96 : decode cX4_mayStand 96 = .ok (.getfield 37, 3) := by decide +kernel
theorem dX4_mayStand_99 : decode cX4_mayStand 99 = .ok (.iconst 1, 1) := by decide +kernel
theorem dX4_mayStand_100 : decode cX4_mayStand 100 = .ok (.iadd, 1) := by decide +kernel
theorem dX4_mayStand_101 : decode cX4_mayStand 101 = .ok (.invokevirtual 52, 3) := by decide +kernel
theorem dX4_mayStand_104 : decode cX4_mayStand 104 = .ok (.imul, 1) := by decide +kernel
theorem dX4_mayStand_105 : decode cX4_mayStand 105 = .ok (.iload_n 3, 1) := by decide +kernel
theorem dX4_mayStand_106 : decode cX4_mayStand 106 = .ok (.iadd, 1) := by decide +kernel
theorem dX4_mayStand_107 : decode cX4_mayStand 107 = .ok (.iload_n 1, 1) := by decide +kernel
theorem dX4_mayStand_108 : decode cX4_mayStand 108 = .ok (.imul, 1) := by decide +kernel
theorem dX4_mayStand_109 : decode cX4_mayStand 109 = .ok (.istore 4, 2) := by decide +kernel
theorem dX4_mayStand_111 : decode cX4_mayStand 111 = .ok (.iload_n 3, 1) := by decide +kernel
theorem dX4_mayStand_112 : decode cX4_mayStand 112 = .ok (.iconst (-1), 1) := by decide +kernel
theorem dX4_mayStand_113 : decode cX4_mayStand 113 = .ok (.if_icmp .eq 25, 3) := by decide +kernel
theorem dX4_mayStand_116 : decode cX4_mayStand 116 = .ok (.aload_n 0, 1) := by decide +kernel
theorem dX4_mayStand_117 : decode cX4_mayStand 117 = .ok (.getfield 26, 3) := by decide +kernel
theorem dX4_mayStand_120 : decode cX4_mayStand 120 = .ok (.aload_n 0, 1) := by decide +kernel
theorem dX4_mayStand_121 : decode cX4_mayStand 121 = .ok (.getfield 30, 3) := by decide +kernel
theorem dX4_mayStand_124 : decode cX4_mayStand 124 = .ok (.iload 4, 2) := by decide +kernel
theorem dX4_mayStand_126 : decode cX4_mayStand 126 = .ok (.aload_n 0, 1) := by decide +kernel
theorem dX4_mayStand_127 : decode cX4_mayStand 127 = .ok (.getfield 30, 3) := by decide +kernel
theorem dX4_mayStand_130 : decode cX4_mayStand 130 = .ok (.iload_n 2, 1) := by decide +kernel
theorem dX4_mayStand_131 : decode cX4_mayStand 131 = .ok (.iload_n 1, 1) := by decide +kernel
theorem dX4_mayStand_132 : decode cX4_mayStand 132 = .ok (.invokevirtual 90, 3) := by decide +kernel
theorem dX4_mayStand_135 : decode cX4_mayStand 135 = .ok (.ifCond .le 7, 3) := by decide +kernel
theorem dX4_mayStand_138 : decode cX4_mayStand 138 = .ok (.iconst 1, 1) := by decide +kernel
theorem dX4_mayStand_139 : decode cX4_mayStand 139 = .ok (.goto 4, 3) := by decide +kernel
theorem dX4_mayStand_142 : decode cX4_mayStand 142 = .ok (.iconst 0, 1) := by decide +kernel
theorem dX4_mayStand_143 : decode cX4_mayStand 143 = .ok (.ireturn, 1) := by decide +kernel
theorem dX5_init_0 : decode cX5_init 0 = .ok (.aload_n 0, 1) := by decide +kernel
theorem dX5_init_1 : decode cX5_init 1 = .ok (.invokespecial 1, 3) := by decide +kernel
theorem dX5_init_4 : decode cX5_init 4 = .ok (.aload_n 0, 1) := by decide +kernel
theorem dX5_init_5 : decode cX5_init 5 = .ok (.iload_n 1, 1) := by decide +kernel
theorem dX5_init_6 : decode cX5_init 6 = .ok (.ifCond .ge 7, 3) := by decide +kernel
theorem dX5_init_9 : decode cX5_init 9 = .ok (.iconst 0, 1) := by decide +kernel
theorem dX5_init_10 : decode cX5_init 10 = .ok (.goto 4, 3) := by decide +kernel
theorem dX5_init_13 : decode cX5_init 13 = .ok (.iload_n 1, 1) := by decide +kernel
theorem dX5_init_14 : decode cX5_init 14 = .ok (.newarray .int, 2) := by decide +kernel
theorem dX5_init_16 : decode cX5_init 16 = .ok (.putfield 7, 3) := by decide +kernel
theorem dX5_init_19 : decode cX5_init 19 = .ok (.return_, 1) := by decide +kernel
theorem dX5_get_0 : decode cX5_get 0 = .ok (.iload_n 1, 1) := by decide +kernel
theorem dX5_get_1 : decode cX5_get 1 = .ok (.ifCond .lt 21, 3) := by decide +kernel
theorem dX5_get_4 : decode cX5_get 4 = .ok (.iload_n 1, 1) := by decide +kernel
theorem dX5_get_5 : decode cX5_get 5 = .ok (.aload_n 0, 1) := by decide +kernel
theorem dX5_get_6 : decode cX5_get 6 = .ok (.getfield 7, 3) := by decide +kernel
theorem dX5_get_9 : decode cX5_get 9 = .ok (.arraylength, 1) := by decide +kernel
theorem dX5_get_10 : decode cX5_get 10 = .ok (.if_icmp .ge 12, 3) := by decide +kernel
theorem dX5_get_13 : decode cX5_get 13 = .ok (.aload_n 0, 1) := by decide +kernel
theorem dX5_get_14 : decode cX5_get 14 = .ok (.getfield 7, 3) := by decide +kernel
theorem dX5_get_17 : decode cX5_get 17 = .ok (.iload_n 1, 1) := by decide +kernel
theorem dX5_get_18 : decode cX5_get 18 = .ok (.iaload, 1) := by decide +kernel
theorem dX5_get_19 : decode cX5_get 19 = .ok (.goto 4, 3) := by decide +kernel
theorem dX5_get_22 : decode cX5_get 22 = .ok (.iconst 0, 1) := by decide +kernel
theorem dX5_get_23 : decode cX5_get 23 = .ok (.ireturn, 1) := by decide +kernel
theorem dX5_set_0 : decode cX5_set 0 = .ok (.iload_n 1, 1) := by decide +kernel
theorem dX5_set_1 : decode cX5_set 1 = .ok (.ifCond .lt 19, 3) := by decide +kernel
theorem dX5_set_4 : decode cX5_set 4 = .ok (.iload_n 1, 1) := by decide +kernel
theorem dX5_set_5 : decode cX5_set 5 = .ok (.aload_n 0, 1) := by decide +kernel
theorem dX5_set_6 : decode cX5_set 6 = .ok (.getfield 7, 3) := by decide +kernel
theorem dX5_set_9 : decode cX5_set 9 = .ok (.arraylength, 1) := by decide +kernel
theorem dX5_set_10 : decode cX5_set 10 = .ok (.if_icmp .ge 10, 3) := by decide +kernel
theorem dX5_set_13 : decode cX5_set 13 = .ok (.aload_n 0, 1) := by decide +kernel
theorem dX5_set_14 : decode cX5_set 14 = .ok (.getfield 7, 3) := by decide +kernel
theorem dX5_set_17 : decode cX5_set 17 = .ok (.iload_n 1, 1) := by decide +kernel
theorem dX5_set_18 : decode cX5_set 18 = .ok (.iload_n 2, 1) := by decide +kernel
theorem dX5_set_19 : decode cX5_set 19 = .ok (.iastore, 1) := by decide +kernel
theorem dX5_set_20 : decode cX5_set 20 = .ok (.return_, 1) := by decide +kernel
theorem dX5_setAll_0 : decode cX5_setAll 0 = .ok (.iconst 0, 1) := by decide +kernel
theorem dX5_setAll_1 : decode cX5_setAll 1 = .ok (.istore_n 2, 1) := by decide +kernel
theorem dX5_setAll_2 : decode cX5_setAll 2 = .ok (.iload_n 2, 1) := by decide +kernel
theorem dX5_setAll_3 : decode cX5_setAll 3 = .ok (.aload_n 0, 1) := by decide +kernel
theorem dX5_setAll_4 : decode cX5_setAll 4 = .ok (.getfield 7, 3) := by decide +kernel
theorem dX5_setAll_7 : decode cX5_setAll 7 = .ok (.arraylength, 1) := by decide +kernel
theorem dX5_setAll_8 : decode cX5_setAll 8 = .ok (.if_icmp .ge 16, 3) := by decide +kernel
theorem dX5_setAll_11 : decode cX5_setAll 11 = .ok (.aload_n 0, 1) := by decide +kernel
theorem dX5_setAll_12 : decode cX5_setAll 12 = .ok (.getfield 7, 3) := by decide +kernel
theorem dX5_setAll_15 : decode cX5_setAll 15 = .ok (.iload_n 2, 1) := by decide +kernel
theorem dX5_setAll_16 : decode cX5_setAll 16 = .ok (.iload_n 1, 1) := by decide +kernel
theorem dX5_setAll_17 : decode cX5_setAll 17 = .ok (.iastore, 1) := by decide +kernel
theorem dX5_setAll_18 : decode cX5_setAll 18 = .ok (.iinc 2 1, 3) := by decide +kernel
theorem dX5_setAll_21 : decode cX5_setAll 21 = .ok (.goto (-19), 3) := by decide +kernel
theorem dX5_setAll_24 : decode cX5_setAll 24 = .ok (.return_, 1) := by decide +kernel
theorem dX6_init_0 : decode cX6_init 0 = .ok (.aload_n 0, 1) := by decide +kernel
theorem dX6_init_1 : decode cX6_init 1 = .ok (.invokespecial 3, 3) := by decide +kernel
theorem dX6_init_4 : decode cX6_init 4 = .ok (.aload_n 0, 1) := by decide +kernel
theorem dX6_init_5 : decode cX6_init 5 = .ok (.new 9, 3) := by decide +kernel
theorem dX6_init_8 : decode cX6_init 8 = .ok (.dup, 1) := by decide +kernel
theorem dX6_init_9 : decode cX6_init 9 = .ok (.sipush 341, 3) := by decide +kernel
theorem dX6_init_12 : decode cX6_init 12 = .ok (.invokespecial 11, 3) := by decide +kernel
theorem dX6_init_15 : decode cX6_init 15 = .ok (.putfield 14, 3) := by decide +kernel
theorem dX6_init_18 : decode cX6_init 18 = .ok (.aload_n 0, 1) := by decide +kernel
theorem dX6_init_19 : decode cX6_init 19 = .ok (.new 9, 3) := by decide +kernel
theorem dX6_init_22 : decode cX6_init 22 = .ok (.dup, 1) := by decide +kernel
theorem dX6_init_23 : decode cX6_init 23 = .ok (.sipush 341, 3) := by decide +kernel
theorem dX6_init_26 : decode cX6_init 26 = .ok (.invokespecial 11, 3) := by decide +kernel
theorem dX6_init_29 : decode cX6_init 29 = .ok (.putfield 20, 3) := by decide +kernel
theorem dX6_init_32 : decode cX6_init 32 = .ok (.aload_n 0, 1) := by decide +kernel
theorem dX6_init_33 : decode cX6_init 33 = .ok (.new 9, 3) := by decide +kernel
theorem dX6_init_36 : decode cX6_init 36 = .ok (.dup, 1) := by decide +kernel
theorem dX6_init_37 : decode cX6_init 37 = .ok (.sipush 341, 3) := by decide +kernel
theorem dX6_init_40 : decode cX6_init 40 = .ok (.invokespecial 11, 3) := by decide +kernel
theorem dX6_init_43 : decode cX6_init 43 = .ok (.putfield 23, 3) := by decide +kernel
theorem dX6_init_46 : decode cX6_init 46 = .ok (.aload_n 0, 1) := by decide +kernel
theorem dX6_init_47 : decode cX6_init 47 = .ok (.new 9, 3) := by decide +kernel
theorem dX6_init_50 : decode cX6_init 50 = .ok (.dup, 1) := by decide +kernel
theorem dX6_init_51 : decode cX6_init 51 = .ok (.sipush 341, 3) := by decide +kernel
theorem dX6_init_54 : decode cX6_init 54 = .ok (.invokespecial 11, 3) := by decide +kernel
theorem dX6_init_57 : decode cX6_init 57 = .ok (.putfield 26, 3) := by decide +kernel
theorem dX6_init_60 : decode cX6_init 60 = .ok (.aload_n 0, 1) := by decide +kernel
theorem dX6_init_61 : decode cX6_init 61 = .ok (.new 9, 3) := by decide +kernel
theorem dX6_init_64 : decode cX6_init 64 = .ok (.dup, 1) := by decide +kernel
theorem dX6_init_65 : decode cX6_init 65 = .ok (.sipush 341, 3) := by decide +kernel
theorem dX6_init_68 : decode cX6_init 68 = .ok (.invokespecial 11, 3) := by decide +kernel
theorem dX6_init_71 : decode cX6_init 71 = .ok (.putfield 29, 3) := by decide +kernel
theorem dX6_init_74 : decode cX6_init 74 = .ok (.aload_n 0, 1) := by decide +kernel
theorem dX6_init_75 : decode cX6_init 75 = .ok (.new 9, 3) := by decide +kernel
theorem dX6_init_78 : decode cX6_init 78 = .ok (.dup, 1) := by decide +kernel
theorem dX6_init_79 : decode cX6_init 79 = .ok (.sipush 341, 3) := by decide +kernel
theorem dX6_init_82 : decode cX6_init 82 = .ok (.invokespecial 11, 3) := by decide +kernel
theorem dX6_init_85 : decode cX6_init 85 = .ok (.putfield 32, 3) := by decide +kernel
theorem dX6_init_88 : decode cX6_init 88 = .ok (.aload_n 0, 1) := by decide +kernel
theorem dX6_init_89 : decode cX6_init 89 = .ok (.aload_n 1, 1) := by decide +kernel
theorem dX6_init_90 : decode cX6_init 90 = .ok (.putfield 35, 3) := by decide +kernel
theorem dX6_init_93 : decode cX6_init 93 = .ok (.return_, 1) := by decide +kernel
theorem dX6_node_0 : decode cX6_node 0 = .ok (.sipush 1024, 3) := by decide +kernel
theorem dX6_node_3 : decode cX6_node 3 = .ok (.sipush 1024, 3) := by decide +kernel
theorem dX6_node_6 : decode cX6_node 6 = .ok (.iconst 2, 1) := by decide +kernel
theorem dX6_node_7 : decode cX6_node 7 = .ok (.iload_n 0, 1) := by decide +kernel
theorem dX6_node_8 : decode cX6_node 8 = .ok (.imul, 1) := by decide +kernel
theorem dX6_node_9 : decode cX6_node 9 = .ok (.ishr, 1) := by decide +kernel
theorem dX6_node_10 : decode cX6_node 10 = .ok (.isub, 1) := by decide +kernel
theorem dX6_node_11 : decode cX6_node 11 = .ok (.iconst 3, 1) := by decide +kernel
theorem dX6_node_12 : decode cX6_node 12 = .ok (.idiv, 1) := by decide +kernel
theorem dX6_node_13 : decode cX6_node 13 = .ok (.iload_n 1, 1) := by decide +kernel
theorem dX6_node_14 : decode cX6_node 14 = .ok (.iadd, 1) := by decide +kernel
theorem dX6_node_15 : decode cX6_node 15 = .ok (.ireturn, 1) := by decide +kernel
theorem dX6_measure_0 : decode cX6_measure 0 = .ok (.aload_n 0, 1) := by decide +kernel
theorem dX6_measure_1 : decode cX6_measure 1 = .ok (.iload_n 1, 1) := by decide +kernel
theorem dX6_measure_2 : decode cX6_measure 2 = .ok (.putfield 39, 3) := by decide +kernel
theorem dX6_measure_5 : decode cX6_measure 5 = .ok (.aload_n 0, 1) := by decide +kernel
theorem dX6_measure_6 : decode cX6_measure 6 = .ok (.iload_n 2, 1) := by decide +kernel
theorem dX6_measure_7 : decode cX6_measure 7 = .ok (.putfield 43, 3) := by decide +kernel
theorem dX6_measure_10 : decode cX6_measure 10 = .ok (.iconst 0, 1) := by decide +kernel
theorem dX6_measure_11 : decode cX6_measure 11 = .ok (.istore_n 3, 1) := by decide +kernel
theorem dX6_measure_12 : decode cX6_measure 12 = .ok (.iload_n 3, 1) := by decide +kernel
theorem dX6_measure_13 : decode cX6_measure 13 = .ok (.aload_n 0, 1) := by decide +kernel
theorem dX6_measure_14 : decode cX6_measure 14 = .ok (.getfield 43, 3) := by decide +kernel
theorem dX6_measure_17 : decode cX6_measure 17 = .ok (.invokestatic 46, 3) := by decide +kernel
theorem dX6_measure_20 : decode cX6_measure 20 = .ok (.if_icmp .ge 41, 3) := by decide +kernel
theorem dX6_measure_23 : decode cX6_measure 23 = .ok (.aload_n 0, 1) := by decide +kernel
theorem dX6_measure_24 : decode cX6_measure 24 = .ok (.getfield 14, 3) := by decide +kernel
theorem dX6_measure_27 : decode cX6_measure 27 = .ok (.iload_n 3, 1) := by decide +kernel
theorem dX6_measure_28 : decode cX6_measure 28 = .ok (.aload_n 0, 1) := by decide +kernel
theorem dX6_measure_29 : decode cX6_measure 29 = .ok (.getfield 35, 3) := by decide +kernel
theorem dX6_measure_32 : decode cX6_measure 32 = .ok (.aload_n 0, 1) := by decide +kernel
theorem dX6_measure_33 : decode cX6_measure 33 = .ok (.getfield 39, 3) := by decide +kernel
theorem dX6_measure_36 : decode cX6_measure 36 = .ok (.iload_n 3, 1) := by decide +kernel
theorem dX6_measure_37 : decode cX6_measure 37 = .ok (.invokevirtual 50, 3) := by decide +kernel
theorem dX6_measure_40 : decode cX6_measure 40 = .ok (.invokestatic 56, 3) := by decide +kernel
theorem dX6_measure_43 : decode cX6_measure 43 = .ok (.invokevirtual 59, 3) := by decide +kernel
theorem dX6_measure_46 : decode cX6_measure 46 = .ok (.aload_n 0, 1) := by decide +kernel
theorem dX6_measure_47 : decode cX6_measure 47 = .ok (.getfield 23, 3) := by decide +kernel
theorem dX6_measure_50 : decode cX6_measure 50 = .ok (.iload_n 3, 1) := by decide +kernel
theorem dX6_measure_51 : decode cX6_measure 51 = .ok (.iconst 1, 1) := by decide +kernel
theorem dX6_measure_52 : decode cX6_measure 52 = .ok (.invokevirtual 59, 3) := by decide +kernel
theorem dX6_measure_55 : decode cX6_measure 55 = .ok (.iinc 3 1, 3) := by decide +kernel
theorem dX6_measure_58 : decode cX6_measure 58 = .ok (.goto (-46), 3) := by decide +kernel
theorem dX6_measure_61 : decode cX6_measure 61 = .ok (.iconst 1, 1) := by decide +kernel
theorem dX6_measure_62 : decode cX6_measure 62 = .ok (.istore_n 3, 1) := by decide +kernel
theorem dX6_measure_63 : decode cX6_measure 63 = .ok (.iload_n 3, 1) := by decide +kernel
theorem dX6_measure_64 : decode cX6_measure 64 = .ok (.aload_n 0, 1) := by decide +kernel
theorem dX6_measure_65 : decode cX6_measure 65 = .ok (.getfield 43, 3) := by decide +kernel
theorem dX6_measure_68 : decode cX6_measure 68 = .ok (.if_icmp .gt 38, 3) := by decide +kernel
theorem dX6_measure_71 : decode cX6_measure 71 = .ok (.iconst 0, 1) := by decide +kernel
theorem dX6_measure_72 : decode cX6_measure 72 = .ok (.istore 4, 2) := by decide +kernel
theorem dX6_measure_74 : decode cX6_measure 74 = .ok (.iload 4, 2) := by decide +kernel
theorem dX6_measure_76 : decode cX6_measure 76 = .ok (.iload_n 3, 1) := by decide +kernel
theorem dX6_measure_77 : decode cX6_measure 77 = .ok (.aload_n 0, 1) := by decide +kernel
theorem dX6_measure_78 : decode cX6_measure 78 = .ok (.getfield 43, 3) := by decide +kernel
theorem dX6_measure_81 : decode cX6_measure 81 = .ok (.invokestatic 63, 3) := by decide +kernel
theorem dX6_measure_84 : decode cX6_measure 84 = .ok (.if_icmp .ge 16, 3) := by decide +kernel
theorem dX6_measure_87 : decode cX6_measure 87 = .ok (.aload_n 0, 1) := by decide +kernel
theorem dX6_measure_88 : decode cX6_measure 88 = .ok (.iload_n 3, 1) := by decide +kernel
theorem dX6_measure_89 : decode cX6_measure 89 = .ok (.iload 4, 2) := by decide +kernel
theorem dX6_measure_91 : decode cX6_measure 91 = .ok (.invokevirtual 66, 3) := by decide +kernel
theorem dX6_measure_94 : decode cX6_measure 94 = .ok (.iinc 4 1, 3) := by decide +kernel
theorem dX6_measure_97 : decode cX6_measure 97 = .ok (.goto (-23), 3) := by decide +kernel
theorem dX6_measure_100 : decode cX6_measure 100 = .ok (.iinc 3 1, 3) := by decide +kernel
theorem dX6_measure_103 : decode cX6_measure 103 = .ok (.goto (-40), 3) := by decide +kernel
theorem dX6_measure_106 : decode cX6_measure 106 = .ok (.aload_n 0, 1) := by decide +kernel
theorem dX6_measure_107 : decode cX6_measure 107 = .ok (.invokevirtual 69, 3) := by decide +kernel
theorem dX6_measure_110 : decode cX6_measure 110 = .ok (.return_, 1) := by decide +kernel
theorem dX6_kindOfCell_0 : decode cX6_kindOfCell 0 = .ok (.iload_n 0, 1) := by decide +kernel
theorem dX6_kindOfCell_1 : decode cX6_kindOfCell 1 = .ok (.ifCond .ne 5, 3) := by decide +kernel
theorem dX6_kindOfCell_4 : decode cX6_kindOfCell 4 = .ok (.iconst 0, 1) := by decide +kernel
theorem dX6_kindOfCell_5 : decode cX6_kindOfCell 5 = .ok (.ireturn, 1) := by decide +kernel
theorem dX6_kindOfCell_6 : decode cX6_kindOfCell 6 = .ok (.iload_n 0, 1) := by decide +kernel
theorem dX6_kindOfCell_7 : decode cX6_kindOfCell 7 = .ok (.sipush 255, 3) := by decide +kernel
theorem dX6_kindOfCell_10 : decode cX6_kindOfCell 10 = .ok (.if_icmp .ne 7, 3) := by decide +kernel
theorem dX6_kindOfCell_13 : decode cX6_kindOfCell 13 = .ok (.iconst 1, 1) := by decide +kernel
theorem dX6_kindOfCell_14 : decode cX6_kindOfCell 14 = .ok (.goto 6, 3) := by decide +kernel
theorem dX6_kindOfCell_17 : decode cX6_kindOfCell 17 = .ok (.iload_n 0, 1) := by decide +kernel
theorem dX6_kindOfCell_18 : decode cX6_kindOfCell 18 = .ok (.iconst 1, 1) := by decide +kernel
theorem dX6_kindOfCell_19 : decode cX6_kindOfCell 19 = .ok (.iadd, 1) := by decide +kernel
theorem dX6_kindOfCell_20 : decode cX6_kindOfCell 20 = .ok (.ireturn, 1) := by decide +kernel
theorem dX6_measureBlock_0 : decode cX6_measureBlock 0 = .ok (.iconst (-1), 1) := by decide +kernel
theorem dX6_measureBlock_1 : decode cX6_measureBlock 1 = .ok (.istore_n 3, 1) := by decide +kernel
theorem dX6_measureBlock_2 : decode cX6_measureBlock 2 = .ok (.iconst 1, 1) := by decide +kernel
theorem dX6_measureBlock_3 : decode cX6_measureBlock 3 = .ok (.istore 4, 2) := by decide +kernel
theorem dX6_measureBlock_5 : decode cX6_measureBlock 5 = .ok (.iconst 0, 1) := by decide +kernel
theorem dX6_measureBlock_6 : decode cX6_measureBlock 6 = .ok (.istore 5, 2) := by decide +kernel
theorem dX6_measureBlock_8 : decode cX6_measureBlock 8 = .ok (.iconst 0, 1) := by decide +kernel
theorem dX6_measureBlock_9 : decode cX6_measureBlock 9 = .ok (.istore 6, 2) := by decide +kernel
theorem dX6_measureBlock_11 : decode cX6_measureBlock 11 = .ok (.iload 6, 2) := by decide +kernel
theorem dX6_measureBlock_13 : decode cX6_measureBlock 13 = .ok (.iconst 4, 1) := by decide +kernel
theorem dX6_measureBlock_14 : decode cX6_measureBlock 14 = .ok (.if_icmp .ge 89, 3) := by decide +kernel
theorem dX6_measureBlock_17 : decode cX6_measureBlock 17 = .ok (.iload_n 1, 1) := by decide +kernel
theorem dX6_measureBlock_18 : decode cX6_measureBlock 18 = .ok (.iconst 1, 1) := by decide +kernel
theorem dX6_measureBlock_19 : decode cX6_measureBlock 19 = .ok (.isub, 1) := by decide +kernel
theorem dX6_measureBlock_20 : decode cX6_measureBlock 20 = .ok (.iconst 4, 1) := by decide +kernel
theorem dX6_measureBlock_21 : decode cX6_measureBlock 21 = .ok (.iload_n 2, 1) := by decide +kernel
theorem dX6_measureBlock_22 : decode cX6_measureBlock 22 = .ok (.imul, 1) := by decide +kernel
theorem dX6_measureBlock_23 : decode cX6_measureBlock 23 = .ok (.iload 6, 2) := by decide +kernel
theorem dX6_measureBlock_25 : decode cX6_measureBlock 25 = .ok (.iadd, 1) := by decide +kernel
theorem dX6_measureBlock_26 : decode cX6_measureBlock 26 = .ok (.invokestatic 72, 3) := by decide +kernel
theorem dX6_measureBlock_29 : decode cX6_measureBlock 29 = .ok (.istore 7, 2) := by decide +kernel
theorem dX6_measureBlock_31 : decode cX6_measureBlock 31 = .ok (.aload_n 0, 1) := by decide +kernel
theorem dX6_measureBlock_32 : decode cX6_measureBlock 32 = .ok (.getfield 14, 3) := by decide +kernel
theorem dX6_measureBlock_35 : decode cX6_measureBlock 35 = .ok (.iload 7, 2) := by decide +kernel
theorem dX6_measureBlock_37 : decode cX6_measureBlock 37 = .ok (.invokevirtual 75, 3) := by decide +kernel
theorem dX6_measureBlock_40 : decode cX6_measureBlock 40 = .ok (.istore 8, 2) := by decide +kernel
theorem dX6_measureBlock_42 : decode cX6_measureBlock 42 = .ok (.iload 8, 2) := by decide +kernel
theorem dX6_measureBlock_44 : decode cX6_measureBlock 44 = .ok (.iload_n 3, 1) := by decide +kernel
theorem dX6_measureBlock_45 : decode cX6_measureBlock 45 = .ok (.invokestatic 78, 3) := by decide +kernel
theorem dX6_measureBlock_48 : decode cX6_measureBlock 48 = .ok (.istore 9, 2) := by decide +kernel
theorem dX6_measureBlock_50 : decode cX6_measureBlock 50 = .ok (.aload_n 0, 1) := by decide +kernel
theorem dX6_measureBlock_51 : decode cX6_measureBlock 51 = .ok (.getfield 26, 3) := by decide +kernel
theorem dX6_measureBlock_54 : decode cX6_measureBlock 54 = .ok (.iload 7, 2) := by decide +kernel
theorem dX6_measureBlock_56 : decode cX6_measureBlock 56 = .ok (.iload 9, 2) := by decide +kernel
theorem dX6_measureBlock_58 : decode cX6_measureBlock 58 = .ok (.invokevirtual 59, 3) := by decide +kernel
theorem dX6_measureBlock_61 : decode cX6_measureBlock 61 = .ok (.iload 5, 2) := by decide +kernel
theorem dX6_measureBlock_63 : decode cX6_measureBlock 63 = .ok (.iload 8, 2) := by decide +kernel
theorem dX6_measureBlock_65 : decode cX6_measureBlock 65 = .ok (.bipush 8, 2) := by decide +kernel
theorem dX6_measureBlock_67 : decode cX6_measureBlock 67 = .ok (.iload 6, 2) := by decide +kernel
theorem dX6_measureBlock_69 : decode cX6_measureBlock 69 = .ok (.imul, 1) := by decide +kernel
theorem dX6_measureBlock_70 : decode cX6_measureBlock 70 = .ok (.ishl, 1) := by decide +kernel
theorem dX6_measureBlock_71 : decode cX6_measureBlock 71 = .ok (.ior, 1) := by decide +kernel
theorem dX6_measureBlock_72 : decode cX6_measureBlock 72 = .ok (.istore 5, 2) := by decide +kernel
theorem dX6_measureBlock_74 : decode cX6_measureBlock 74 = .ok (.iload 9, 2) := by decide +kernel
theorem dX6_measureBlock_76 : decode cX6_measureBlock 76 = .ok (.iconst 2, 1) := by decide +kernel
theorem dX6_measureBlock_77 : decode cX6_measureBlock 77 = .ok (.if_icmp .ne 20, 3) := by decide +kernel
theorem dX6_measureBlock_80 : decode cX6_measureBlock 80 = .ok (.iload 8, 2) := by decide +kernel
theorem dX6_measureBlock_82 : decode cX6_measureBlock 82 = .ok (.istore_n 3, 1) := by decide +kernel
theorem dX6_measureBlock_83 : decode cX6_measureBlock 83 = .ok (.iload 4, 2) := by decide +kernel
theorem dX6_measureBlock_85 : decode cX6_measureBlock 85 = .ok (.aload_n 0, 1) := by decide +kernel
theorem dX6_measureBlock_86 : decode cX6_measureBlock 86 = .ok (.getfield 23, 3) := by decide +kernel
theorem dX6_measureBlock_89 : decode cX6_measureBlock 89 = .ok (.iload 7, 2) := by decide +kernel
theorem dX6_measureBlock_91 : decode cX6_measureBlock 91 = .ok (.invokevirtual 75, 3) := by decide +kernel
theorem dX6_measureBlock_94 : decode cX6_measureBlock 94 = .ok (.iadd, 1) := by decide +kernel
theorem dX6_measureBlock_95 : decode cX6_measureBlock 95 = .ok (.istore 4, 2) := by decide +kernel
theorem dX6_measureBlock_97 : decode cX6_measureBlock 97 = .ok (.iinc 6 1, 3) := by decide +kernel
theorem dX6_measureBlock_100 : decode cX6_measureBlock 100 = .ok (.goto (-89), 3) := by decide +kernel
theorem dX6_measureBlock_103 : decode cX6_measureBlock 103 = .ok (.aload_n 0, 1) := by decide +kernel
theorem dX6_measureBlock_104 : decode cX6_measureBlock 104 = .ok (.getfield 23, 3) := by decide +kernel
theorem dX6_measureBlock_107 : decode cX6_measureBlock 107 = .ok (.iload_n 1, 1) := by decide +kernel
theorem dX6_measureBlock_108 : decode cX6_measureBlock 108 = .ok (.iload_n 2, 1) := by decide +kernel
theorem dX6_measureBlock_109 : decode cX6_measureBlock 109 = .ok (.invokestatic 72, 3) := by decide +kernel
theorem dX6_measureBlock_112 : decode cX6_measureBlock 112 = .ok (.iload 4, 2) := by decide +kernel
theorem dX6_measureBlock_114 : decode cX6_measureBlock 114 = .ok (.invokevirtual 59, 3) := by decide +kernel
theorem dX6_measureBlock_117 : decode cX6_measureBlock 117 = .ok (.aload_n 0, 1) := by decide +kernel
theorem dX6_measureBlock_118 : decode cX6_measureBlock 118 = .ok (.getfield 20, 3) := by decide +kernel
theorem dX6_measureBlock_121 : decode cX6_measureBlock 121 = .ok (.iload_n 1, 1) := by decide +kernel
theorem dX6_measureBlock_122 : decode cX6_measureBlock 122 = .ok (.iload_n 2, 1) := by decide +kernel
theorem dX6_measureBlock_123 : decode cX6_measureBlock 123 = .ok (.invokestatic 72, 3) := by decide +kernel
theorem dX6_measureBlock_126 : decode cX6_measureBlock 126 = .ok (.iload 5, 2) := by decide +kernel
theorem dX6_measureBlock_128 : decode cX6_measureBlock 128 = .ok (.invokevirtual 59, 3) := by decide +kernel
theorem dX6_measureBlock_131 : decode cX6_measureBlock 131 = .ok (.aload_n 0, 1) := by decide +kernel
theorem dX6_measureBlock_132 : decode cX6_measureBlock 132 = .ok (.getfield 14, 3) := by decide +kernel
theorem dX6_measureBlock_135 : decode cX6_measureBlock 135 = .ok (.iload_n 1, 1) := by decide +kernel
theorem dX6_measureBlock_136 : decode cX6_measureBlock 136 = .ok (.iload_n 2, 1) := by decide +kernel
theorem dX6_measureBlock_137 : decode cX6_measureBlock 137 = .ok (.invokestatic 72, 3) := by decide +kernel
theorem dX6_measureBlock_140 : decode cX6_measureBlock 140 = .ok (.aload_n 0, 1) := by decide +kernel
theorem dX6_measureBlock_141 : decode cX6_measureBlock 141 = .ok (.iload_n 1, 1) := by decide +kernel
theorem dX6_measureBlock_142 : decode cX6_measureBlock 142 = .ok (.iload 5, 2) := by decide +kernel
theorem dX6_measureBlock_144 : decode cX6_measureBlock 144 = .ok (.invokevirtual 81, 3) := by decide +kernel
theorem dX6_measureBlock_147 : decode cX6_measureBlock 147 = .ok (.invokevirtual 59, 3) := by decide +kernel
theorem dX6_measureBlock_150 : decode cX6_measureBlock 150 = .ok (.return_, 1) := by decide +kernel
theorem dX6_codeOfKind_0 : decode cX6_codeOfKind 0 = .ok (.iload_n 0, 1) := by decide +kernel
theorem dX6_codeOfKind_1 : decode cX6_codeOfKind 1 = .ok (.ifCond .eq 8, 3) := by decide +kernel
theorem dX6_codeOfKind_4 : decode cX6_codeOfKind 4 = .ok (.iload_n 0, 1) := by decide +kernel
theorem dX6_codeOfKind_5 : decode cX6_codeOfKind 5 = .ok (.iconst 1, 1) := by decide +kernel
theorem dX6_codeOfKind_6 : decode cX6_codeOfKind 6 = .ok (.if_icmp .ne 5, 3) := by decide +kernel
theorem dX6_codeOfKind_9 : decode cX6_codeOfKind 9 = .ok (.iload_n 0, 1) := by decide +kernel
theorem dX6_codeOfKind_10 : decode cX6_codeOfKind 10 = .ok (.ireturn, 1) := by decide +kernel
theorem dX6_codeOfKind_11 : decode cX6_codeOfKind 11 = .ok (.iload_n 0, 1) := by decide +kernel
theorem dX6_codeOfKind_12 : decode cX6_codeOfKind 12 = .ok (.iload_n 1, 1) := by decide +kernel
theorem dX6_codeOfKind_13 : decode cX6_codeOfKind 13 = .ok (.if_icmp .ne 7, 3) := by decide +kernel
theorem dX6_codeOfKind_16 : decode cX6_codeOfKind 16 = .ok (.iconst 3, 1) := by decide +kernel
theorem dX6_codeOfKind_17 : decode cX6_codeOfKind 17 = .ok (.goto 4, 3) := by decide +kernel
theorem dX6_codeOfKind_20 : decode cX6_codeOfKind 20 = .ok (.iconst 2, 1) := by decide +kernel
theorem dX6_codeOfKind_21 : decode cX6_codeOfKind 21 = .ok (.ireturn, 1) := by decide +kernel
theorem dX6_kindOfKey_0 : decode cX6_kindOfKey 0 = .ok (.iload_n 2, 1) := by decide +kernel
theorem dX6_kindOfKey_1 : decode cX6_kindOfKey 1 = .ok (.ifCond .ne 5, 3) := by decide +kernel
theorem dX6_kindOfKey_4 : decode cX6_kindOfKey 4 = .ok (.iconst 0, 1) := by decide +kernel
theorem dX6_kindOfKey_5 : decode cX6_kindOfKey 5 = .ok (.ireturn, 1) := by decide +kernel
theorem dX6_kindOfKey_6 : decode cX6_kindOfKey 6 = .ok (.iload_n 2, 1) := by decide +kernel
theorem dX6_kindOfKey_7 : decode cX6_kindOfKey 7 = .ok (.ldc 84, 2) := by decide +kernel
theorem dX6_kindOfKey_9 : decode cX6_kindOfKey 9 = .ok (.if_icmp .ne 5, 3) := by decide +kernel
theorem dX6_kindOfKey_12 : decode cX6_kindOfKey 12 = .ok (.iconst 1, 1) := by decide +kernel
theorem dX6_kindOfKey_13 : decode cX6_kindOfKey 13 = .ok (.ireturn, 1) := by decide +kernel
theorem dX6_kindOfKey_14 : decode cX6_kindOfKey 14 = .ok (.iload_n 1, 1) := by decide +kernel
theorem dX6_kindOfKey_15 : decode cX6_kindOfKey 15 = .ok (.iconst 0, 1) := by decide +kernel
theorem dX6_kindOfKey_16 : decode cX6_kindOfKey 16 = .ok (.invokestatic 72, 3) := by decide +kernel
theorem dX6_kindOfKey_19 : decode cX6_kindOfKey 19 = .ok (.istore_n 3, 1) := by decide +kernel
theorem dX6_kindOfKey_20 : decode cX6_kindOfKey 20 = .ok (.iload_n 1, 1) := by decide +kernel
theorem dX6_kindOfKey_21 : decode cX6_kindOfKey 21 = .ok (.aload_n 0, 1) := by decide +kernel
theorem dX6_kindOfKey_22 : decode cX6_kindOfKey 22 = .ok (.getfield 43, 3) := by decide +kernel
theorem dX6_kindOfKey_25 : decode cX6_kindOfKey 25 = .ok (.invokestatic 63, 3) := by decide +kernel
theorem dX6_kindOfKey_28 : decode cX6_kindOfKey 28 = .ok (.istore 4, 2) := by decide +kernel
theorem dX6_kindOfKey_30 : decode cX6_kindOfKey 30 = .ok (.iconst 0, 1) := by decide +kernel
theorem dX6_kindOfKey_31 : decode cX6_kindOfKey 31 = .ok (.istore 5, 2) := by decide +kernel
theorem dX6_kindOfKey_33 : decode cX6_kindOfKey 33 = .ok (.iload 5, 2) := by decide +kernel
theorem dX6_kindOfKey_35 : decode cX6_kindOfKey 35 = .ok (.iload 4, 2) := by decide +kernel
theorem dX6_kindOfKey_37 : decode cX6_kindOfKey 37 = .ok (.if_icmp .ge 29, 3) := by decide +kernel
theorem dX6_kindOfKey_40 : decode cX6_kindOfKey 40 = .ok (.aload_n 0, 1) := by decide +kernel
theorem dX6_kindOfKey_41 : decode cX6_kindOfKey 41 = .ok (.getfield 20, 3) := by decide +kernel
theorem dX6_kindOfKey_44 : decode cX6_kindOfKey 44 = .ok (.iload_n 3, 1) := by decide +kernel
theorem dX6_kindOfKey_45 : decode cX6_kindOfKey 45 = .ok (.iload 5, 2) := by decide +kernel
theorem dX6_kindOfKey_47 : decode cX6_kindOfKey 47 = .ok (.iadd, 1) := by decide +kernel
theorem dX6_kindOfKey_48 : decode cX6_kindOfKey 48 = .ok (.invokevirtual 75, 3) := by decide +kernel
theorem dX6_kindOfKey_51 : decode cX6_kindOfKey 51 = .ok (.iload_n 2, 1) := by decide +kernel
theorem dX6_kindOfKey_52 : decode cX6_kindOfKey 52 = .ok (.if_icmp .ne 8, 3) := by decide +kernel
theorem dX6_kindOfKey_55 : decode cX6_kindOfKey 55 = .ok (.iload 5, 2) := by decide +kernel
theorem dX6_kindOfKey_57 : decode cX6_kindOfKey 57 = .ok (.iconst 2, 1) := by decide +kernel
theorem dX6_kindOfKey_58 : decode cX6_kindOfKey 58 = .ok (.iadd, 1) := by decide +kernel
theorem dX6_kindOfKey_59 : decode cX6_kindOfKey 59 = .ok (.ireturn, 1) := by decide +kernel
theorem dX6_kindOfKey_60 : decode cX6_kindOfKey 60 = .ok (.iinc 5 1, 3) := by decide +kernel
theorem dX6_kindOfKey_63 : decode cX6_kindOfKey 63 = .ok (.goto (-30), 3) := by decide +kernel
theorem dX6_kindOfKey_66 : decode cX6_kindOfKey 66 = .ok (.bipush (-2), 2) := by decide +kernel
theorem dX6_kindOfKey_68 : decode cX6_kindOfKey 68 = .ok (.ireturn, 1) := by decide +kernel
theorem dX6_layOut_0 : decode cX6_layOut 0 = .ok (.aload_n 0, 1) := by decide +kernel
theorem dX6_layOut_1 : decode cX6_layOut 1 = .ok (.getfield 29, 3) := by decide +kernel
theorem dX6_layOut_4 : decode cX6_layOut 4 = .ok (.iconst (-1), 1) := by decide +kernel
theorem dX6_layOut_5 : decode cX6_layOut 5 = .ok (.invokevirtual 85, 3) := by decide +kernel
theorem dX6_layOut_8 : decode cX6_layOut 8 = .ok (.aload_n 0, 1) := by decide +kernel
theorem dX6_layOut_9 : decode cX6_layOut 9 = .ok (.getfield 29, 3) := by decide +kernel
theorem dX6_layOut_12 : decode cX6_layOut 12 = .ok (.aload_n 0, 1) := by decide +kernel
theorem dX6_layOut_13 : decode cX6_layOut 13 = .ok (.getfield 43, 3) := by decide +kernel
theorem dX6_layOut_16 : decode cX6_layOut 16 = .ok (.iconst 0, 1) := by decide +kernel
theorem dX6_layOut_17 : decode cX6_layOut 17 = .ok (.invokestatic 72, 3) := by decide +kernel
theorem dX6_layOut_20 : decode cX6_layOut 20 = .ok (.iconst 0, 1) := by decide +kernel
theorem dX6_layOut_21 : decode cX6_layOut 21 = .ok (.invokevirtual 59, 3) := by decide +kernel
theorem dX6_layOut_24 : decode cX6_layOut 24 = .ok (.aload_n 0, 1) := by decide +kernel
theorem dX6_layOut_25 : decode cX6_layOut 25 = .ok (.getfield 43, 3) := by decide +kernel
theorem dX6_layOut_28 : decode cX6_layOut 28 = .ok (.istore_n 1, 1) := by decide +kernel
theorem dX6_layOut_29 : decode cX6_layOut 29 = .ok (.iload_n 1, 1) := by decide +kernel
theorem dX6_layOut_30 : decode cX6_layOut 30 = .ok (.ifCond .le 44, 3) := by decide +kernel
theorem dX6_layOut_33 : decode cX6_layOut 33 = .ok (.iconst 0, 1) := by decide +kernel
theorem dX6_layOut_34 : decode cX6_layOut 34 = .ok (.istore_n 2, 1) := by decide +kernel
theorem dX6_layOut_35 : decode cX6_layOut 35 = .ok (.iload_n 2, 1) := by decide +kernel
theorem dX6_layOut_36 : decode cX6_layOut 36 = .ok (.iload_n 1, 1) := by decide +kernel
theorem dX6_layOut_37 : decode cX6_layOut 37 = .ok (.aload_n 0, 1) := by decide +kernel
theorem dX6_layOut_38 : decode cX6_layOut 38 = .ok (.getfield 43, 3) := by decide +kernel
theorem dX6_layOut_41 : decode cX6_layOut 41 = .ok (.invokestatic 63, 3) := by decide +kernel
theorem dX6_layOut_44 : decode cX6_layOut 44 = .ok (.if_icmp .ge 24, 3) := by decide +kernel
theorem dX6_layOut_47 : decode cX6_layOut 47 = .ok (.aload_n 0, 1) := by decide +kernel
theorem dX6_layOut_48 : decode cX6_layOut 48 = .ok (.iload_n 1, 1) := by decide +kernel
theorem dX6_layOut_49 : decode cX6_layOut 49 = .ok (.iload_n 2, 1) := by decide +kernel
theorem dX6_layOut_50 : decode cX6_layOut 50 = .ok (.invokevirtual 88, 3) := by decide +kernel
theorem dX6_layOut_53 : decode cX6_layOut 53 = .ok (.ifCond .eq 9, 3) := by decide +kernel
theorem dX6_layOut_56 : decode cX6_layOut 56 = .ok (.aload_n 0, 1) := by decide +kernel
theorem dX6_layOut_57 : decode cX6_layOut 57 = .ok (.iload_n 1, 1) := by decide +kernel
theorem dX6_layOut_58 : decode cX6_layOut 58 = .ok (.iload_n 2, 1) := by decide +kernel
theorem dX6_layOut_59 : decode cX6_layOut 59 = .ok (.invokevirtual 92, 3) := by decide +kernel
theorem dX6_layOut_62 : decode cX6_layOut 62 = .ok (.iinc 2 1, 3) := by decide +kernel
theorem dX6_layOut_65 : decode cX6_layOut 65 = .ok (.goto (-30), 3) := by decide +kernel
theorem dX6_layOut_68 : decode cX6_layOut 68 = .ok (.iinc 1 (-1), 3) := by decide +kernel
theorem dX6_layOut_71 : decode cX6_layOut 71 = .ok (.goto (-42), 3) := by decide +kernel
theorem dX6_layOut_74 : decode cX6_layOut 74 = .ok (.iconst 0, 1) := by decide +kernel
theorem dX6_layOut_75 : decode cX6_layOut 75 = .ok (.istore_n 1, 1) := by decide +kernel
theorem dX6_layOut_76 : decode cX6_layOut 76 = .ok (.iload_n 1, 1) := by decide +kernel
theorem dX6_layOut_77 : decode cX6_layOut 77 = .ok (.aload_n 0, 1) := by decide +kernel
theorem dX6_layOut_78 : decode cX6_layOut 78 = .ok (.getfield 43, 3) := by decide +kernel
theorem dX6_layOut_81 : decode cX6_layOut 81 = .ok (.invokestatic 46, 3) := by decide +kernel
theorem dX6_layOut_84 : decode cX6_layOut 84 = .ok (.if_icmp .ge 45, 3) := by decide +kernel
theorem dX6_layOut_87 : decode cX6_layOut 87 = .ok (.aload_n 0, 1) := by decide +kernel
theorem dX6_layOut_88 : decode cX6_layOut 88 = .ok (.iconst 0, 1) := by decide +kernel
theorem dX6_layOut_89 : decode cX6_layOut 89 = .ok (.iload_n 1, 1) := by decide +kernel
theorem dX6_layOut_90 : decode cX6_layOut 90 = .ok (.invokevirtual 88, 3) := by decide +kernel
theorem dX6_layOut_93 : decode cX6_layOut 93 = .ok (.ifCond .eq 30, 3) := by decide +kernel
theorem dX6_layOut_96 : decode cX6_layOut 96 = .ok (.aload_n 0, 1) := by decide +kernel
theorem dX6_layOut_97 : decode cX6_layOut 97 = .ok (.getfield 32, 3) := by decide +kernel
theorem dX6_layOut_100 : decode cX6_layOut 100 = .ok (.aload_n 0, 1) := by decide +kernel
theorem dX6_layOut_101 : decode cX6_layOut 101 = .ok (.getfield 29, 3) := by decide +kernel
theorem dX6_layOut_104 : decode cX6_layOut 104 = .ok (.iload_n 1, 1) := by decide +kernel
theorem dX6_layOut_105 : decode cX6_layOut 105 = .ok (.invokevirtual 75, 3) := by decide +kernel
theorem dX6_layOut_108 : decode cX6_layOut 108 = .ok (.aload_n 0, 1) := by decide +kernel
theorem dX6_layOut_109 : decode cX6_layOut 109 = .ok (.getfield 35, 3) := by decide +kernel
theorem dX6_layOut_112 : decode cX6_layOut 112 = .ok (.aload_n 0, 1) := by decide +kernel
theorem dX6_layOut_113 : decode cX6_layOut 113 = .ok (.getfield 39, 3) := by decide +kernel
theorem dX6_layOut_116 : decode cX6_layOut 116 = .ok (.iload_n 1, 1) := by decide +kernel
theorem dX6_layOut_117 : decode cX6_layOut 117 = .ok (.invokevirtual 50, 3) := by decide +kernel
theorem dX6_layOut_120 : decode cX6_layOut 120 = .ok (.invokevirtual 59, 3) := by decide +kernel
theorem dX6_layOut_123 : decode cX6_layOut 123 = .ok (.iinc 1 1, 3) := by decide +kernel
theorem dX6_layOut_126 : decode cX6_layOut 126 = .ok (.goto (-50), 3) := by decide +kernel
theorem dX6_layOut_129 : decode cX6_layOut 129 = .ok (.return_, 1) := by decide +kernel
theorem dX6_layOutBlock_0 : decode cX6_layOutBlock 0 = .ok (.aload_n 0, 1) := by decide +kernel
theorem dX6_layOutBlock_1 : decode cX6_layOutBlock 1 = .ok (.getfield 29, 3) := by decide +kernel
theorem dX6_layOutBlock_4 : decode cX6_layOutBlock 4 = .ok (.iload_n 1, 1) := by decide +kernel
theorem dX6_layOutBlock_5 : decode cX6_layOutBlock 5 = .ok (.iload_n 2, 1) := by decide +kernel
theorem dX6_layOutBlock_6 : decode cX6_layOutBlock 6 = .ok (.invokestatic 72, 3) := by decide +kernel
theorem dX6_layOutBlock_9 : decode cX6_layOutBlock 9 = .ok (.invokevirtual 75, 3) := by decide +kernel
theorem dX6_layOutBlock_12 : decode cX6_layOutBlock 12 = .ok (.istore_n 3, 1) := by decide +kernel
theorem dX6_layOutBlock_13 : decode cX6_layOutBlock 13 = .ok (.iload_n 3, 1) := by decide +kernel
theorem dX6_layOutBlock_14 : decode cX6_layOutBlock 14 = .ok (.iconst 1, 1) := by decide +kernel
theorem dX6_layOutBlock_15 : decode cX6_layOutBlock 15 = .ok (.iadd, 1) := by decide +kernel
theorem dX6_layOutBlock_16 : decode cX6_layOutBlock 16 = .ok (.istore 4, 2) := by decide +kernel
theorem dX6_layOutBlock_18 : decode cX6_layOutBlock 18 = .ok (.iconst 0, 1) := by decide +kernel
theorem dX6_layOutBlock_19 : decode cX6_layOutBlock 19 = .ok (.istore 5, 2) := by decide +kernel
theorem dX6_layOutBlock_21 : decode cX6_layOutBlock 21 = .ok (.iconst 0, 1) := by decide +kernel
theorem dX6_layOutBlock_22 : decode cX6_layOutBlock 22 = .ok (.istore 6, 2) := by decide +kernel
theorem dX6_layOutBlock_24 : decode cX6_layOutBlock 24 = .ok (.iload 6, 2) := by decide +kernel
theorem dX6_layOutBlock_26 : decode cX6_layOutBlock 26 = .ok (.iconst 4, 1) := by decide +kernel
theorem dX6_layOutBlock_27 : decode cX6_layOutBlock 27 = .ok (.if_icmp .ge 80, 3) := by decide +kernel
theorem dX6_layOutBlock_30 : decode cX6_layOutBlock 30 = .ok (.iload_n 1, 1) := by decide +kernel
theorem dX6_layOutBlock_31 : decode cX6_layOutBlock 31 = .ok (.iconst 1, 1) := by decide +kernel
theorem dX6_layOutBlock_32 : decode cX6_layOutBlock 32 = .ok (.isub, 1) := by decide +kernel
theorem dX6_layOutBlock_33 : decode cX6_layOutBlock 33 = .ok (.iconst 4, 1) := by decide +kernel
theorem dX6_layOutBlock_34 : decode cX6_layOutBlock 34 = .ok (.iload_n 2, 1) := by decide +kernel
theorem dX6_layOutBlock_35 : decode cX6_layOutBlock 35 = .ok (.imul, 1) := by decide +kernel
theorem dX6_layOutBlock_36 : decode cX6_layOutBlock 36 = .ok (.iload 6, 2) := by decide +kernel
theorem dX6_layOutBlock_38 : decode cX6_layOutBlock 38 = .ok (.iadd, 1) := by decide +kernel
theorem dX6_layOutBlock_39 : decode cX6_layOutBlock 39 = .ok (.invokestatic 72, 3) := by decide +kernel
theorem dX6_layOutBlock_42 : decode cX6_layOutBlock 42 = .ok (.istore 7, 2) := by decide +kernel
theorem dX6_layOutBlock_44 : decode cX6_layOutBlock 44 = .ok (.iload 5, 2) := by decide +kernel
theorem dX6_layOutBlock_46 : decode cX6_layOutBlock 46 = .ok (.aload_n 0, 1) := by decide +kernel
theorem dX6_layOutBlock_47 : decode cX6_layOutBlock 47 = .ok (.getfield 26, 3) := by decide +kernel
theorem dX6_layOutBlock_50 : decode cX6_layOutBlock 50 = .ok (.iload 7, 2) := by decide +kernel
theorem dX6_layOutBlock_52 : decode cX6_layOutBlock 52 = .ok (.invokevirtual 75, 3) := by decide +kernel
theorem dX6_layOutBlock_55 : decode cX6_layOutBlock 55 = .ok (.iconst 2, 1) := by decide +kernel
theorem dX6_layOutBlock_56 : decode cX6_layOutBlock 56 = .ok (.iload 6, 2) := by decide +kernel
theorem dX6_layOutBlock_58 : decode cX6_layOutBlock 58 = .ok (.imul, 1) := by decide +kernel
theorem dX6_layOutBlock_59 : decode cX6_layOutBlock 59 = .ok (.ishl, 1) := by decide +kernel
theorem dX6_layOutBlock_60 : decode cX6_layOutBlock 60 = .ok (.ior, 1) := by decide +kernel
theorem dX6_layOutBlock_61 : decode cX6_layOutBlock 61 = .ok (.istore 5, 2) := by decide +kernel
theorem dX6_layOutBlock_63 : decode cX6_layOutBlock 63 = .ok (.aload_n 0, 1) := by decide +kernel
theorem dX6_layOutBlock_64 : decode cX6_layOutBlock 64 = .ok (.getfield 26, 3) := by decide +kernel
theorem dX6_layOutBlock_67 : decode cX6_layOutBlock 67 = .ok (.iload 7, 2) := by decide +kernel
theorem dX6_layOutBlock_69 : decode cX6_layOutBlock 69 = .ok (.invokevirtual 75, 3) := by decide +kernel
theorem dX6_layOutBlock_72 : decode cX6_layOutBlock 72 = .ok (.iconst 2, 1) := by decide +kernel
theorem dX6_layOutBlock_73 : decode cX6_layOutBlock 73 = .ok (.if_icmp .ne 28, 3) := by decide +kernel
theorem dX6_layOutBlock_76 : decode cX6_layOutBlock 76 = .ok (.aload_n 0, 1) := by decide +kernel
theorem dX6_layOutBlock_77 : decode cX6_layOutBlock 77 = .ok (.getfield 29, 3) := by decide +kernel
theorem dX6_layOutBlock_80 : decode cX6_layOutBlock 80 = .ok (.iload 7, 2) := by decide +kernel
theorem dX6_layOutBlock_82 : decode cX6_layOutBlock 82 = .ok (.iload 4, 2) := by decide +kernel
theorem dX6_layOutBlock_84 : decode cX6_layOutBlock 84 = .ok (.invokevirtual 59, 3) := by decide +kernel
theorem dX6_layOutBlock_87 : decode cX6_layOutBlock 87 = .ok (.iload 4, 2) := by decide +kernel
theorem dX6_layOutBlock_89 : decode cX6_layOutBlock 89 = .ok (.aload_n 0, 1) := by decide +kernel
theorem dX6_layOutBlock_90 : decode cX6_layOutBlock 90 = .ok (.getfield 23, 3) := by decide +kernel
theorem dX6_layOutBlock_93 : decode cX6_layOutBlock 93 = .ok (.iload 7, 2) := by decide +kernel
theorem dX6_layOutBlock_95 : decode cX6_layOutBlock 95 = .ok (.invokevirtual 75, 3) := by decide +kernel
theorem dX6_layOutBlock_98 : decode cX6_layOutBlock 98 = .ok (.iadd, 1) := by decide +kernel
theorem dX6_layOutBlock_99 : decode cX6_layOutBlock 99 = .ok (.istore 4, 2) := by decide +kernel
theorem dX6_layOutBlock_101 : decode cX6_layOutBlock 101 = .ok (.iinc 6 1, 3) := by decide +kernel
theorem dX6_layOutBlock_104 : decode cX6_layOutBlock 104 = .ok (.goto (-80), 3) := by decide +kernel
theorem dX6_layOutBlock_107 : decode cX6_layOutBlock 107 = .ok (.aload_n 0, 1) := by decide +kernel
theorem dX6_layOutBlock_108 : decode cX6_layOutBlock 108 = .ok (.getfield 32, 3) := by decide +kernel
theorem dX6_layOutBlock_111 : decode cX6_layOutBlock 111 = .ok (.iload_n 3, 1) := by decide +kernel
theorem dX6_layOutBlock_112 : decode cX6_layOutBlock 112 = .ok (.iload 5, 2) := by decide +kernel
theorem dX6_layOutBlock_114 : decode cX6_layOutBlock 114 = .ok (.invokevirtual 59, 3) := by decide +kernel
theorem dX6_layOutBlock_117 : decode cX6_layOutBlock 117 = .ok (.return_, 1) := by decide +kernel
theorem dX6_size_0 : decode cX6_size 0 = .ok (.aload_n 0, 1) := by decide +kernel
theorem dX6_size_1 : decode cX6_size 1 = .ok (.getfield 23, 3) := by decide +kernel
theorem dX6_size_4 : decode cX6_size 4 = .ok (.aload_n 0, 1) := by decide +kernel
theorem dX6_size_5 : decode cX6_size 5 = .ok (.getfield 43, 3) := by decide +kernel
theorem dX6_size_8 : decode cX6_size 8 = .ok (.iconst 0, 1) := by decide +kernel
theorem dX6_size_9 : decode cX6_size 9 = .ok (.invokestatic 72, 3) := by decide +kernel
theorem dX6_size_12 : decode cX6_size 12 = .ok (.invokevirtual 75, 3) := by decide +kernel
theorem dX6_size_15 : decode cX6_size 15 = .ok (.ireturn, 1) := by decide +kernel
theorem dX6_byteOf_0 : decode cX6_byteOf 0 = .ok (.aload_n 0, 1) := by decide +kernel
theorem dX6_byteOf_1 : decode cX6_byteOf 1 = .ok (.getfield 32, 3) := by decide +kernel
theorem dX6_byteOf_4 : decode cX6_byteOf 4 = .ok (.iload_n 1, 1) := by decide +kernel
theorem dX6_byteOf_5 : decode cX6_byteOf 5 = .ok (.invokevirtual 75, 3) := by decide +kernel
theorem dX6_byteOf_8 : decode cX6_byteOf 8 = .ok (.ireturn, 1) := by decide +kernel
theorem dX6_isTold_0 : decode cX6_isTold 0 = .ok (.aload_n 0, 1) := by decide +kernel
theorem dX6_isTold_1 : decode cX6_isTold 1 = .ok (.getfield 29, 3) := by decide +kernel
theorem dX6_isTold_4 : decode cX6_isTold 4 = .ok (.iload_n 1, 1) := by decide +kernel
theorem dX6_isTold_5 : decode cX6_isTold 5 = .ok (.iload_n 2, 1) := by decide +kernel
theorem dX6_isTold_6 : decode cX6_isTold 6 = .ok (.invokestatic 72, 3) := by decide +kernel
theorem dX6_isTold_9 : decode cX6_isTold 9 = .ok (.invokevirtual 75, 3) := by decide +kernel
theorem dX6_isTold_12 : decode cX6_isTold 12 = .ok (.iconst (-1), 1) := by decide +kernel
theorem dX6_isTold_13 : decode cX6_isTold 13 = .ok (.if_icmp .eq 7, 3) := by decide +kernel
theorem dX6_isTold_16 : decode cX6_isTold 16 = .ok (.iconst 1, 1) := by decide +kernel
theorem dX6_isTold_17 : decode cX6_isTold 17 = .ok (.goto 4, 3) := by decide +kernel
theorem dX6_isTold_20 : decode cX6_isTold 20 = .ok (.iconst 0, 1) := by decide +kernel
theorem dX6_isTold_21 : decode cX6_isTold 21 = .ok (.ireturn, 1) := by decide +kernel
theorem dX6_startOf_0 : decode cX6_startOf 0 = .ok (.aload_n 0, 1) := by decide +kernel
theorem dX6_startOf_1 : decode cX6_startOf 1 = .ok (.getfield 29, 3) := by decide +kernel
theorem dX6_startOf_4 : decode cX6_startOf 4 = .ok (.iload_n 1, 1) := by decide +kernel
theorem dX6_startOf_5 : decode cX6_startOf 5 = .ok (.iload_n 2, 1) := by decide +kernel
theorem dX6_startOf_6 : decode cX6_startOf 6 = .ok (.invokestatic 72, 3) := by decide +kernel
theorem dX6_startOf_9 : decode cX6_startOf 9 = .ok (.invokevirtual 75, 3) := by decide +kernel
theorem dX6_startOf_12 : decode cX6_startOf 12 = .ok (.ireturn, 1) := by decide +kernel
theorem dX6_sizeOf_0 : decode cX6_sizeOf 0 = .ok (.aload_n 0, 1) := by decide +kernel
theorem dX6_sizeOf_1 : decode cX6_sizeOf 1 = .ok (.getfield 23, 3) := by decide +kernel
theorem dX6_sizeOf_4 : decode cX6_sizeOf 4 = .ok (.iload_n 1, 1) := by decide +kernel
theorem dX6_sizeOf_5 : decode cX6_sizeOf 5 = .ok (.iload_n 2, 1) := by decide +kernel
theorem dX6_sizeOf_6 : decode cX6_sizeOf 6 = .ok (.invokestatic 72, 3) := by decide +kernel
theorem dX6_sizeOf_9 : decode cX6_sizeOf 9 = .ok (.invokevirtual 75, 3) := by decide +kernel
theorem dX6_sizeOf_12 : decode cX6_sizeOf 12 = .ok (.ireturn, 1) := by decide +kernel
theorem dX6_codeOf_0 : decode cX6_codeOf 0 = .ok (.iload_n 1, 1) := by decide +kernel
theorem dX6_codeOf_1 : decode cX6_codeOf 1 = .ok (.aload_n 0, 1) := by decide +kernel
theorem dX6_codeOf_2 : decode cX6_codeOf 2 = .ok (.getfield 43, 3) := by decide +kernel
theorem dX6_codeOf_5 : decode cX6_codeOf 5 = .ok (.if_icmp .ge 31, 3) := by decide +kernel
theorem dX6_codeOf_8 : decode cX6_codeOf 8 = .ok (.aload_n 0, 1) := by decide +kernel
theorem dX6_codeOf_9 : decode cX6_codeOf 9 = .ok (.iload_n 1, 1) := by decide +kernel
theorem dX6_codeOf_10 : decode cX6_codeOf 10 = .ok (.iconst 1, 1) := by decide +kernel
theorem dX6_codeOf_11 : decode cX6_codeOf 11 = .ok (.iadd, 1) := by decide +kernel
theorem dX6_codeOf_12 : decode cX6_codeOf 12 = .ok (.iload_n 2, 1) := by decide +kernel
theorem dX6_codeOf_13 : decode cX6_codeOf 13 = .ok (.iconst 2, 1) := by decide +kernel
theorem dX6_codeOf_14 : decode cX6_codeOf 14 = .ok (.ishr, 1) := by decide +kernel
theorem dX6_codeOf_15 : decode cX6_codeOf 15 = .ok (.invokevirtual 88, 3) := by decide +kernel
theorem dX6_codeOf_18 : decode cX6_codeOf 18 = .ok (.ifCond .eq 18, 3) := by decide +kernel
theorem dX6_codeOf_21 : decode cX6_codeOf 21 = .ok (.aload_n 0, 1) := by decide +kernel
theorem dX6_codeOf_22 : decode cX6_codeOf 22 = .ok (.getfield 26, 3) := by decide +kernel
theorem dX6_codeOf_25 : decode cX6_codeOf 25 = .ok (.iload_n 1, 1) := by decide +kernel
theorem dX6_codeOf_26 : decode cX6_codeOf 26 = .ok (.iload_n 2, 1) := by decide +kernel
theorem dX6_codeOf_27 : decode cX6_codeOf 27 = .ok (.invokestatic 72, 3) := by decide +kernel
theorem dX6_codeOf_30 : decode cX6_codeOf 30 = .ok (.invokevirtual 75, 3) := by decide +kernel
theorem dX6_codeOf_33 : decode cX6_codeOf 33 = .ok (.goto 4, 3) := by decide +kernel
theorem dX6_codeOf_36 : decode cX6_codeOf 36 = .ok (.iconst (-1), 1) := by decide +kernel
theorem dX6_codeOf_37 : decode cX6_codeOf 37 = .ok (.ireturn, 1) := by decide +kernel
theorem dX6_toldCells_0 : decode cX6_toldCells 0 = .ok (.iconst 0, 1) := by decide +kernel
theorem dX6_toldCells_1 : decode cX6_toldCells 1 = .ok (.istore_n 1, 1) := by decide +kernel
theorem dX6_toldCells_2 : decode cX6_toldCells 2 = .ok (.iconst 0, 1) := by decide +kernel
theorem dX6_toldCells_3 : decode cX6_toldCells 3 = .ok (.istore_n 2, 1) := by decide +kernel
theorem dX6_toldCells_4 : decode cX6_toldCells 4 = .ok (.iload_n 2, 1) := by decide +kernel
theorem dX6_toldCells_5 : decode cX6_toldCells 5 = .ok (.aload_n 0, 1) := by decide +kernel
theorem dX6_toldCells_6 : decode cX6_toldCells 6 = .ok (.getfield 43, 3) := by decide +kernel
theorem dX6_toldCells_9 : decode cX6_toldCells 9 = .ok (.invokestatic 46, 3) := by decide +kernel
theorem dX6_toldCells_12 : decode cX6_toldCells 12 = .ok (.if_icmp .ge 21, 3) := by decide +kernel
theorem dX6_toldCells_15 : decode cX6_toldCells 15 = .ok (.aload_n 0, 1) := by decide +kernel
theorem dX6_toldCells_16 : decode cX6_toldCells 16 = .ok (.iconst 0, 1) := by decide +kernel
theorem dX6_toldCells_17 : decode cX6_toldCells 17 = .ok (.iload_n 2, 1) := by decide +kernel
theorem dX6_toldCells_18 : decode cX6_toldCells 18 = .ok (.invokevirtual 88, 3) := by decide +kernel
theorem dX6_toldCells_21 : decode cX6_toldCells 21 = .ok (.ifCond .eq 6, 3) := by decide +kernel
theorem dX6_toldCells_24 : decode cX6_toldCells 24 = .ok (.iinc 1 1, 3) := by decide +kernel
theorem dX6_toldCells_27 : decode cX6_toldCells 27 = .ok (.iinc 2 1, 3) := by decide +kernel
theorem dX6_toldCells_30 : decode cX6_toldCells 30 = .ok (.goto (-26), 3) := by decide +kernel
theorem dX6_toldCells_33 : decode cX6_toldCells 33 = .ok (.iload_n 1, 1) := by decide +kernel
theorem dX6_toldCells_34 : decode cX6_toldCells 34 = .ok (.ireturn, 1) := by decide +kernel
theorem dX6_toldWithCode_0 : decode cX6_toldWithCode 0 = .ok (.iconst 0, 1) := by decide +kernel
theorem dX6_toldWithCode_1 : decode cX6_toldWithCode 1 = .ok (.istore_n 2, 1) := by decide +kernel
theorem dX6_toldWithCode_2 : decode cX6_toldWithCode 2 = .ok (.iconst 0, 1) := by decide +kernel
theorem dX6_toldWithCode_3 : decode cX6_toldWithCode 3 = .ok (.istore_n 3, 1) := by decide +kernel
theorem dX6_toldWithCode_4 : decode cX6_toldWithCode 4 = .ok (.iload_n 3, 1) := by decide +kernel
theorem dX6_toldWithCode_5 : decode cX6_toldWithCode 5 = .ok (.aload_n 0, 1) := by decide +kernel
theorem dX6_toldWithCode_6 : decode cX6_toldWithCode 6 = .ok (.getfield 43, 3) := by decide +kernel
theorem dX6_toldWithCode_9 : decode cX6_toldWithCode 9 = .ok (.if_icmp .ge 45, 3) := by decide +kernel
theorem dX6_toldWithCode_12 : decode cX6_toldWithCode 12 = .ok (.iconst 0, 1) := by decide +kernel
theorem dX6_toldWithCode_13 : decode cX6_toldWithCode 13 = .ok (.istore 4, 2) := by decide +kernel
theorem dX6_toldWithCode_15 : decode cX6_toldWithCode 15 = .ok (.iload 4, 2) := by decide +kernel
theorem dX6_toldWithCode_17 : decode cX6_toldWithCode 17 = .ok (.iload_n 3, 1) := by decide +kernel
theorem dX6_toldWithCode_18 : decode cX6_toldWithCode 18 = .ok (.aload_n 0, 1) := by decide +kernel
theorem dX6_toldWithCode_19 : decode cX6_toldWithCode 19 = .ok (.getfield 43, 3) := by decide +kernel
theorem dX6_toldWithCode_22 : decode cX6_toldWithCode 22 = .ok (.invokestatic 63, 3) := by decide +kernel
theorem dX6_toldWithCode_25 : decode cX6_toldWithCode 25 = .ok (.if_icmp .ge 23, 3) := by decide +kernel
theorem dX6_toldWithCode_28 : decode cX6_toldWithCode 28 = .ok (.aload_n 0, 1) := by decide +kernel
theorem dX6_toldWithCode_29 : decode cX6_toldWithCode 29 = .ok (.iload_n 3, 1) := by decide +kernel
theorem dX6_toldWithCode_30 : decode cX6_toldWithCode 30 = .ok (.iload 4, 2) := by decide +kernel
theorem dX6_toldWithCode_32 : decode cX6_toldWithCode 32 = .ok (.invokevirtual 95, 3) := by decide +kernel
theorem dX6_toldWithCode_35 : decode cX6_toldWithCode 35 = .ok (.iload_n 1, 1) := by decide +kernel
theorem dX6_toldWithCode_36 : decode cX6_toldWithCode 36 = .ok (.if_icmp .ne 6, 3) := by decide +kernel
theorem dX6_toldWithCode_39 : decode cX6_toldWithCode 39 = .ok (.iinc 2 1, 3) := by decide +kernel
theorem dX6_toldWithCode_42 : decode cX6_toldWithCode 42 = .ok (.iinc 4 1, 3) := by decide +kernel
theorem dX6_toldWithCode_45 : decode cX6_toldWithCode 45 = .ok (.goto (-30), 3) := by decide +kernel
theorem dX6_toldWithCode_48 : decode cX6_toldWithCode 48 = .ok (.iinc 3 1, 3) := by decide +kernel
theorem dX6_toldWithCode_51 : decode cX6_toldWithCode 51 = .ok (.goto (-47), 3) := by decide +kernel
theorem dX6_toldWithCode_54 : decode cX6_toldWithCode 54 = .ok (.iload_n 2, 1) := by decide +kernel
theorem dX6_toldWithCode_55 : decode cX6_toldWithCode 55 = .ok (.ireturn, 1) := by decide +kernel
theorem dX6_tellerOfCell_0 : decode cX6_tellerOfCell 0 = .ok (.iconst 0, 1) := by decide +kernel
theorem dX6_tellerOfCell_1 : decode cX6_tellerOfCell 1 = .ok (.istore_n 2, 1) := by decide +kernel
theorem dX6_tellerOfCell_2 : decode cX6_tellerOfCell 2 = .ok (.aload_n 0, 1) := by decide +kernel
theorem dX6_tellerOfCell_3 : decode cX6_tellerOfCell 3 = .ok (.getfield 43, 3) := by decide +kernel
theorem dX6_tellerOfCell_6 : decode cX6_tellerOfCell 6 = .ok (.istore_n 3, 1) := by decide +kernel
theorem dX6_tellerOfCell_7 : decode cX6_tellerOfCell 7 = .ok (.iload_n 3, 1) := by decide +kernel
theorem dX6_tellerOfCell_8 : decode cX6_tellerOfCell 8 = .ok (.ifCond .le 86, 3) := by decide +kernel
theorem dX6_tellerOfCell_11 : decode cX6_tellerOfCell 11 = .ok (.iconst 4, 1) := by decide +kernel
theorem dX6_tellerOfCell_12 : decode cX6_tellerOfCell 12 = .ok (.iload_n 2, 1) := by decide +kernel
theorem dX6_tellerOfCell_13 : decode cX6_tellerOfCell 13 = .ok (.imul, 1) := by decide +kernel
theorem dX6_tellerOfCell_14 : decode cX6_tellerOfCell 14 = .ok (.iload_n 1, 1) := by decide +kernel
theorem dX6_tellerOfCell_15 : decode cX6_tellerOfCell 15 = .ok (.iconst 2, 1) := by decide +kernel
theorem dX6_tellerOfCell_16 : decode cX6_tellerOfCell 16 = .ok (.iload_n 3, 1) := by decide +kernel
theorem dX6_tellerOfCell_17 : decode cX6_tellerOfCell 17 = .ok (.iconst 1, 1) := by decide +kernel
theorem dX6_tellerOfCell_18 : decode cX6_tellerOfCell 18 = .ok (.isub, 1) := by decide +kernel
theorem dX6_tellerOfCell_19 : decode cX6_tellerOfCell 19 = .ok (.imul, 1) := by decide +kernel
theorem dX6_tellerOfCell_20 : decode cX6_tellerOfCell 20 = .ok (.ishr, 1) := by decide +kernel
theorem dX6_tellerOfCell_21 : decode cX6_tellerOfCell 21 = .ok (.iconst 3, 1) := by decide +kernel
theorem dX6_tellerOfCell_22 : decode cX6_tellerOfCell 22 = .ok (.iand, 1) := by decide +kernel
theorem dX6_tellerOfCell_23 : decode cX6_tellerOfCell 23 = .ok (.iadd, 1) := by decide +kernel
theorem dX6_tellerOfCell_24 : decode cX6_tellerOfCell 24 = .ok (.istore 4, 2) := by decide +kernel
theorem dX6_tellerOfCell_26 : decode cX6_tellerOfCell 26 = .ok (.aload_n 0, 1) := by decide +kernel
theorem dX6_tellerOfCell_27 : decode cX6_tellerOfCell 27 = .ok (.getfield 26, 3) := by decide +kernel
theorem dX6_tellerOfCell_30 : decode cX6_tellerOfCell 30 = .ok (.iload_n 3, 1) := by decide +kernel
theorem dX6_tellerOfCell_31 : decode cX6_tellerOfCell 31 = .ok (.iconst 1, 1) := by decide +kernel
theorem dX6_tellerOfCell_32 : decode cX6_tellerOfCell 32 = .ok (.isub, 1) := by decide +kernel
theorem dX6_tellerOfCell_33 : decode cX6_tellerOfCell 33 = .ok (.iload 4, 2) := by decide +kernel
theorem dX6_tellerOfCell_35 : decode cX6_tellerOfCell 35 = .ok (.invokestatic 72, 3) := by decide +kernel
theorem dX6_tellerOfCell_38 : decode cX6_tellerOfCell 38 = .ok (.invokevirtual 75, 3) := by decide +kernel
theorem dX6_tellerOfCell_41 : decode cX6_tellerOfCell 41 = .ok (.istore 5, 2) := by decide +kernel
theorem dX6_tellerOfCell_43 : decode cX6_tellerOfCell 43 = .ok (.iload 5, 2) := by decide +kernel
theorem dX6_tellerOfCell_45 : decode cX6_tellerOfCell 45 = .ok (.ifCond .eq 9, 3) := by decide +kernel
theorem dX6_tellerOfCell_48 : decode cX6_tellerOfCell 48 = .ok (.iload 5, 2) := by decide +kernel
theorem dX6_tellerOfCell_50 : decode cX6_tellerOfCell 50 = .ok (.iconst 1, 1) := by decide +kernel
theorem dX6_tellerOfCell_51 : decode cX6_tellerOfCell 51 = .ok (.if_icmp .ne 16, 3) := by decide +kernel
theorem dX6_tellerOfCell_54 : decode cX6_tellerOfCell 54 = .ok (.aload_n 0, 1) := by decide +kernel
theorem dX6_tellerOfCell_55 : decode cX6_tellerOfCell 55 = .ok (.getfield 29, 3) := by decide +kernel
theorem dX6_tellerOfCell_58 : decode cX6_tellerOfCell 58 = .ok (.iload_n 3, 1) := by decide +kernel
theorem dX6_tellerOfCell_59 : decode cX6_tellerOfCell 59 = .ok (.iload_n 2, 1) := by decide +kernel
theorem dX6_tellerOfCell_60 : decode cX6_tellerOfCell 60 = .ok (.invokestatic 72, 3) := by decide +kernel
theorem dX6_tellerOfCell_63 : decode cX6_tellerOfCell 63 = .ok (.invokevirtual 75, 3) := by decide +kernel
theorem dX6_tellerOfCell_66 : decode cX6_tellerOfCell 66 = .ok (.ireturn, 1) := by decide +kernel
theorem dX6_tellerOfCell_67 : decode cX6_tellerOfCell 67 = .ok (.iload 5, 2) := by decide +kernel
theorem dX6_tellerOfCell_69 : decode cX6_tellerOfCell 69 = .ok (.iconst 2, 1) := by decide +kernel
theorem dX6_tellerOfCell_70 : decode cX6_tellerOfCell 70 = .ok (.if_icmp .ne 8, 3) := by decide +kernel
theorem dX6_tellerOfCell_73 : decode cX6_tellerOfCell 73 = .ok (.iload 4, 2) := by decide +kernel
theorem dX6_tellerOfCell_75 : decode cX6_tellerOfCell 75 = .ok (.goto 12, 3) := by decide +kernel
theorem dX6_tellerOfCell_78 : decode cX6_tellerOfCell 78 = .ok (.aload_n 0, 1) := by decide +kernel
theorem dX6_tellerOfCell_79 : decode cX6_tellerOfCell 79 = .ok (.iload_n 3, 1) := by decide +kernel
theorem dX6_tellerOfCell_80 : decode cX6_tellerOfCell 80 = .ok (.iconst 1, 1) := by decide +kernel
theorem dX6_tellerOfCell_81 : decode cX6_tellerOfCell 81 = .ok (.isub, 1) := by decide +kernel
theorem dX6_tellerOfCell_82 : decode cX6_tellerOfCell 82 = .ok (.iload 4, 2) := by decide +kernel
theorem dX6_tellerOfCell_84 : decode cX6_tellerOfCell 84 = .ok (.invokevirtual 98, 3) := by decide +kernel
theorem dX6_tellerOfCell_87 : decode cX6_tellerOfCell 87 = .ok (.istore_n 2, 1) := by decide +kernel
theorem dX6_tellerOfCell_88 : decode cX6_tellerOfCell 88 = .ok (.iinc 3 (-1), 3) := by decide +kernel
theorem dX6_tellerOfCell_91 : decode cX6_tellerOfCell 91 = .ok (.goto (-84), 3) := by decide +kernel
theorem dX6_tellerOfCell_94 : decode cX6_tellerOfCell 94 = .ok (.aload_n 0, 1) := by decide +kernel
theorem dX6_tellerOfCell_95 : decode cX6_tellerOfCell 95 = .ok (.getfield 29, 3) := by decide +kernel
theorem dX6_tellerOfCell_98 : decode cX6_tellerOfCell 98 = .ok (.iconst 0, 1) := by decide +kernel
theorem dX6_tellerOfCell_99 : decode cX6_tellerOfCell 99 = .ok (.iload_n 2, 1) := by decide +kernel
theorem dX6_tellerOfCell_100 : decode cX6_tellerOfCell 100 = .ok (.invokestatic 72, 3) := by decide +kernel
theorem dX6_tellerOfCell_103 : decode cX6_tellerOfCell 103 = .ok (.invokevirtual 75, 3) := by decide +kernel
theorem dX6_tellerOfCell_106 : decode cX6_tellerOfCell 106 = .ok (.ireturn, 1) := by decide +kernel
theorem dX6_twinOf_0 : decode cX6_twinOf 0 = .ok (.iload_n 2, 1) := by decide +kernel
theorem dX6_twinOf_1 : decode cX6_twinOf 1 = .ok (.iconst 1, 1) := by decide +kernel
theorem dX6_twinOf_2 : decode cX6_twinOf 2 = .ok (.isub, 1) := by decide +kernel
theorem dX6_twinOf_3 : decode cX6_twinOf 3 = .ok (.istore_n 3, 1) := by decide +kernel
theorem dX6_twinOf_4 : decode cX6_twinOf 4 = .ok (.iload_n 3, 1) := by decide +kernel
theorem dX6_twinOf_5 : decode cX6_twinOf 5 = .ok (.iload_n 2, 1) := by decide +kernel
theorem dX6_twinOf_6 : decode cX6_twinOf 6 = .ok (.bipush (-4), 2) := by decide +kernel
theorem dX6_twinOf_8 : decode cX6_twinOf 8 = .ok (.iand, 1) := by decide +kernel
theorem dX6_twinOf_9 : decode cX6_twinOf 9 = .ok (.if_icmp .le 25, 3) := by decide +kernel
theorem dX6_twinOf_12 : decode cX6_twinOf 12 = .ok (.aload_n 0, 1) := by decide +kernel
theorem dX6_twinOf_13 : decode cX6_twinOf 13 = .ok (.getfield 26, 3) := by decide +kernel
theorem dX6_twinOf_16 : decode cX6_twinOf 16 = .ok (.iload_n 1, 1) := by decide +kernel
theorem dX6_twinOf_17 : decode cX6_twinOf 17 = .ok (.iload_n 3, 1) := by decide +kernel
theorem dX6_twinOf_18 : decode cX6_twinOf 18 = .ok (.invokestatic 72, 3) := by decide +kernel
theorem dX6_twinOf_21 : decode cX6_twinOf 21 = .ok (.invokevirtual 75, 3) := by decide +kernel
theorem dX6_twinOf_24 : decode cX6_twinOf 24 = .ok (.iconst 2, 1) := by decide +kernel
theorem dX6_twinOf_25 : decode cX6_twinOf 25 = .ok (.if_icmp .eq 9, 3) := by decide +kernel
theorem dX6_twinOf_28 : decode cX6_twinOf 28 = .ok (.iinc 3 (-1), 3) := by decide +kernel
theorem dX6_twinOf_31 : decode cX6_twinOf 31 = .ok (.goto (-27), 3) := by decide +kernel
theorem dX6_twinOf_34 : decode cX6_twinOf 34 = .ok (.iload_n 3, 1) := by decide +kernel
theorem dX6_twinOf_35 : decode cX6_twinOf 35 = .ok (.ireturn, 1) := by decide +kernel
theorem dX6_lowestTold_0 : decode cX6_lowestTold 0 = .ok (.iconst 0, 1) := by decide +kernel
theorem dX6_lowestTold_1 : decode cX6_lowestTold 1 = .ok (.istore_n 1, 1) := by decide +kernel
theorem dX6_lowestTold_2 : decode cX6_lowestTold 2 = .ok (.iload_n 1, 1) := by decide +kernel
theorem dX6_lowestTold_3 : decode cX6_lowestTold 3 = .ok (.aload_n 0, 1) := by decide +kernel
theorem dX6_lowestTold_4 : decode cX6_lowestTold 4 = .ok (.getfield 43, 3) := by decide +kernel
theorem dX6_lowestTold_7 : decode cX6_lowestTold 7 = .ok (.if_icmp .ge 40, 3) := by decide +kernel
theorem dX6_lowestTold_10 : decode cX6_lowestTold 10 = .ok (.iconst 0, 1) := by decide +kernel
theorem dX6_lowestTold_11 : decode cX6_lowestTold 11 = .ok (.istore_n 2, 1) := by decide +kernel
theorem dX6_lowestTold_12 : decode cX6_lowestTold 12 = .ok (.iload_n 2, 1) := by decide +kernel
theorem dX6_lowestTold_13 : decode cX6_lowestTold 13 = .ok (.iload_n 1, 1) := by decide +kernel
theorem dX6_lowestTold_14 : decode cX6_lowestTold 14 = .ok (.aload_n 0, 1) := by decide +kernel
theorem dX6_lowestTold_15 : decode cX6_lowestTold 15 = .ok (.getfield 43, 3) := by decide +kernel
theorem dX6_lowestTold_18 : decode cX6_lowestTold 18 = .ok (.invokestatic 63, 3) := by decide +kernel
theorem dX6_lowestTold_21 : decode cX6_lowestTold 21 = .ok (.if_icmp .ge 20, 3) := by decide +kernel
theorem dX6_lowestTold_24 : decode cX6_lowestTold 24 = .ok (.aload_n 0, 1) := by decide +kernel
theorem dX6_lowestTold_25 : decode cX6_lowestTold 25 = .ok (.iload_n 1, 1) := by decide +kernel
theorem dX6_lowestTold_26 : decode cX6_lowestTold 26 = .ok (.iload_n 2, 1) := by decide +kernel
theorem dX6_lowestTold_27 : decode cX6_lowestTold 27 = .ok (.invokevirtual 88, 3) := by decide +kernel
theorem dX6_lowestTold_30 : decode cX6_lowestTold 30 = .ok (.ifCond .eq 5, 3) := by decide +kernel
theorem dX6_lowestTold_33 : decode cX6_lowestTold 33 = .ok (.iload_n 1, 1) := by decide +kernel
theorem dX6_lowestTold_34 : decode cX6_lowestTold 34 = .ok (.ireturn, 1) := by decide +kernel
theorem dX6_lowestTold_35 : decode cX6_lowestTold 35 = .ok (.iinc 2 1, 3) := by decide +kernel
theorem dX6_lowestTold_38 : decode cX6_lowestTold 38 = .ok (.goto (-26), 3) := by decide +kernel
theorem dX6_lowestTold_41 : decode cX6_lowestTold 41 = .ok (.iinc 1 1, 3) := by decide +kernel
theorem dX6_lowestTold_44 : decode cX6_lowestTold 44 = .ok (.goto (-42), 3) := by decide +kernel
theorem dX6_lowestTold_47 : decode cX6_lowestTold 47 = .ok (.aload_n 0, 1) := by decide +kernel
theorem dX6_lowestTold_48 : decode cX6_lowestTold 48 = .ok (.getfield 43, 3) := by decide +kernel
theorem dX6_lowestTold_51 : decode cX6_lowestTold 51 = .ok (.ireturn, 1) := by decide +kernel
theorem dX6_firstCellOfBiggest_0 : decode cX6_firstCellOfBiggest 0 = .ok (.aload_n 0, 1) := by decide +kernel
theorem dX6_firstCellOfBiggest_1 : decode cX6_firstCellOfBiggest 1 = .ok (.getfield 43, 3) := by decide +kernel
theorem dX6_firstCellOfBiggest_4 : decode cX6_firstCellOfBiggest 4 = .ok (.iconst 1, 1) := by decide +kernel
theorem dX6_firstCellOfBiggest_5 : decode cX6_firstCellOfBiggest 5 = .ok (.isub, 1) := by decide +kernel
theorem dX6_firstCellOfBiggest_6 : decode cX6_firstCellOfBiggest 6 = .ok (.istore_n 2, 1) := by decide +kernel
theorem dX6_firstCellOfBiggest_7 : decode cX6_firstCellOfBiggest 7 = .ok (.iload_n 2, 1) := by decide +kernel
theorem dX6_firstCellOfBiggest_8 : decode cX6_firstCellOfBiggest 8 = .ok (.ifCond .lt 46, 3) := by decide +kernel
theorem dX6_firstCellOfBiggest_11 : decode cX6_firstCellOfBiggest 11 = .ok (.iconst 0, 1) := by decide +kernel
theorem dX6_firstCellOfBiggest_12 : decode cX6_firstCellOfBiggest 12 = .ok (.istore_n 3, 1) := by decide +kernel
theorem dX6_firstCellOfBiggest_13 : decode cX6_firstCellOfBiggest 13 = .ok (.iload_n 3, 1) := by decide +kernel
theorem dX6_firstCellOfBiggest_14 : decode cX6_firstCellOfBiggest 14 = .ok (.iload_n 2, 1) := by decide +kernel
theorem dX6_firstCellOfBiggest_15 : decode cX6_firstCellOfBiggest 15 = .ok (.aload_n 0, 1) := by decide +kernel
theorem dX6_firstCellOfBiggest_16 : decode cX6_firstCellOfBiggest 16 = .ok (.getfield 43, 3) := by decide +kernel
theorem dX6_firstCellOfBiggest_19 : decode cX6_firstCellOfBiggest 19 = .ok (.invokestatic 63, 3) := by decide +kernel
theorem dX6_firstCellOfBiggest_22 : decode cX6_firstCellOfBiggest 22 = .ok (.if_icmp .ge 26, 3) := by decide +kernel
theorem dX6_firstCellOfBiggest_25 : decode cX6_firstCellOfBiggest 25 = .ok (.aload_n 0, 1) := by decide +kernel
theorem dX6_firstCellOfBiggest_26 : decode cX6_firstCellOfBiggest 26 = .ok (.iload_n 2, 1) := by decide +kernel
theorem dX6_firstCellOfBiggest_27 : decode cX6_firstCellOfBiggest 27 = .ok (.iload_n 3, 1) := by decide +kernel
theorem dX6_firstCellOfBiggest_28 : decode cX6_firstCellOfBiggest 28 = .ok (.invokevirtual 95, 3) := by decide +kernel
theorem dX6_firstCellOfBiggest_31 : decode cX6_firstCellOfBiggest 31 = .ok (.iload_n 1, 1) := by decide +kernel
theorem dX6_firstCellOfBiggest_32 : decode cX6_firstCellOfBiggest 32 = .ok (.if_icmp .ne 10, 3) := by decide +kernel
theorem dX6_firstCellOfBiggest_35 : decode cX6_firstCellOfBiggest 35 = .ok (.iload_n 3, 1) := by decide +kernel
theorem dX6_firstCellOfBiggest_36 : decode cX6_firstCellOfBiggest 36 = .ok (.iload_n 2, 1) := by decide +kernel
theorem dX6_firstCellOfBiggest_37 : decode cX6_firstCellOfBiggest 37 = .ok (.invokestatic 46, 3) := by decide +kernel
theorem dX6_firstCellOfBiggest_40 : decode cX6_firstCellOfBiggest 40 = .ok (.imul, 1) := by decide +kernel
theorem dX6_firstCellOfBiggest_41 : decode cX6_firstCellOfBiggest 41 = .ok (.ireturn, 1) := by decide +kernel
theorem dX6_firstCellOfBiggest_42 : decode cX6_firstCellOfBiggest 42 = .ok (.iinc 3 1, 3) := by decide +kernel
theorem dX6_firstCellOfBiggest_45 : decode cX6_firstCellOfBiggest 45 = .ok (.goto (-32), 3) := by decide +kernel
theorem dX6_firstCellOfBiggest_48 : decode cX6_firstCellOfBiggest 48 = .ok (.iinc 2 (-1), 3) := by decide +kernel
theorem dX6_firstCellOfBiggest_51 : decode cX6_firstCellOfBiggest 51 = .ok (.goto (-44), 3) := by decide +kernel
theorem dX6_firstCellOfBiggest_54 : decode cX6_firstCellOfBiggest 54 = .ok (.iconst (-1), 1) := by decide +kernel
theorem dX6_firstCellOfBiggest_55 : decode cX6_firstCellOfBiggest 55 = .ok (.ireturn, 1) := by decide +kernel
theorem dX6_sizeIfFlipped_0 : decode cX6_sizeIfFlipped 0 = .ok (.iload_n 1, 1) := by decide +kernel
theorem dX6_sizeIfFlipped_1 : decode cX6_sizeIfFlipped 1 = .ok (.iconst 3, 1) := by decide +kernel
theorem dX6_sizeIfFlipped_2 : decode cX6_sizeIfFlipped 2 = .ok (.ishr, 1) := by decide +kernel
theorem dX6_sizeIfFlipped_3 : decode cX6_sizeIfFlipped 3 = .ok (.istore_n 2, 1) := by decide +kernel
theorem dX6_sizeIfFlipped_4 : decode cX6_sizeIfFlipped 4 = .ok (.aload_n 0, 1) := by decide +kernel
theorem dX6_sizeIfFlipped_5 : decode cX6_sizeIfFlipped 5 = .ok (.getfield 35, 3) := by decide +kernel
theorem dX6_sizeIfFlipped_8 : decode cX6_sizeIfFlipped 8 = .ok (.aload_n 0, 1) := by decide +kernel
theorem dX6_sizeIfFlipped_9 : decode cX6_sizeIfFlipped 9 = .ok (.getfield 39, 3) := by decide +kernel
theorem dX6_sizeIfFlipped_12 : decode cX6_sizeIfFlipped 12 = .ok (.iload_n 2, 1) := by decide +kernel
theorem dX6_sizeIfFlipped_13 : decode cX6_sizeIfFlipped 13 = .ok (.invokevirtual 50, 3) := by decide +kernel
theorem dX6_sizeIfFlipped_16 : decode cX6_sizeIfFlipped 16 = .ok (.iconst 1, 1) := by decide +kernel
theorem dX6_sizeIfFlipped_17 : decode cX6_sizeIfFlipped 17 = .ok (.iload_n 1, 1) := by decide +kernel
theorem dX6_sizeIfFlipped_18 : decode cX6_sizeIfFlipped 18 = .ok (.bipush 7, 2) := by decide +kernel
theorem dX6_sizeIfFlipped_20 : decode cX6_sizeIfFlipped 20 = .ok (.iand, 1) := by decide +kernel
theorem dX6_sizeIfFlipped_21 : decode cX6_sizeIfFlipped 21 = .ok (.ishl, 1) := by decide +kernel
theorem dX6_sizeIfFlipped_22 : decode cX6_sizeIfFlipped 22 = .ok (.ixor, 1) := by decide +kernel
theorem dX6_sizeIfFlipped_23 : decode cX6_sizeIfFlipped 23 = .ok (.invokestatic 56, 3) := by decide +kernel
theorem dX6_sizeIfFlipped_26 : decode cX6_sizeIfFlipped 26 = .ok (.istore_n 3, 1) := by decide +kernel
theorem dX6_sizeIfFlipped_27 : decode cX6_sizeIfFlipped 27 = .ok (.iconst 1, 1) := by decide +kernel
theorem dX6_sizeIfFlipped_28 : decode cX6_sizeIfFlipped 28 = .ok (.istore 4, 2) := by decide +kernel
theorem dX6_sizeIfFlipped_30 : decode cX6_sizeIfFlipped 30 = .ok (.iconst 1, 1) := by decide +kernel
theorem dX6_sizeIfFlipped_31 : decode cX6_sizeIfFlipped 31 = .ok (.istore 5, 2) := by decide +kernel
theorem dX6_sizeIfFlipped_33 : decode cX6_sizeIfFlipped 33 = .ok (.iload 5, 2) := by decide +kernel
theorem dX6_sizeIfFlipped_35 : decode cX6_sizeIfFlipped 35 = .ok (.aload_n 0, 1) := by decide +kernel
theorem dX6_sizeIfFlipped_36 : decode cX6_sizeIfFlipped 36 = .ok (.getfield 43, 3) := by decide +kernel
theorem dX6_sizeIfFlipped_39 : decode cX6_sizeIfFlipped 39 = .ok (.if_icmp .gt 34, 3) := by decide +kernel
theorem dX6_sizeIfFlipped_42 : decode cX6_sizeIfFlipped 42 = .ok (.aload_n 0, 1) := by decide +kernel
theorem dX6_sizeIfFlipped_43 : decode cX6_sizeIfFlipped 43 = .ok (.iload 5, 2) := by decide +kernel
theorem dX6_sizeIfFlipped_45 : decode cX6_sizeIfFlipped 45 = .ok (.iload_n 2, 1) := by decide +kernel
theorem dX6_sizeIfFlipped_46 : decode cX6_sizeIfFlipped 46 = .ok (.iload_n 3, 1) := by decide +kernel
theorem dX6_sizeIfFlipped_47 : decode cX6_sizeIfFlipped 47 = .ok (.iload 4, 2) := by decide +kernel
theorem dX6_sizeIfFlipped_49 : decode cX6_sizeIfFlipped 49 = .ok (.invokevirtual 101, 3) := by decide +kernel
theorem dX6_sizeIfFlipped_52 : decode cX6_sizeIfFlipped 52 = .ok (.istore 4, 2) := by decide +kernel
theorem dX6_sizeIfFlipped_54 : decode cX6_sizeIfFlipped 54 = .ok (.aload_n 0, 1) := by decide +kernel
theorem dX6_sizeIfFlipped_55 : decode cX6_sizeIfFlipped 55 = .ok (.iload 5, 2) := by decide +kernel
theorem dX6_sizeIfFlipped_57 : decode cX6_sizeIfFlipped 57 = .ok (.iload_n 2, 1) := by decide +kernel
theorem dX6_sizeIfFlipped_58 : decode cX6_sizeIfFlipped 58 = .ok (.iload_n 3, 1) := by decide +kernel
theorem dX6_sizeIfFlipped_59 : decode cX6_sizeIfFlipped 59 = .ok (.invokevirtual 105, 3) := by decide +kernel
theorem dX6_sizeIfFlipped_62 : decode cX6_sizeIfFlipped 62 = .ok (.istore_n 3, 1) := by decide +kernel
theorem dX6_sizeIfFlipped_63 : decode cX6_sizeIfFlipped 63 = .ok (.iload_n 2, 1) := by decide +kernel
theorem dX6_sizeIfFlipped_64 : decode cX6_sizeIfFlipped 64 = .ok (.iconst 2, 1) := by decide +kernel
theorem dX6_sizeIfFlipped_65 : decode cX6_sizeIfFlipped 65 = .ok (.ishr, 1) := by decide +kernel
theorem dX6_sizeIfFlipped_66 : decode cX6_sizeIfFlipped 66 = .ok (.istore_n 2, 1) := by decide +kernel
theorem dX6_sizeIfFlipped_67 : decode cX6_sizeIfFlipped 67 = .ok (.iinc 5 1, 3) := by decide +kernel
theorem dX6_sizeIfFlipped_70 : decode cX6_sizeIfFlipped 70 = .ok (.goto (-37), 3) := by decide +kernel
theorem dX6_sizeIfFlipped_73 : decode cX6_sizeIfFlipped 73 = .ok (.iload 4, 2) := by decide +kernel
theorem dX6_sizeIfFlipped_75 : decode cX6_sizeIfFlipped 75 = .ok (.ireturn, 1) := by decide +kernel
theorem dX6_sizeWith_0 : decode cX6_sizeWith 0 = .ok (.iconst (-1), 1) := by decide +kernel
theorem dX6_sizeWith_1 : decode cX6_sizeWith 1 = .ok (.istore 5, 2) := by decide +kernel
theorem dX6_sizeWith_3 : decode cX6_sizeWith 3 = .ok (.iconst 1, 1) := by decide +kernel
theorem dX6_sizeWith_4 : decode cX6_sizeWith 4 = .ok (.istore 6, 2) := by decide +kernel
theorem dX6_sizeWith_6 : decode cX6_sizeWith 6 = .ok (.iload_n 2, 1) := by decide +kernel
theorem dX6_sizeWith_7 : decode cX6_sizeWith 7 = .ok (.bipush (-4), 2) := by decide +kernel
theorem dX6_sizeWith_9 : decode cX6_sizeWith 9 = .ok (.iand, 1) := by decide +kernel
theorem dX6_sizeWith_10 : decode cX6_sizeWith 10 = .ok (.istore 7, 2) := by decide +kernel
theorem dX6_sizeWith_12 : decode cX6_sizeWith 12 = .ok (.iload 7, 2) := by decide +kernel
theorem dX6_sizeWith_14 : decode cX6_sizeWith 14 = .ok (.iload_n 2, 1) := by decide +kernel
theorem dX6_sizeWith_15 : decode cX6_sizeWith 15 = .ok (.iconst 3, 1) := by decide +kernel
theorem dX6_sizeWith_16 : decode cX6_sizeWith 16 = .ok (.ior, 1) := by decide +kernel
theorem dX6_sizeWith_17 : decode cX6_sizeWith 17 = .ok (.if_icmp .gt 80, 3) := by decide +kernel
theorem dX6_sizeWith_20 : decode cX6_sizeWith 20 = .ok (.iload_n 1, 1) := by decide +kernel
theorem dX6_sizeWith_21 : decode cX6_sizeWith 21 = .ok (.iconst 1, 1) := by decide +kernel
theorem dX6_sizeWith_22 : decode cX6_sizeWith 22 = .ok (.isub, 1) := by decide +kernel
theorem dX6_sizeWith_23 : decode cX6_sizeWith 23 = .ok (.iload 7, 2) := by decide +kernel
theorem dX6_sizeWith_25 : decode cX6_sizeWith 25 = .ok (.invokestatic 72, 3) := by decide +kernel
theorem dX6_sizeWith_28 : decode cX6_sizeWith 28 = .ok (.istore 8, 2) := by decide +kernel
theorem dX6_sizeWith_30 : decode cX6_sizeWith 30 = .ok (.iload 7, 2) := by decide +kernel
theorem dX6_sizeWith_32 : decode cX6_sizeWith 32 = .ok (.iload_n 2, 1) := by decide +kernel
theorem dX6_sizeWith_33 : decode cX6_sizeWith 33 = .ok (.if_icmp .ne 7, 3) := by decide +kernel
theorem dX6_sizeWith_36 : decode cX6_sizeWith 36 = .ok (.iload_n 3, 1) := by decide +kernel
theorem dX6_sizeWith_37 : decode cX6_sizeWith 37 = .ok (.goto 12, 3) := by decide +kernel
theorem dX6_sizeWith_40 : decode cX6_sizeWith 40 = .ok (.aload_n 0, 1) := by decide +kernel
theorem dX6_sizeWith_41 : decode cX6_sizeWith 41 = .ok (.getfield 14, 3) := by decide +kernel
theorem dX6_sizeWith_44 : decode cX6_sizeWith 44 = .ok (.iload 8, 2) := by decide +kernel
theorem dX6_sizeWith_46 : decode cX6_sizeWith 46 = .ok (.invokevirtual 75, 3) := by decide +kernel
theorem dX6_sizeWith_49 : decode cX6_sizeWith 49 = .ok (.istore 9, 2) := by decide +kernel
theorem dX6_sizeWith_51 : decode cX6_sizeWith 51 = .ok (.iload 9, 2) := by decide +kernel
theorem dX6_sizeWith_53 : decode cX6_sizeWith 53 = .ok (.iload 5, 2) := by decide +kernel
theorem dX6_sizeWith_55 : decode cX6_sizeWith 55 = .ok (.invokestatic 78, 3) := by decide +kernel
theorem dX6_sizeWith_58 : decode cX6_sizeWith 58 = .ok (.iconst 2, 1) := by decide +kernel
theorem dX6_sizeWith_59 : decode cX6_sizeWith 59 = .ok (.if_icmp .ne 32, 3) := by decide +kernel
theorem dX6_sizeWith_62 : decode cX6_sizeWith 62 = .ok (.iload 9, 2) := by decide +kernel
theorem dX6_sizeWith_64 : decode cX6_sizeWith 64 = .ok (.istore 5, 2) := by decide +kernel
theorem dX6_sizeWith_66 : decode cX6_sizeWith 66 = .ok (.iload 6, 2) := by decide +kernel
theorem dX6_sizeWith_68 : decode cX6_sizeWith 68 = .ok (.iload 7, 2) := by decide +kernel
theorem dX6_sizeWith_70 : decode cX6_sizeWith 70 = .ok (.iload_n 2, 1) := by decide +kernel
theorem dX6_sizeWith_71 : decode cX6_sizeWith 71 = .ok (.if_icmp .ne 8, 3) := by decide +kernel
theorem dX6_sizeWith_74 : decode cX6_sizeWith 74 = .ok (.iload 4, 2) := by decide +kernel
theorem dX6_sizeWith_76 : decode cX6_sizeWith 76 = .ok (.goto 12, 3) := by decide +kernel
theorem dX6_sizeWith_79 : decode cX6_sizeWith 79 = .ok (.aload_n 0, 1) := by decide +kernel
theorem dX6_sizeWith_80 : decode cX6_sizeWith 80 = .ok (.getfield 23, 3) := by decide +kernel
theorem dX6_sizeWith_83 : decode cX6_sizeWith 83 = .ok (.iload 8, 2) := by decide +kernel
theorem dX6_sizeWith_85 : decode cX6_sizeWith 85 = .ok (.invokevirtual 75, 3) := by decide +kernel
theorem dX6_sizeWith_88 : decode cX6_sizeWith 88 = .ok (.iadd, 1) := by decide +kernel
theorem dX6_sizeWith_89 : decode cX6_sizeWith 89 = .ok (.istore 6, 2) := by decide +kernel
theorem dX6_sizeWith_91 : decode cX6_sizeWith 91 = .ok (.iinc 7 1, 3) := by decide +kernel
theorem dX6_sizeWith_94 : decode cX6_sizeWith 94 = .ok (.goto (-82), 3) := by decide +kernel
theorem dX6_sizeWith_97 : decode cX6_sizeWith 97 = .ok (.iload 6, 2) := by decide +kernel
theorem dX6_sizeWith_99 : decode cX6_sizeWith 99 = .ok (.ireturn, 1) := by decide +kernel
theorem dX6_kindWith_0 : decode cX6_kindWith 0 = .ok (.iload_n 3, 1) := by decide +kernel
theorem dX6_kindWith_1 : decode cX6_kindWith 1 = .ok (.bipush (-2), 2) := by decide +kernel
theorem dX6_kindWith_3 : decode cX6_kindWith 3 = .ok (.if_icmp .ne 6, 3) := by decide +kernel
theorem dX6_kindWith_6 : decode cX6_kindWith 6 = .ok (.bipush (-2), 2) := by decide +kernel
theorem dX6_kindWith_8 : decode cX6_kindWith 8 = .ok (.ireturn, 1) := by decide +kernel
theorem dX6_kindWith_9 : decode cX6_kindWith 9 = .ok (.bipush 8, 2) := by decide +kernel
theorem dX6_kindWith_11 : decode cX6_kindWith 11 = .ok (.iload_n 2, 1) := by decide +kernel
theorem dX6_kindWith_12 : decode cX6_kindWith 12 = .ok (.iconst 3, 1) := by decide +kernel
theorem dX6_kindWith_13 : decode cX6_kindWith 13 = .ok (.iand, 1) := by decide +kernel
theorem dX6_kindWith_14 : decode cX6_kindWith 14 = .ok (.imul, 1) := by decide +kernel
theorem dX6_kindWith_15 : decode cX6_kindWith 15 = .ok (.istore 4, 2) := by decide +kernel
theorem dX6_kindWith_17 : decode cX6_kindWith 17 = .ok (.aload_n 0, 1) := by decide +kernel
theorem dX6_kindWith_18 : decode cX6_kindWith 18 = .ok (.iload_n 1, 1) := by decide +kernel
theorem dX6_kindWith_19 : decode cX6_kindWith 19 = .ok (.aload_n 0, 1) := by decide +kernel
theorem dX6_kindWith_20 : decode cX6_kindWith 20 = .ok (.getfield 20, 3) := by decide +kernel
theorem dX6_kindWith_23 : decode cX6_kindWith 23 = .ok (.iload_n 1, 1) := by decide +kernel
theorem dX6_kindWith_24 : decode cX6_kindWith 24 = .ok (.iload_n 2, 1) := by decide +kernel
theorem dX6_kindWith_25 : decode cX6_kindWith 25 = .ok (.iconst 2, 1) := by decide +kernel
theorem dX6_kindWith_26 : decode cX6_kindWith 26 = .ok (.ishr, 1) := by decide +kernel
theorem dX6_kindWith_27 : decode cX6_kindWith 27 = .ok (.invokestatic 72, 3) := by decide +kernel
theorem dX6_kindWith_30 : decode cX6_kindWith 30 = .ok (.invokevirtual 75, 3) := by decide +kernel
theorem dX6_kindWith_33 : decode cX6_kindWith 33 = .ok (.sipush 255, 3) := by decide +kernel
theorem dX6_kindWith_36 : decode cX6_kindWith 36 = .ok (.iload 4, 2) := by decide +kernel
theorem dX6_kindWith_38 : decode cX6_kindWith 38 = .ok (.ishl, 1) := by decide +kernel
theorem dX6_kindWith_39 : decode cX6_kindWith 39 = .ok (.iconst (-1), 1) := by decide +kernel
theorem dX6_kindWith_40 : decode cX6_kindWith 40 = .ok (.ixor, 1) := by decide +kernel
theorem dX6_kindWith_41 : decode cX6_kindWith 41 = .ok (.iand, 1) := by decide +kernel
theorem dX6_kindWith_42 : decode cX6_kindWith 42 = .ok (.iload_n 3, 1) := by decide +kernel
theorem dX6_kindWith_43 : decode cX6_kindWith 43 = .ok (.iload 4, 2) := by decide +kernel
theorem dX6_kindWith_45 : decode cX6_kindWith 45 = .ok (.ishl, 1) := by decide +kernel
theorem dX6_kindWith_46 : decode cX6_kindWith 46 = .ok (.ior, 1) := by decide +kernel
theorem dX6_kindWith_47 : decode cX6_kindWith 47 = .ok (.invokevirtual 81, 3) := by decide +kernel
theorem dX6_kindWith_50 : decode cX6_kindWith 50 = .ok (.ireturn, 1) := by decide +kernel
theorem dX6_spell_0 : decode cX6_spell 0 = .ok (.aload_n 0, 1) := by decide +kernel
theorem dX6_spell_1 : decode cX6_spell 1 = .ok (.aload_n 1, 1) := by decide +kernel
theorem dX6_spell_2 : decode cX6_spell 2 = .ok (.aload_n 0, 1) := by decide +kernel
theorem dX6_spell_3 : decode cX6_spell 3 = .ok (.getfield 43, 3) := by decide +kernel
theorem dX6_spell_6 : decode cX6_spell 6 = .ok (.iconst 0, 1) := by decide +kernel
theorem dX6_spell_7 : decode cX6_spell 7 = .ok (.invokestatic 109, 3) := by decide +kernel
theorem dX6_spell_10 : decode cX6_spell 10 = .ok (.return_, 1) := by decide +kernel
theorem dX6_spellBlock_0 : decode cX6_spellBlock 0 = .ok (.iload_n 2, 1) := by decide +kernel
theorem dX6_spellBlock_1 : decode cX6_spellBlock 1 = .ok (.ifCond .gt 21, 3) := by decide +kernel
theorem dX6_spellBlock_4 : decode cX6_spellBlock 4 = .ok (.aload_n 1, 1) := by decide +kernel
theorem dX6_spellBlock_5 : decode cX6_spellBlock 5 = .ok (.aload_n 0, 1) := by decide +kernel
theorem dX6_spellBlock_6 : decode cX6_spellBlock 6 = .ok (.getfield 32, 3) := by decide +kernel
theorem dX6_spellBlock_9 : decode cX6_spellBlock 9 = .ok (.aload_n 0, 1) := by decide +kernel
theorem dX6_spellBlock_10 : decode cX6_spellBlock 10 = .ok (.iconst 0, 1) := by decide +kernel
theorem dX6_spellBlock_11 : decode cX6_spellBlock 11 = .ok (.iload_n 3, 1) := by decide +kernel
theorem dX6_spellBlock_12 : decode cX6_spellBlock 12 = .ok (.invokevirtual 113, 3) := by decide +kernel
theorem dX6_spellBlock_15 : decode cX6_spellBlock 15 = .ok (.invokevirtual 75, 3) := by decide +kernel
theorem dX6_spellBlock_18 : decode cX6_spellBlock 18 = .ok (.invokevirtual 116, 3) := by decide +kernel
theorem dX6_spellBlock_21 : decode cX6_spellBlock 21 = .ok (.return_, 1) := by decide +kernel
theorem dX6_spellBlock_22 : decode cX6_spellBlock 22 = .ok (.aload_n 1, 1) := by decide +kernel
theorem dX6_spellBlock_23 : decode cX6_spellBlock 23 = .ok (.bipush 40, 2) := by decide +kernel
theorem dX6_spellBlock_25 : decode cX6_spellBlock 25 = .ok (.invokevirtual 121, 3) := by decide +kernel
theorem dX6_spellBlock_28 : decode cX6_spellBlock 28 = .ok (.iconst 4, 1) := by decide +kernel
theorem dX6_spellBlock_29 : decode cX6_spellBlock 29 = .ok (.iload_n 3, 1) := by decide +kernel
theorem dX6_spellBlock_30 : decode cX6_spellBlock 30 = .ok (.imul, 1) := by decide +kernel
theorem dX6_spellBlock_31 : decode cX6_spellBlock 31 = .ok (.istore 4, 2) := by decide +kernel
theorem dX6_spellBlock_33 : decode cX6_spellBlock 33 = .ok (.iload 4, 2) := by decide +kernel
theorem dX6_spellBlock_35 : decode cX6_spellBlock 35 = .ok (.iconst 4, 1) := by decide +kernel
theorem dX6_spellBlock_36 : decode cX6_spellBlock 36 = .ok (.iload_n 3, 1) := by decide +kernel
theorem dX6_spellBlock_37 : decode cX6_spellBlock 37 = .ok (.imul, 1) := by decide +kernel
theorem dX6_spellBlock_38 : decode cX6_spellBlock 38 = .ok (.iconst 4, 1) := by decide +kernel
theorem dX6_spellBlock_39 : decode cX6_spellBlock 39 = .ok (.iadd, 1) := by decide +kernel
theorem dX6_spellBlock_40 : decode cX6_spellBlock 40 = .ok (.if_icmp .ge 72, 3) := by decide +kernel
theorem dX6_spellBlock_43 : decode cX6_spellBlock 43 = .ok (.aload_n 0, 1) := by decide +kernel
theorem dX6_spellBlock_44 : decode cX6_spellBlock 44 = .ok (.getfield 26, 3) := by decide +kernel
theorem dX6_spellBlock_47 : decode cX6_spellBlock 47 = .ok (.iload_n 2, 1) := by decide +kernel
theorem dX6_spellBlock_48 : decode cX6_spellBlock 48 = .ok (.iconst 1, 1) := by decide +kernel
theorem dX6_spellBlock_49 : decode cX6_spellBlock 49 = .ok (.isub, 1) := by decide +kernel
theorem dX6_spellBlock_50 : decode cX6_spellBlock 50 = .ok (.iload 4, 2) := by decide +kernel
theorem dX6_spellBlock_52 : decode cX6_spellBlock 52 = .ok (.invokestatic 72, 3) := by decide +kernel
theorem dX6_spellBlock_55 : decode cX6_spellBlock 55 = .ok (.invokevirtual 75, 3) := by decide +kernel
theorem dX6_spellBlock_58 : decode cX6_spellBlock 58 = .ok (.istore 5, 2) := by decide +kernel
theorem dX6_spellBlock_60 : decode cX6_spellBlock 60 = .ok (.iload 5, 2) := by decide +kernel
theorem dX6_spellBlock_62 : decode cX6_spellBlock 62 = .ok (.iconst 2, 1) := by decide +kernel
theorem dX6_spellBlock_63 : decode cX6_spellBlock 63 = .ok (.if_icmp .ne 16, 3) := by decide +kernel
theorem dX6_spellBlock_66 : decode cX6_spellBlock 66 = .ok (.aload_n 0, 1) := by decide +kernel
theorem dX6_spellBlock_67 : decode cX6_spellBlock 67 = .ok (.aload_n 1, 1) := by decide +kernel
theorem dX6_spellBlock_68 : decode cX6_spellBlock 68 = .ok (.iload_n 2, 1) := by decide +kernel
theorem dX6_spellBlock_69 : decode cX6_spellBlock 69 = .ok (.iconst 1, 1) := by decide +kernel
theorem dX6_spellBlock_70 : decode cX6_spellBlock 70 = .ok (.isub, 1) := by decide +kernel
theorem dX6_spellBlock_71 : decode cX6_spellBlock 71 = .ok (.iload 4, 2) := by decide +kernel
theorem dX6_spellBlock_73 : decode cX6_spellBlock 73 = .ok (.invokestatic 109, 3) := by decide +kernel
theorem dX6_spellBlock_76 : decode cX6_spellBlock 76 = .ok (.goto 30, 3) := by decide +kernel
theorem dX6_spellBlock_79 : decode cX6_spellBlock 79 = .ok (.aload_n 1, 1) := by decide +kernel
theorem dX6_spellBlock_80 : decode cX6_spellBlock 80 = .ok (.iload 5, 2) := by decide +kernel
theorem dX6_spellBlock_82 : decode cX6_spellBlock 82 = .ok (.ifCond .ne 8, 3) := by decide +kernel
theorem dX6_spellBlock_85 : decode cX6_spellBlock 85 = .ok (.bipush 45, 2) := by decide +kernel
theorem dX6_spellBlock_87 : decode cX6_spellBlock 87 = .ok (.goto 16, 3) := by decide +kernel
theorem dX6_spellBlock_90 : decode cX6_spellBlock 90 = .ok (.iload 5, 2) := by decide +kernel
theorem dX6_spellBlock_92 : decode cX6_spellBlock 92 = .ok (.iconst 1, 1) := by decide +kernel
theorem dX6_spellBlock_93 : decode cX6_spellBlock 93 = .ok (.if_icmp .ne 8, 3) := by decide +kernel
theorem dX6_spellBlock_96 : decode cX6_spellBlock 96 = .ok (.bipush 43, 2) := by decide +kernel
theorem dX6_spellBlock_98 : decode cX6_spellBlock 98 = .ok (.goto 5, 3) := by decide +kernel
theorem dX6_spellBlock_101 : decode cX6_spellBlock 101 = .ok (.bipush 61, 2) := by decide +kernel
theorem dX6_spellBlock_103 : decode cX6_spellBlock 103 = .ok (.invokevirtual 121, 3) := by decide +kernel
theorem dX6_spellBlock_106 : decode cX6_spellBlock 106 = .ok (.iinc 4 1, 3) := by decide +kernel
theorem dX6_spellBlock_109 : decode cX6_spellBlock 109 = .ok (.goto (-76), 3) := by decide +kernel
theorem dX6_spellBlock_112 : decode cX6_spellBlock 112 = .ok (.aload_n 1, 1) := by decide +kernel
theorem dX6_spellBlock_113 : decode cX6_spellBlock 113 = .ok (.bipush 41, 2) := by decide +kernel
theorem dX6_spellBlock_115 : decode cX6_spellBlock 115 = .ok (.invokevirtual 121, 3) := by decide +kernel
theorem dX6_spellBlock_118 : decode cX6_spellBlock 118 = .ok (.return_, 1) := by decide +kernel
theorem dX7_init_0 : decode cX7_init 0 = .ok (.aload_n 0, 1) := by decide +kernel
theorem dX7_init_1 : decode cX7_init 1 = .ok (.invokespecial 3, 3) := by decide +kernel
theorem dX7_init_4 : decode cX7_init 4 = .ok (.new 9, 3) := by decide +kernel
theorem dX7_init_7 : decode cX7_init 7 = .ok (.dup, 1) := by decide +kernel
theorem dX7_init_8 : decode cX7_init 8 = .ok (.sipush 700, 3) := by decide +kernel
theorem dX7_init_11 : decode cX7_init 11 = .ok (.invokespecial 11, 3) := by decide +kernel
theorem dX7_init_14 : decode cX7_init 14 = .ok (.astore_n 1, 1) := by decide +kernel
theorem dX7_init_15 : decode cX7_init 15 = .ok (.new 14, 3) := by decide +kernel
theorem dX7_init_18 : decode cX7_init 18 = .ok (.dup, 1) := by decide +kernel
theorem dX7_init_19 : decode cX7_init 19 = .ok (.invokespecial 16, 3) := by decide +kernel
theorem dX7_init_22 : decode cX7_init 22 = .ok (.astore_n 2, 1) := by decide +kernel
theorem dX7_init_23 : decode cX7_init 23 = .ok (.new 17, 3) := by decide +kernel
theorem dX7_init_26 : decode cX7_init 26 = .ok (.dup, 1) := by decide +kernel
theorem dX7_init_27 : decode cX7_init 27 = .ok (.aload_n 2, 1) := by decide +kernel
theorem dX7_init_28 : decode cX7_init 28 = .ok (.invokespecial 19, 3) := by decide +kernel
theorem dX7_init_31 : decode cX7_init 31 = .ok (.astore_n 3, 1) := by decide +kernel
theorem dX7_init_32 : decode cX7_init 32 = .ok (.aload_n 0, 1) := by decide +kernel
theorem dX7_init_33 : decode cX7_init 33 = .ok (.aload_n 1, 1) := by decide +kernel
theorem dX7_init_34 : decode cX7_init 34 = .ok (.putfield 22, 3) := by decide +kernel
theorem dX7_init_37 : decode cX7_init 37 = .ok (.aload_n 0, 1) := by decide +kernel
theorem dX7_init_38 : decode cX7_init 38 = .ok (.aload_n 2, 1) := by decide +kernel
theorem dX7_init_39 : decode cX7_init 39 = .ok (.putfield 26, 3) := by decide +kernel
theorem dX7_init_42 : decode cX7_init 42 = .ok (.aload_n 0, 1) := by decide +kernel
theorem dX7_init_43 : decode cX7_init 43 = .ok (.aload_n 3, 1) := by decide +kernel
theorem dX7_init_44 : decode cX7_init 44 = .ok (.putfield 30, 3) := by decide +kernel
theorem dX7_init_47 : decode cX7_init 47 = .ok (.aload_n 0, 1) := by decide +kernel
theorem dX7_init_48 : decode cX7_init 48 = .ok (.new 34, 3) := by decide +kernel
theorem dX7_init_51 : decode cX7_init 51 = .ok (.dup, 1) := by decide +kernel
theorem dX7_init_52 : decode cX7_init 52 = .ok (.aload_n 2, 1) := by decide +kernel
theorem dX7_init_53 : decode cX7_init 53 = .ok (.invokespecial 36, 3) := by decide +kernel
theorem dX7_init_56 : decode cX7_init 56 = .ok (.putfield 37, 3) := by decide +kernel
theorem dX7_init_59 : decode cX7_init 59 = .ok (.aload_n 0, 1) := by decide +kernel
theorem dX7_init_60 : decode cX7_init 60 = .ok (.new 41, 3) := by decide +kernel
theorem dX7_init_63 : decode cX7_init 63 = .ok (.dup, 1) := by decide +kernel
theorem dX7_init_64 : decode cX7_init 64 = .ok (.aload_n 1, 1) := by decide +kernel
theorem dX7_init_65 : decode cX7_init 65 = .ok (.aload_n 2, 1) := by decide +kernel
theorem dX7_init_66 : decode cX7_init 66 = .ok (.aload_n 3, 1) := by decide +kernel
theorem dX7_init_67 : decode cX7_init 67 = .ok (.invokespecial 43, 3) := by decide +kernel
theorem dX7_init_70 : decode cX7_init 70 = .ok (.putfield 46, 3) := by decide +kernel
theorem dX7_init_73 : decode cX7_init 73 = .ok (.aload_n 0, 1) := by decide +kernel
theorem dX7_init_74 : decode cX7_init 74 = .ok (.new 50, 3) := by decide +kernel
theorem dX7_init_77 : decode cX7_init 77 = .ok (.dup, 1) := by decide +kernel
theorem dX7_init_78 : decode cX7_init 78 = .ok (.aload_n 2, 1) := by decide +kernel
theorem dX7_init_79 : decode cX7_init 79 = .ok (.invokespecial 52, 3) := by decide +kernel
theorem dX7_init_82 : decode cX7_init 82 = .ok (.putfield 53, 3) := by decide +kernel
theorem dX7_init_85 : decode cX7_init 85 = .ok (.aload_n 0, 1) := by decide +kernel
theorem dX7_init_86 : decode cX7_init 86 = .ok (.new 9, 3) := by decide +kernel
theorem dX7_init_89 : decode cX7_init 89 = .ok (.dup, 1) := by decide +kernel
theorem dX7_init_90 : decode cX7_init 90 = .ok (.sipush 1023, 3) := by decide +kernel
theorem dX7_init_93 : decode cX7_init 93 = .ok (.invokespecial 11, 3) := by decide +kernel
theorem dX7_init_96 : decode cX7_init 96 = .ok (.putfield 57, 3) := by decide +kernel
theorem dX7_init_99 : decode cX7_init 99 = .ok (.aload_n 0, 1) := by decide +kernel
theorem dX7_init_100 : decode cX7_init 100 = .ok (.new 60, 3) := by decide +kernel
theorem dX7_init_103 : decode cX7_init 103 = .ok (.dup, 1) := by decide +kernel
theorem dX7_init_104 : decode cX7_init 104 = .ok (.bipush 6, 2) := by decide +kernel
theorem dX7_init_106 : decode cX7_init 106 = .ok (.invokespecial 62, 3) := by decide +kernel
theorem dX7_init_109 : decode cX7_init 109 = .ok (.putfield 63, 3) := by decide +kernel
theorem dX7_init_112 : decode cX7_init 112 = .ok (.aload_n 0, 1) := by decide +kernel
theorem dX7_init_113 : decode cX7_init 113 = .ok (.new 60, 3) := by decide +kernel
theorem dX7_init_116 : decode cX7_init 116 = .ok (.dup, 1) := by decide +kernel
theorem dX7_init_117 : decode cX7_init 117 = .ok (.iconst 2, 1) := by decide +kernel
theorem dX7_init_118 : decode cX7_init 118 = .ok (.invokespecial 62, 3) := by decide +kernel
theorem dX7_init_121 : decode cX7_init 121 = .ok (.putfield 67, 3) := by decide +kernel
theorem dX7_init_124 : decode cX7_init 124 = .ok (.aload_n 0, 1) := by decide +kernel
theorem dX7_init_125 : decode cX7_init 125 = .ok (.iconst (-1), 1) := by decide +kernel
theorem dX7_init_126 : decode cX7_init 126 = .ok (.putfield 70, 3) := by decide +kernel
theorem dX7_init_129 : decode cX7_init 129 = .ok (.return_, 1) := by decide +kernel
theorem dX7_append_0 : decode cX7_append 0 = .ok (.aload_n 0, 1) := by decide +kernel
theorem dX7_append_1 : decode cX7_append 1 = .ok (.getfield 22, 3) := by decide +kernel
theorem dX7_append_4 : decode cX7_append 4 = .ok (.bipush 20, 2) := by decide +kernel
theorem dX7_append_6 : decode cX7_append 6 = .ok (.invokevirtual 74, 3) := by decide +kernel
theorem dX7_append_9 : decode cX7_append 9 = .ok (.ifCond .ne 5, 3) := by decide +kernel
theorem dX7_append_12 : decode cX7_append 12 = .ok (.iconst (-1), 1) := by decide +kernel
theorem dX7_append_13 : decode cX7_append 13 = .ok (.ireturn, 1) := by decide +kernel
theorem dX7_append_14 : decode cX7_append 14 = .ok (.aload_n 0, 1) := by decide +kernel
theorem dX7_append_15 : decode cX7_append 15 = .ok (.getfield 22, 3) := by decide +kernel
theorem dX7_append_18 : decode cX7_append 18 = .ok (.iload_n 1, 1) := by decide +kernel
theorem dX7_append_19 : decode cX7_append 19 = .ok (.invokevirtual 78, 3) := by decide +kernel
theorem dX7_append_22 : decode cX7_append 22 = .ok (.aload_n 0, 1) := by decide +kernel
theorem dX7_append_23 : decode cX7_append 23 = .ok (.getfield 22, 3) := by decide +kernel
theorem dX7_append_26 : decode cX7_append 26 = .ok (.iload_n 2, 1) := by decide +kernel
theorem dX7_append_27 : decode cX7_append 27 = .ok (.invokevirtual 78, 3) := by decide +kernel
theorem dX7_append_30 : decode cX7_append 30 = .ok (.aload_n 0, 1) := by decide +kernel
theorem dX7_append_31 : decode cX7_append 31 = .ok (.getfield 22, 3) := by decide +kernel
theorem dX7_append_34 : decode cX7_append 34 = .ok (.iload_n 3, 1) := by decide +kernel
theorem dX7_append_35 : decode cX7_append 35 = .ok (.invokevirtual 78, 3) := by decide +kernel
theorem dX7_append_38 : decode cX7_append 38 = .ok (.aload_n 0, 1) := by decide +kernel
theorem dX7_append_39 : decode cX7_append 39 = .ok (.getfield 22, 3) := by decide +kernel
theorem dX7_append_42 : decode cX7_append 42 = .ok (.iload 4, 2) := by decide +kernel
theorem dX7_append_44 : decode cX7_append 44 = .ok (.invokevirtual 78, 3) := by decide +kernel
theorem dX7_append_47 : decode cX7_append 47 = .ok (.aload_n 0, 1) := by decide +kernel
theorem dX7_append_48 : decode cX7_append 48 = .ok (.getfield 22, 3) := by decide +kernel
theorem dX7_append_51 : decode cX7_append 51 = .ok (.iload 5, 2) := by decide +kernel
theorem dX7_append_53 : decode cX7_append 53 = .ok (.invokevirtual 78, 3) := by decide +kernel
theorem dX7_append_56 : decode cX7_append 56 = .ok (.aload_n 0, 1) := by decide +kernel
theorem dX7_append_57 : decode cX7_append 57 = .ok (.getfield 22, 3) := by decide +kernel
theorem dX7_append_60 : decode cX7_append 60 = .ok (.invokevirtual 81, 3) := by decide +kernel
theorem dX7_append_63 : decode cX7_append 63 = .ok (.ireturn, 1) := by decide +kernel
theorem dX7_load_0 : decode cX7_load 0 = .ok (.aload_n 0, 1) := by decide +kernel
theorem dX7_load_1 : decode cX7_load 1 = .ok (.iload_n 1, 1) := by decide +kernel
theorem dX7_load_2 : decode cX7_load 2 = .ok (.invokevirtual 85, 3) := by decide +kernel
theorem dX7_load_5 : decode cX7_load 5 = .ok (.aload_n 0, 1) := by decide +kernel
theorem dX7_load_6 : decode cX7_load 6 = .ok (.getfield 46, 3) := by decide +kernel
theorem dX7_load_9 : decode cX7_load 9 = .ok (.iload_n 1, 1) := by decide +kernel
theorem dX7_load_10 : decode cX7_load 10 = .ok (.invokevirtual 88, 3) := by decide +kernel
theorem dX7_load_13 : decode cX7_load 13 = .ok (.istore_n 2, 1) := by decide +kernel
theorem dX7_load_14 : decode cX7_load 14 = .ok (.aload_n 0, 1) := by decide +kernel
theorem dX7_load_15 : decode cX7_load 15 = .ok (.getfield 22, 3) := by decide +kernel
theorem dX7_load_18 : decode cX7_load 18 = .ok (.invokevirtual 91, 3) := by decide +kernel
theorem dX7_load_21 : decode cX7_load 21 = .ok (.aload_n 0, 1) := by decide +kernel
theorem dX7_load_22 : decode cX7_load 22 = .ok (.aload_n 0, 1) := by decide +kernel
theorem dX7_load_23 : decode cX7_load 23 = .ok (.getfield 46, 3) := by decide +kernel
theorem dX7_load_26 : decode cX7_load 26 = .ok (.invokevirtual 94, 3) := by decide +kernel
theorem dX7_load_29 : decode cX7_load 29 = .ok (.putfield 97, 3) := by decide +kernel
theorem dX7_load_32 : decode cX7_load 32 = .ok (.aload_n 0, 1) := by decide +kernel
theorem dX7_load_33 : decode cX7_load 33 = .ok (.aload_n 0, 1) := by decide +kernel
theorem dX7_load_34 : decode cX7_load 34 = .ok (.getfield 46, 3) := by decide +kernel
theorem dX7_load_37 : decode cX7_load 37 = .ok (.invokevirtual 99, 3) := by decide +kernel
theorem dX7_load_40 : decode cX7_load 40 = .ok (.putfield 70, 3) := by decide +kernel
theorem dX7_load_43 : decode cX7_load 43 = .ok (.iload_n 2, 1) := by decide +kernel
theorem dX7_load_44 : decode cX7_load 44 = .ok (.ifCond .ne 13, 3) := by decide +kernel
theorem dX7_load_47 : decode cX7_load 47 = .ok (.new 101, 3) := by decide +kernel
theorem dX7_load_50 : decode cX7_load 50 = .ok (.dup, 1) := by decide +kernel
theorem dX7_load_51 : decode cX7_load 51 = .ok (.ldc 103, 2) := by decide +kernel
theorem dX7_load_53 : decode cX7_load 53 = .ok (.invokespecial 105, 3) := by decide +kernel
theorem dX7_load_56 : decode cX7_load 56 = .ok (.athrow, 1) := by decide +kernel
theorem dX7_load_57 : decode cX7_load 57 = .ok (.aload_n 0, 1) := by decide +kernel
theorem dX7_load_58 : decode cX7_load 58 = .ok (.invokevirtual 108, 3) := by decide +kernel
theorem dX7_load_61 : decode cX7_load 61 = .ok (.aload_n 0, 1) := by decide +kernel
theorem dX7_load_62 : decode cX7_load 62 = .ok (.getfield 111, 3) := by decide +kernel
theorem dX7_load_65 : decode cX7_load 65 = .ok (.ireturn, 1) := by decide +kernel
theorem dX7_adoptParsed_0 : decode cX7_adoptParsed 0 = .ok (.aload_n 0, 1) := by decide +kernel
theorem dX7_adoptParsed_1 : decode cX7_adoptParsed 1 = .ok (.iconst 1, 1) := by decide +kernel
theorem dX7_adoptParsed_2 : decode cX7_adoptParsed 2 = .ok (.putfield 114, 3) := by decide +kernel
theorem dX7_adoptParsed_5 : decode cX7_adoptParsed 5 = .ok (.aload_n 0, 1) := by decide +kernel
theorem dX7_adoptParsed_6 : decode cX7_adoptParsed 6 = .ok (.aload_n 0, 1) := by decide +kernel
theorem dX7_adoptParsed_7 : decode cX7_adoptParsed 7 = .ok (.getfield 46, 3) := by decide +kernel
theorem dX7_adoptParsed_10 : decode cX7_adoptParsed 10 = .ok (.invokevirtual 118, 3) := by decide +kernel
theorem dX7_adoptParsed_13 : decode cX7_adoptParsed 13 = .ok (.putfield 121, 3) := by decide +kernel
theorem dX7_adoptParsed_16 : decode cX7_adoptParsed 16 = .ok (.aload_n 0, 1) := by decide +kernel
theorem dX7_adoptParsed_17 : decode cX7_adoptParsed 17 = .ok (.aload_n 0, 1) := by decide +kernel
theorem dX7_adoptParsed_18 : decode cX7_adoptParsed 18 = .ok (.getfield 46, 3) := by decide +kernel
theorem dX7_adoptParsed_21 : decode cX7_adoptParsed 21 = .ok (.invokevirtual 124, 3) := by decide +kernel
theorem dX7_adoptParsed_24 : decode cX7_adoptParsed 24 = .ok (.putfield 111, 3) := by decide +kernel
theorem dX7_adoptParsed_27 : decode cX7_adoptParsed 27 = .ok (.iconst 0, 1) := by decide +kernel
theorem dX7_adoptParsed_28 : decode cX7_adoptParsed 28 = .ok (.istore_n 1, 1) := by decide +kernel
theorem dX7_adoptParsed_29 : decode cX7_adoptParsed 29 = .ok (.iload_n 1, 1) := by decide +kernel
theorem dX7_adoptParsed_30 : decode cX7_adoptParsed 30 = .ok (.bipush 6, 2) := by decide +kernel
theorem dX7_adoptParsed_32 : decode cX7_adoptParsed 32 = .ok (.if_icmp .ge 37, 3) := by decide +kernel
theorem dX7_adoptParsed_35 : decode cX7_adoptParsed 35 = .ok (.aload_n 0, 1) := by decide +kernel
theorem dX7_adoptParsed_36 : decode cX7_adoptParsed 36 = .ok (.getfield 63, 3) := by decide +kernel
theorem dX7_adoptParsed_39 : decode cX7_adoptParsed 39 = .ok (.iload_n 1, 1) := by decide +kernel
theorem dX7_adoptParsed_40 : decode cX7_adoptParsed 40 = .ok (.aload_n 0, 1) := by decide +kernel
theorem dX7_adoptParsed_41 : decode cX7_adoptParsed 41 = .ok (.getfield 46, 3) := by decide +kernel
theorem dX7_adoptParsed_44 : decode cX7_adoptParsed 44 = .ok (.iload_n 1, 1) := by decide +kernel
theorem dX7_adoptParsed_45 : decode cX7_adoptParsed 45 = .ok (.invokevirtual 127, 3) := by decide +kernel
theorem dX7_adoptParsed_48 : decode cX7_adoptParsed 48 = .ok (.invokevirtual 131, 3) := by decide +kernel
theorem dX7_adoptParsed_51 : decode cX7_adoptParsed 51 = .ok (.aload_n 0, 1) := by decide +kernel
theorem dX7_adoptParsed_52 : decode cX7_adoptParsed 52 = .ok (.getfield 26, 3) := by decide +kernel
theorem dX7_adoptParsed_55 : decode cX7_adoptParsed 55 = .ok (.bipush 6, 2) := by decide +kernel
theorem dX7_adoptParsed_57 : decode cX7_adoptParsed 57 = .ok (.iload_n 1, 1) := by decide +kernel
theorem dX7_adoptParsed_58 : decode cX7_adoptParsed 58 = .ok (.iadd, 1) := by decide +kernel
theorem dX7_adoptParsed_59 : decode cX7_adoptParsed 59 = .ok (.iload_n 1, 1) := by decide +kernel
theorem dX7_adoptParsed_60 : decode cX7_adoptParsed 60 = .ok (.invokevirtual 135, 3) := by decide +kernel
theorem dX7_adoptParsed_63 : decode cX7_adoptParsed 63 = .ok (.iinc 1 1, 3) := by decide +kernel
theorem dX7_adoptParsed_66 : decode cX7_adoptParsed 66 = .ok (.goto (-37), 3) := by decide +kernel
theorem dX7_adoptParsed_69 : decode cX7_adoptParsed 69 = .ok (.aload_n 0, 1) := by decide +kernel
theorem dX7_adoptParsed_70 : decode cX7_adoptParsed 70 = .ok (.getfield 53, 3) := by decide +kernel
theorem dX7_adoptParsed_73 : decode cX7_adoptParsed 73 = .ok (.invokevirtual 138, 3) := by decide +kernel
theorem dX7_adoptParsed_76 : decode cX7_adoptParsed 76 = .ok (.iconst 0, 1) := by decide +kernel
theorem dX7_adoptParsed_77 : decode cX7_adoptParsed 77 = .ok (.istore_n 1, 1) := by decide +kernel
theorem dX7_adoptParsed_78 : decode cX7_adoptParsed 78 = .ok (.iload_n 1, 1) := by decide +kernel
theorem dX7_adoptParsed_79 : decode cX7_adoptParsed 79 = .ok (.iconst 2, 1) := by decide +kernel
theorem dX7_adoptParsed_80 : decode cX7_adoptParsed 80 = .ok (.if_icmp .ge 18, 3) := by decide +kernel
theorem dX7_adoptParsed_83 : decode cX7_adoptParsed 83 = .ok (.aload_n 0, 1) := by decide +kernel
theorem dX7_adoptParsed_84 : decode cX7_adoptParsed 84 = .ok (.getfield 67, 3) := by decide +kernel
theorem dX7_adoptParsed_87 : decode cX7_adoptParsed 87 = .ok (.iload_n 1, 1) := by decide +kernel
theorem dX7_adoptParsed_88 : decode cX7_adoptParsed 88 = .ok (.iconst 0, 1) := by decide +kernel
theorem dX7_adoptParsed_89 : decode cX7_adoptParsed 89 = .ok (.invokevirtual 131, 3) := by decide +kernel
theorem dX7_adoptParsed_92 : decode cX7_adoptParsed 92 = .ok (.iinc 1 1, 3) := by decide +kernel
theorem dX7_adoptParsed_95 : decode cX7_adoptParsed 95 = .ok (.goto (-17), 3) := by decide +kernel
theorem dX7_adoptParsed_98 : decode cX7_adoptParsed 98 = .ok (.return_, 1) := by decide +kernel
theorem dX7_parseError_0 : decode cX7_parseError 0 = .ok (.aload_n 0, 1) := by decide +kernel
theorem dX7_parseError_1 : decode cX7_parseError 1 = .ok (.getfield 97, 3) := by decide +kernel
theorem dX7_parseError_4 : decode cX7_parseError 4 = .ok (.ireturn, 1) := by decide +kernel
theorem dX7_errorPosition_0 : decode cX7_errorPosition 0 = .ok (.aload_n 0, 1) := by decide +kernel
theorem dX7_errorPosition_1 : decode cX7_errorPosition 1 = .ok (.getfield 70, 3) := by decide +kernel
theorem dX7_errorPosition_4 : decode cX7_errorPosition 4 = .ok (.ireturn, 1) := by decide +kernel
theorem dX7_buffered_0 : decode cX7_buffered 0 = .ok (.aload_n 0, 1) := by decide +kernel
theorem dX7_buffered_1 : decode cX7_buffered 1 = .ok (.getfield 22, 3) := by decide +kernel
theorem dX7_buffered_4 : decode cX7_buffered 4 = .ok (.invokevirtual 81, 3) := by decide +kernel
theorem dX7_buffered_7 : decode cX7_buffered 7 = .ok (.ireturn, 1) := by decide +kernel
theorem dX7_find_0 : decode cX7_find 0 = .ok (.aload_n 0, 1) := by decide +kernel
theorem dX7_find_1 : decode cX7_find 1 = .ok (.invokevirtual 141, 3) := by decide +kernel
theorem dX7_find_4 : decode cX7_find 4 = .ok (.aload_n 0, 1) := by decide +kernel
theorem dX7_find_5 : decode cX7_find 5 = .ok (.iload_n 1, 1) := by decide +kernel
theorem dX7_find_6 : decode cX7_find 6 = .ok (.invokevirtual 85, 3) := by decide +kernel
theorem dX7_find_9 : decode cX7_find 9 = .ok (.aload_n 0, 1) := by decide +kernel
theorem dX7_find_10 : decode cX7_find 10 = .ok (.getfield 46, 3) := by decide +kernel
theorem dX7_find_13 : decode cX7_find 13 = .ok (.iload_n 1, 1) := by decide +kernel
theorem dX7_find_14 : decode cX7_find 14 = .ok (.invokevirtual 144, 3) := by decide +kernel
theorem dX7_find_17 : decode cX7_find 17 = .ok (.istore_n 2, 1) := by decide +kernel
theorem dX7_find_18 : decode cX7_find 18 = .ok (.aload_n 0, 1) := by decide +kernel
theorem dX7_find_19 : decode cX7_find 19 = .ok (.getfield 22, 3) := by decide +kernel
theorem dX7_find_22 : decode cX7_find 22 = .ok (.invokevirtual 91, 3) := by decide +kernel
theorem dX7_find_25 : decode cX7_find 25 = .ok (.iconst 0, 1) := by decide +kernel
theorem dX7_find_26 : decode cX7_find 26 = .ok (.istore_n 3, 1) := by decide +kernel
theorem dX7_find_27 : decode cX7_find 27 = .ok (.iload_n 3, 1) := by decide +kernel
theorem dX7_find_28 : decode cX7_find 28 = .ok (.aload_n 0, 1) := by decide +kernel
theorem dX7_find_29 : decode cX7_find 29 = .ok (.getfield 111, 3) := by decide +kernel
theorem dX7_find_32 : decode cX7_find 32 = .ok (.if_icmp .ge 28, 3) := by decide +kernel
theorem dX7_find_35 : decode cX7_find 35 = .ok (.iload_n 2, 1) := by decide +kernel
theorem dX7_find_36 : decode cX7_find 36 = .ok (.iconst (-1), 1) := by decide +kernel
theorem dX7_find_37 : decode cX7_find 37 = .ok (.if_icmp .eq 17, 3) := by decide +kernel
theorem dX7_find_40 : decode cX7_find 40 = .ok (.aload_n 0, 1) := by decide +kernel
theorem dX7_find_41 : decode cX7_find 41 = .ok (.getfield 63, 3) := by decide +kernel
theorem dX7_find_44 : decode cX7_find 44 = .ok (.iload_n 3, 1) := by decide +kernel
theorem dX7_find_45 : decode cX7_find 45 = .ok (.invokevirtual 147, 3) := by decide +kernel
theorem dX7_find_48 : decode cX7_find 48 = .ok (.iload_n 2, 1) := by decide +kernel
theorem dX7_find_49 : decode cX7_find 49 = .ok (.if_icmp .ne 5, 3) := by decide +kernel
theorem dX7_find_52 : decode cX7_find 52 = .ok (.iload_n 3, 1) := by decide +kernel
theorem dX7_find_53 : decode cX7_find 53 = .ok (.ireturn, 1) := by decide +kernel
theorem dX7_find_54 : decode cX7_find 54 = .ok (.iinc 3 1, 3) := by decide +kernel
theorem dX7_find_57 : decode cX7_find 57 = .ok (.goto (-30), 3) := by decide +kernel
theorem dX7_find_60 : decode cX7_find 60 = .ok (.iconst (-1), 1) := by decide +kernel
theorem dX7_find_61 : decode cX7_find 61 = .ok (.ireturn, 1) := by decide +kernel
theorem dX7_checks_0 : decode cX7_checks 0 = .ok (.aload_n 0, 1) := by decide +kernel
theorem dX7_checks_1 : decode cX7_checks 1 = .ok (.invokevirtual 141, 3) := by decide +kernel
theorem dX7_checks_4 : decode cX7_checks 4 = .ok (.aload_n 0, 1) := by decide +kernel
theorem dX7_checks_5 : decode cX7_checks 5 = .ok (.iload_n 1, 1) := by decide +kernel
theorem dX7_checks_6 : decode cX7_checks 6 = .ok (.invokevirtual 85, 3) := by decide +kernel
theorem dX7_checks_9 : decode cX7_checks 9 = .ok (.aload_n 0, 1) := by decide +kernel
theorem dX7_checks_10 : decode cX7_checks 10 = .ok (.iload_n 1, 1) := by decide +kernel
theorem dX7_checks_11 : decode cX7_checks 11 = .ok (.invokevirtual 150, 3) := by decide +kernel
theorem dX7_checks_14 : decode cX7_checks 14 = .ok (.istore_n 2, 1) := by decide +kernel
theorem dX7_checks_15 : decode cX7_checks 15 = .ok (.aload_n 0, 1) := by decide +kernel
theorem dX7_checks_16 : decode cX7_checks 16 = .ok (.getfield 22, 3) := by decide +kernel
theorem dX7_checks_19 : decode cX7_checks 19 = .ok (.invokevirtual 91, 3) := by decide +kernel
theorem dX7_checks_22 : decode cX7_checks 22 = .ok (.iload_n 2, 1) := by decide +kernel
theorem dX7_checks_23 : decode cX7_checks 23 = .ok (.ireturn, 1) := by decide +kernel
theorem dX7_readToScratch_0 : decode cX7_readToScratch 0 = .ok (.aload_n 0, 1) := by decide +kernel
theorem dX7_readToScratch_1 : decode cX7_readToScratch 1 = .ok (.getfield 30, 3) := by decide +kernel
theorem dX7_readToScratch_4 : decode cX7_readToScratch 4 = .ok (.bipush 32, 2) := by decide +kernel
theorem dX7_readToScratch_6 : decode cX7_readToScratch 6 = .ok (.aload_n 0, 1) := by decide +kernel
theorem dX7_readToScratch_7 : decode cX7_readToScratch 7 = .ok (.getfield 121, 3) := by decide +kernel
theorem dX7_readToScratch_10 : decode cX7_readToScratch 10 = .ok (.invokevirtual 153, 3) := by decide +kernel
theorem dX7_readToScratch_13 : decode cX7_readToScratch 13 = .ok (.iconst 0, 1) := by decide +kernel
theorem dX7_readToScratch_14 : decode cX7_readToScratch 14 = .ok (.istore_n 2, 1) := by decide +kernel
theorem dX7_readToScratch_15 : decode cX7_readToScratch 15 = .ok (.iload_n 2, 1) := by decide +kernel
theorem dX7_readToScratch_16 : decode cX7_readToScratch 16 = .ok (.iload_n 1, 1) := by decide +kernel
theorem dX7_readToScratch_17 : decode cX7_readToScratch 17 = .ok (.if_icmp .ge 29, 3) := by decide +kernel
theorem dX7_readToScratch_20 : decode cX7_readToScratch 20 = .ok (.aload_n 0, 1) := by decide +kernel
theorem dX7_readToScratch_21 : decode cX7_readToScratch 21 = .ok (.getfield 30, 3) := by decide +kernel
theorem dX7_readToScratch_24 : decode cX7_readToScratch 24 = .ok (.aload_n 0, 1) := by decide +kernel
theorem dX7_readToScratch_25 : decode cX7_readToScratch 25 = .ok (.getfield 22, 3) := by decide +kernel
theorem dX7_readToScratch_28 : decode cX7_readToScratch 28 = .ok (.iload_n 2, 1) := by decide +kernel
theorem dX7_readToScratch_29 : decode cX7_readToScratch 29 = .ok (.invokevirtual 156, 3) := by decide +kernel
theorem dX7_readToScratch_32 : decode cX7_readToScratch 32 = .ok (.invokevirtual 157, 3) := by decide +kernel
theorem dX7_readToScratch_35 : decode cX7_readToScratch 35 = .ok (.ifCond .ne 5, 3) := by decide +kernel
theorem dX7_readToScratch_38 : decode cX7_readToScratch 38 = .ok (.iload_n 2, 1) := by decide +kernel
theorem dX7_readToScratch_39 : decode cX7_readToScratch 39 = .ok (.ireturn, 1) := by decide +kernel
theorem dX7_readToScratch_40 : decode cX7_readToScratch 40 = .ok (.iinc 2 1, 3) := by decide +kernel
theorem dX7_readToScratch_43 : decode cX7_readToScratch 43 = .ok (.goto (-28), 3) := by decide +kernel
theorem dX7_readToScratch_46 : decode cX7_readToScratch 46 = .ok (.aload_n 0, 1) := by decide +kernel
theorem dX7_readToScratch_47 : decode cX7_readToScratch 47 = .ok (.getfield 30, 3) := by decide +kernel
theorem dX7_readToScratch_50 : decode cX7_readToScratch 50 = .ok (.invokevirtual 160, 3) := by decide +kernel
theorem dX7_readToScratch_53 : decode cX7_readToScratch 53 = .ok (.ifCond .eq 7, 3) := by decide +kernel
theorem dX7_readToScratch_56 : decode cX7_readToScratch 56 = .ok (.iconst (-1), 1) := by decide +kernel
theorem dX7_readToScratch_57 : decode cX7_readToScratch 57 = .ok (.goto 4, 3) := by decide +kernel
theorem dX7_readToScratch_60 : decode cX7_readToScratch 60 = .ok (.iload_n 1, 1) := by decide +kernel
theorem dX7_readToScratch_61 : decode cX7_readToScratch 61 = .ok (.ireturn, 1) := by decide +kernel
theorem dX7_count_0 : decode cX7_count 0 = .ok (.aload_n 0, 1) := by decide +kernel
theorem dX7_count_1 : decode cX7_count 1 = .ok (.invokevirtual 141, 3) := by decide +kernel
theorem dX7_count_4 : decode cX7_count 4 = .ok (.iload_n 1, 1) := by decide +kernel
theorem dX7_count_5 : decode cX7_count 5 = .ok (.tableswitch 57 0 3 #[31, 36, 41, 52], 31) := by decide +kernel
theorem dX7_count_36 : decode cX7_count 36 = .ok (.aload_n 0, 1) := by decide +kernel
theorem dX7_count_37 : decode cX7_count 37 = .ok (.getfield 111, 3) := by decide +kernel
theorem dX7_count_40 : decode cX7_count 40 = .ok (.ireturn, 1) := by decide +kernel
theorem dX7_count_41 : decode cX7_count 41 = .ok (.aload_n 0, 1) := by decide +kernel
theorem dX7_count_42 : decode cX7_count 42 = .ok (.getfield 121, 3) := by decide +kernel
theorem dX7_count_45 : decode cX7_count 45 = .ok (.ireturn, 1) := by decide +kernel
theorem dX7_count_46 : decode cX7_count 46 = .ok (.bipush 8, 2) := by decide +kernel
theorem dX7_count_48 : decode cX7_count 48 = .ok (.aload_n 0, 1) := by decide +kernel
theorem dX7_count_49 : decode cX7_count 49 = .ok (.getfield 121, 3) := by decide +kernel
theorem dX7_count_52 : decode cX7_count 52 = .ok (.invokestatic 164, 3) := by decide +kernel
theorem dX7_count_55 : decode cX7_count 55 = .ok (.imul, 1) := by decide +kernel
theorem dX7_count_56 : decode cX7_count 56 = .ok (.ireturn, 1) := by decide +kernel
theorem dX7_count_57 : decode cX7_count 57 = .ok (.aload_n 0, 1) := by decide +kernel
theorem dX7_count_58 : decode cX7_count 58 = .ok (.invokevirtual 167, 3) := by decide +kernel
theorem dX7_count_61 : decode cX7_count 61 = .ok (.ireturn, 1) := by decide +kernel
theorem dX7_count_62 : decode cX7_count 62 = .ok (.new 101, 3) := by decide +kernel
theorem dX7_count_65 : decode cX7_count 65 = .ok (.dup, 1) := by decide +kernel
theorem dX7_count_66 : decode cX7_count 66 = .ok (.ldc 170, 2) := by decide +kernel
theorem dX7_count_68 : decode cX7_count 68 = .ok (.invokespecial 105, 3) := by decide +kernel
theorem dX7_count_71 : decode cX7_count 71 = .ok (.athrow, 1) := by decide +kernel
theorem dX7_bit_0 : decode cX7_bit 0 = .ok (.aload_n 0, 1) := by decide +kernel
theorem dX7_bit_1 : decode cX7_bit 1 = .ok (.invokevirtual 141, 3) := by decide +kernel
theorem dX7_bit_4 : decode cX7_bit 4 = .ok (.aload_n 0, 1) := by decide +kernel
theorem dX7_bit_5 : decode cX7_bit 5 = .ok (.iload_n 1, 1) := by decide +kernel
theorem dX7_bit_6 : decode cX7_bit 6 = .ok (.invokevirtual 172, 3) := by decide +kernel
theorem dX7_bit_9 : decode cX7_bit 9 = .ok (.aload_n 0, 1) := by decide +kernel
theorem dX7_bit_10 : decode cX7_bit 10 = .ok (.iload_n 2, 1) := by decide +kernel
theorem dX7_bit_11 : decode cX7_bit 11 = .ok (.invokevirtual 175, 3) := by decide +kernel
theorem dX7_bit_14 : decode cX7_bit 14 = .ok (.aload_n 0, 1) := by decide +kernel
theorem dX7_bit_15 : decode cX7_bit 15 = .ok (.getfield 26, 3) := by decide +kernel
theorem dX7_bit_18 : decode cX7_bit 18 = .ok (.iload_n 1, 1) := by decide +kernel
theorem dX7_bit_19 : decode cX7_bit 19 = .ok (.iload_n 2, 1) := by decide +kernel
theorem dX7_bit_20 : decode cX7_bit 20 = .ok (.invokevirtual 178, 3) := by decide +kernel
theorem dX7_bit_23 : decode cX7_bit 23 = .ok (.ireturn, 1) := by decide +kernel
theorem dX7_ones_0 : decode cX7_ones 0 = .ok (.aload_n 0, 1) := by decide +kernel
theorem dX7_ones_1 : decode cX7_ones 1 = .ok (.invokevirtual 141, 3) := by decide +kernel
theorem dX7_ones_4 : decode cX7_ones 4 = .ok (.aload_n 0, 1) := by decide +kernel
theorem dX7_ones_5 : decode cX7_ones 5 = .ok (.iload_n 1, 1) := by decide +kernel
theorem dX7_ones_6 : decode cX7_ones 6 = .ok (.invokevirtual 172, 3) := by decide +kernel
theorem dX7_ones_9 : decode cX7_ones 9 = .ok (.aload_n 0, 1) := by decide +kernel
theorem dX7_ones_10 : decode cX7_ones 10 = .ok (.iload_n 2, 1) := by decide +kernel
theorem dX7_ones_11 : decode cX7_ones 11 = .ok (.iload_n 3, 1) := by decide +kernel
theorem dX7_ones_12 : decode cX7_ones 12 = .ok (.invokevirtual 182, 3) := by decide +kernel
theorem dX7_ones_15 : decode cX7_ones 15 = .ok (.aload_n 0, 1) := by decide +kernel
theorem dX7_ones_16 : decode cX7_ones 16 = .ok (.getfield 26, 3) := by decide +kernel
theorem dX7_ones_19 : decode cX7_ones 19 = .ok (.iload_n 1, 1) := by decide +kernel
theorem dX7_ones_20 : decode cX7_ones 20 = .ok (.iload_n 2, 1) := by decide +kernel
theorem dX7_ones_21 : decode cX7_ones 21 = .ok (.iload_n 3, 1) := by decide +kernel
theorem dX7_ones_22 : decode cX7_ones 22 = .ok (.invokevirtual 185, 3) := by decide +kernel
theorem dX7_ones_25 : decode cX7_ones 25 = .ok (.ireturn, 1) := by decide +kernel
theorem dX7_next_0 : decode cX7_next 0 = .ok (.aload_n 0, 1) := by decide +kernel
theorem dX7_next_1 : decode cX7_next 1 = .ok (.invokevirtual 141, 3) := by decide +kernel
theorem dX7_next_4 : decode cX7_next 4 = .ok (.aload_n 0, 1) := by decide +kernel
theorem dX7_next_5 : decode cX7_next 5 = .ok (.iload_n 1, 1) := by decide +kernel
theorem dX7_next_6 : decode cX7_next 6 = .ok (.invokevirtual 172, 3) := by decide +kernel
theorem dX7_next_9 : decode cX7_next 9 = .ok (.aload_n 0, 1) := by decide +kernel
theorem dX7_next_10 : decode cX7_next 10 = .ok (.iload_n 2, 1) := by decide +kernel
theorem dX7_next_11 : decode cX7_next 11 = .ok (.invokevirtual 175, 3) := by decide +kernel
theorem dX7_next_14 : decode cX7_next 14 = .ok (.aload_n 0, 1) := by decide +kernel
theorem dX7_next_15 : decode cX7_next 15 = .ok (.iload_n 3, 1) := by decide +kernel
theorem dX7_next_16 : decode cX7_next 16 = .ok (.invokevirtual 189, 3) := by decide +kernel
theorem dX7_next_19 : decode cX7_next 19 = .ok (.iload_n 2, 1) := by decide +kernel
theorem dX7_next_20 : decode cX7_next 20 = .ok (.istore 4, 2) := by decide +kernel
theorem dX7_next_22 : decode cX7_next 22 = .ok (.iload 4, 2) := by decide +kernel
theorem dX7_next_24 : decode cX7_next 24 = .ok (.bipush 8, 2) := by decide +kernel
theorem dX7_next_26 : decode cX7_next 26 = .ok (.aload_n 0, 1) := by decide +kernel
theorem dX7_next_27 : decode cX7_next 27 = .ok (.getfield 121, 3) := by decide +kernel
theorem dX7_next_30 : decode cX7_next 30 = .ok (.invokestatic 164, 3) := by decide +kernel
theorem dX7_next_33 : decode cX7_next 33 = .ok (.imul, 1) := by decide +kernel
theorem dX7_next_34 : decode cX7_next 34 = .ok (.if_icmp .ge 26, 3) := by decide +kernel
theorem dX7_next_37 : decode cX7_next 37 = .ok (.aload_n 0, 1) := by decide +kernel
theorem dX7_next_38 : decode cX7_next 38 = .ok (.getfield 26, 3) := by decide +kernel
theorem dX7_next_41 : decode cX7_next 41 = .ok (.iload_n 1, 1) := by decide +kernel
theorem dX7_next_42 : decode cX7_next 42 = .ok (.iload 4, 2) := by decide +kernel
theorem dX7_next_44 : decode cX7_next 44 = .ok (.invokevirtual 178, 3) := by decide +kernel
theorem dX7_next_47 : decode cX7_next 47 = .ok (.iload_n 3, 1) := by decide +kernel
theorem dX7_next_48 : decode cX7_next 48 = .ok (.if_icmp .ne 6, 3) := by decide +kernel
theorem dX7_next_51 : decode cX7_next 51 = .ok (.iload 4, 2) := by decide +kernel
theorem dX7_next_53 : decode cX7_next 53 = .ok (.ireturn, 1) := by decide +kernel
theorem dX7_next_54 : decode cX7_next 54 = .ok (.iinc 4 1, 3) := by decide +kernel
theorem dX7_next_57 : decode cX7_next 57 = .ok (.goto (-35), 3) := by decide +kernel
theorem dX7_next_60 : decode cX7_next 60 = .ok (.iconst (-1), 1) := by decide +kernel
theorem dX7_next_61 : decode cX7_next 61 = .ok (.ireturn, 1) := by decide +kernel
theorem dX7_select_0 : decode cX7_select 0 = .ok (.aload_n 0, 1) := by decide +kernel
theorem dX7_select_1 : decode cX7_select 1 = .ok (.invokevirtual 141, 3) := by decide +kernel
theorem dX7_select_4 : decode cX7_select 4 = .ok (.aload_n 0, 1) := by decide +kernel
theorem dX7_select_5 : decode cX7_select 5 = .ok (.iload_n 1, 1) := by decide +kernel
theorem dX7_select_6 : decode cX7_select 6 = .ok (.invokevirtual 172, 3) := by decide +kernel
theorem dX7_select_9 : decode cX7_select 9 = .ok (.iload_n 2, 1) := by decide +kernel
theorem dX7_select_10 : decode cX7_select 10 = .ok (.ifCond .ge 13, 3) := by decide +kernel
theorem dX7_select_13 : decode cX7_select 13 = .ok (.new 192, 3) := by decide +kernel
theorem dX7_select_16 : decode cX7_select 16 = .ok (.dup, 1) := by decide +kernel
theorem dX7_select_17 : decode cX7_select 17 = .ok (.ldc 194, 2) := by decide +kernel
theorem dX7_select_19 : decode cX7_select 19 = .ok (.invokespecial 196, 3) := by decide +kernel
theorem dX7_select_22 : decode cX7_select 22 = .ok (.athrow, 1) := by decide +kernel
theorem dX7_select_23 : decode cX7_select 23 = .ok (.iload_n 2, 1) := by decide +kernel
theorem dX7_select_24 : decode cX7_select 24 = .ok (.istore_n 3, 1) := by decide +kernel
theorem dX7_select_25 : decode cX7_select 25 = .ok (.iconst 0, 1) := by decide +kernel
theorem dX7_select_26 : decode cX7_select 26 = .ok (.istore 4, 2) := by decide +kernel
theorem dX7_select_28 : decode cX7_select 28 = .ok (.iload 4, 2) := by decide +kernel
theorem dX7_select_30 : decode cX7_select 30 = .ok (.bipush 8, 2) := by decide +kernel
theorem dX7_select_32 : decode cX7_select 32 = .ok (.aload_n 0, 1) := by decide +kernel
theorem dX7_select_33 : decode cX7_select 33 = .ok (.getfield 121, 3) := by decide +kernel
theorem dX7_select_36 : decode cX7_select 36 = .ok (.invokestatic 164, 3) := by decide +kernel
theorem dX7_select_39 : decode cX7_select 39 = .ok (.imul, 1) := by decide +kernel
theorem dX7_select_40 : decode cX7_select 40 = .ok (.if_icmp .ge 33, 3) := by decide +kernel
theorem dX7_select_43 : decode cX7_select 43 = .ok (.aload_n 0, 1) := by decide +kernel
theorem dX7_select_44 : decode cX7_select 44 = .ok (.getfield 26, 3) := by decide +kernel
theorem dX7_select_47 : decode cX7_select 47 = .ok (.iload_n 1, 1) := by decide +kernel
theorem dX7_select_48 : decode cX7_select 48 = .ok (.iload 4, 2) := by decide +kernel
theorem dX7_select_50 : decode cX7_select 50 = .ok (.invokevirtual 178, 3) := by decide +kernel
theorem dX7_select_53 : decode cX7_select 53 = .ok (.iconst 1, 1) := by decide +kernel
theorem dX7_select_54 : decode cX7_select 54 = .ok (.if_icmp .ne 13, 3) := by decide +kernel
theorem dX7_select_57 : decode cX7_select 57 = .ok (.iload_n 3, 1) := by decide +kernel
theorem dX7_select_58 : decode cX7_select 58 = .ok (.ifCond .ne 6, 3) := by decide +kernel
theorem dX7_select_61 : decode cX7_select 61 = .ok (.iload 4, 2) := by decide +kernel
theorem dX7_select_63 : decode cX7_select 63 = .ok (.ireturn, 1) := by decide +kernel
theorem dX7_select_64 : decode cX7_select 64 = .ok (.iinc 3 (-1), 3) := by decide +kernel
theorem dX7_select_67 : decode cX7_select 67 = .ok (.iinc 4 1, 3) := by decide +kernel
theorem dX7_select_70 : decode cX7_select 70 = .ok (.goto (-42), 3) := by decide +kernel
theorem dX7_select_73 : decode cX7_select 73 = .ok (.iconst (-1), 1) := by decide +kernel
theorem dX7_select_74 : decode cX7_select 74 = .ok (.ireturn, 1) := by decide +kernel
theorem dX7_runs_0 : decode cX7_runs 0 = .ok (.aload_n 0, 1) := by decide +kernel
theorem dX7_runs_1 : decode cX7_runs 1 = .ok (.invokevirtual 141, 3) := by decide +kernel
theorem dX7_runs_4 : decode cX7_runs 4 = .ok (.aload_n 0, 1) := by decide +kernel
theorem dX7_runs_5 : decode cX7_runs 5 = .ok (.iload_n 1, 1) := by decide +kernel
theorem dX7_runs_6 : decode cX7_runs 6 = .ok (.invokevirtual 172, 3) := by decide +kernel
theorem dX7_runs_9 : decode cX7_runs 9 = .ok (.aload_n 0, 1) := by decide +kernel
theorem dX7_runs_10 : decode cX7_runs 10 = .ok (.iload_n 2, 1) := by decide +kernel
theorem dX7_runs_11 : decode cX7_runs 11 = .ok (.invokevirtual 189, 3) := by decide +kernel
theorem dX7_runs_14 : decode cX7_runs 14 = .ok (.iconst 0, 1) := by decide +kernel
theorem dX7_runs_15 : decode cX7_runs 15 = .ok (.istore_n 3, 1) := by decide +kernel
theorem dX7_runs_16 : decode cX7_runs 16 = .ok (.iconst 1, 1) := by decide +kernel
theorem dX7_runs_17 : decode cX7_runs 17 = .ok (.iload_n 2, 1) := by decide +kernel
theorem dX7_runs_18 : decode cX7_runs 18 = .ok (.isub, 1) := by decide +kernel
theorem dX7_runs_19 : decode cX7_runs 19 = .ok (.istore 4, 2) := by decide +kernel
theorem dX7_runs_21 : decode cX7_runs 21 = .ok (.iconst 0, 1) := by decide +kernel
theorem dX7_runs_22 : decode cX7_runs 22 = .ok (.istore 5, 2) := by decide +kernel
theorem dX7_runs_24 : decode cX7_runs 24 = .ok (.iload 5, 2) := by decide +kernel
theorem dX7_runs_26 : decode cX7_runs 26 = .ok (.bipush 8, 2) := by decide +kernel
theorem dX7_runs_28 : decode cX7_runs 28 = .ok (.aload_n 0, 1) := by decide +kernel
theorem dX7_runs_29 : decode cX7_runs 29 = .ok (.getfield 121, 3) := by decide +kernel
theorem dX7_runs_32 : decode cX7_runs 32 = .ok (.invokestatic 164, 3) := by decide +kernel
theorem dX7_runs_35 : decode cX7_runs 35 = .ok (.imul, 1) := by decide +kernel
theorem dX7_runs_36 : decode cX7_runs 36 = .ok (.if_icmp .ge 40, 3) := by decide +kernel
theorem dX7_runs_39 : decode cX7_runs 39 = .ok (.aload_n 0, 1) := by decide +kernel
theorem dX7_runs_40 : decode cX7_runs 40 = .ok (.getfield 26, 3) := by decide +kernel
theorem dX7_runs_43 : decode cX7_runs 43 = .ok (.iload_n 1, 1) := by decide +kernel
theorem dX7_runs_44 : decode cX7_runs 44 = .ok (.iload 5, 2) := by decide +kernel
theorem dX7_runs_46 : decode cX7_runs 46 = .ok (.invokevirtual 178, 3) := by decide +kernel
theorem dX7_runs_49 : decode cX7_runs 49 = .ok (.istore 6, 2) := by decide +kernel
theorem dX7_runs_51 : decode cX7_runs 51 = .ok (.iload 6, 2) := by decide +kernel
theorem dX7_runs_53 : decode cX7_runs 53 = .ok (.iload_n 2, 1) := by decide +kernel
theorem dX7_runs_54 : decode cX7_runs 54 = .ok (.if_icmp .ne 12, 3) := by decide +kernel
theorem dX7_runs_57 : decode cX7_runs 57 = .ok (.iload 4, 2) := by decide +kernel
theorem dX7_runs_59 : decode cX7_runs 59 = .ok (.iload_n 2, 1) := by decide +kernel
theorem dX7_runs_60 : decode cX7_runs 60 = .ok (.if_icmp .eq 6, 3) := by decide +kernel
theorem dX7_runs_63 : decode cX7_runs 63 = .ok (.iinc 3 1, 3) := by decide +kernel
theorem dX7_runs_66 : decode cX7_runs 66 = .ok (.iload 6, 2) := by decide +kernel
theorem dX7_runs_68 : decode cX7_runs 68 = .ok (.istore 4, 2) := by decide +kernel
theorem dX7_runs_70 : decode cX7_runs 70 = .ok (.iinc 5 1, 3) := by decide +kernel
theorem dX7_runs_73 : decode cX7_runs 73 = .ok (.goto (-49), 3) := by decide +kernel
theorem dX7_runs_76 : decode cX7_runs 76 = .ok (.iload_n 3, 1) := by decide +kernel
theorem dX7_runs_77 : decode cX7_runs 77 = .ok (.ireturn, 1) := by decide +kernel
theorem dX7_longestRun_0 : decode cX7_longestRun 0 = .ok (.aload_n 0, 1) := by decide +kernel
theorem dX7_longestRun_1 : decode cX7_longestRun 1 = .ok (.invokevirtual 141, 3) := by decide +kernel
theorem dX7_longestRun_4 : decode cX7_longestRun 4 = .ok (.aload_n 0, 1) := by decide +kernel
theorem dX7_longestRun_5 : decode cX7_longestRun 5 = .ok (.iload_n 1, 1) := by decide +kernel
theorem dX7_longestRun_6 : decode cX7_longestRun 6 = .ok (.invokevirtual 172, 3) := by decide +kernel
theorem dX7_longestRun_9 : decode cX7_longestRun 9 = .ok (.aload_n 0, 1) := by decide +kernel
theorem dX7_longestRun_10 : decode cX7_longestRun 10 = .ok (.iload_n 2, 1) := by decide +kernel
theorem dX7_longestRun_11 : decode cX7_longestRun 11 = .ok (.invokevirtual 189, 3) := by decide +kernel
theorem dX7_longestRun_14 : decode cX7_longestRun 14 = .ok (.iconst 0, 1) := by decide +kernel
theorem dX7_longestRun_15 : decode cX7_longestRun 15 = .ok (.istore_n 3, 1) := by decide +kernel
theorem dX7_longestRun_16 : decode cX7_longestRun 16 = .ok (.iconst 0, 1) := by decide +kernel
theorem dX7_longestRun_17 : decode cX7_longestRun 17 = .ok (.istore 4, 2) := by decide +kernel
theorem dX7_longestRun_19 : decode cX7_longestRun 19 = .ok (.iconst 0, 1) := by decide +kernel
theorem dX7_longestRun_20 : decode cX7_longestRun 20 = .ok (.istore 5, 2) := by decide +kernel
theorem dX7_longestRun_22 : decode cX7_longestRun 22 = .ok (.iload 5, 2) := by decide +kernel
theorem dX7_longestRun_24 : decode cX7_longestRun 24 = .ok (.bipush 8, 2) := by decide +kernel
theorem dX7_longestRun_26 : decode cX7_longestRun 26 = .ok (.aload_n 0, 1) := by decide +kernel
theorem dX7_longestRun_27 : decode cX7_longestRun 27 = .ok (.getfield 121, 3) := by decide +kernel
theorem dX7_longestRun_30 : decode cX7_longestRun 30 = .ok (.invokestatic 164, 3) := by decide +kernel
theorem dX7_longestRun_33 : decode cX7_longestRun 33 = .ok (.imul, 1) := by decide +kernel
theorem dX7_longestRun_34 : decode cX7_longestRun 34 = .ok (.if_icmp .ge 40, 3) := by decide +kernel
theorem dX7_longestRun_37 : decode cX7_longestRun 37 = .ok (.aload_n 0, 1) := by decide +kernel
theorem dX7_longestRun_38 : decode cX7_longestRun 38 = .ok (.getfield 26, 3) := by decide +kernel
theorem dX7_longestRun_41 : decode cX7_longestRun 41 = .ok (.iload_n 1, 1) := by decide +kernel
theorem dX7_longestRun_42 : decode cX7_longestRun 42 = .ok (.iload 5, 2) := by decide +kernel
theorem dX7_longestRun_44 : decode cX7_longestRun 44 = .ok (.invokevirtual 178, 3) := by decide +kernel
theorem dX7_longestRun_47 : decode cX7_longestRun 47 = .ok (.iload_n 2, 1) := by decide +kernel
theorem dX7_longestRun_48 : decode cX7_longestRun 48 = .ok (.if_icmp .ne 10, 3) := by decide +kernel
theorem dX7_longestRun_51 : decode cX7_longestRun 51 = .ok (.iload 4, 2) := by decide +kernel
theorem dX7_longestRun_53 : decode cX7_longestRun 53 = .ok (.iconst 1, 1) := by decide +kernel
theorem dX7_longestRun_54 : decode cX7_longestRun 54 = .ok (.iadd, 1) := by decide +kernel
theorem dX7_longestRun_55 : decode cX7_longestRun 55 = .ok (.goto 4, 3) := by decide +kernel
theorem dX7_longestRun_58 : decode cX7_longestRun 58 = .ok (.iconst 0, 1) := by decide +kernel
theorem dX7_longestRun_59 : decode cX7_longestRun 59 = .ok (.istore 4, 2) := by decide +kernel
theorem dX7_longestRun_61 : decode cX7_longestRun 61 = .ok (.iload_n 3, 1) := by decide +kernel
theorem dX7_longestRun_62 : decode cX7_longestRun 62 = .ok (.iload 4, 2) := by decide +kernel
theorem dX7_longestRun_64 : decode cX7_longestRun 64 = .ok (.invokestatic 197, 3) := by decide +kernel
theorem dX7_longestRun_67 : decode cX7_longestRun 67 = .ok (.istore_n 3, 1) := by decide +kernel
theorem dX7_longestRun_68 : decode cX7_longestRun 68 = .ok (.iinc 5 1, 3) := by decide +kernel
theorem dX7_longestRun_71 : decode cX7_longestRun 71 = .ok (.goto (-49), 3) := by decide +kernel
theorem dX7_longestRun_74 : decode cX7_longestRun 74 = .ok (.iload_n 3, 1) := by decide +kernel
theorem dX7_longestRun_75 : decode cX7_longestRun 75 = .ok (.ireturn, 1) := by decide +kernel
theorem dX7_bytes_0 : decode cX7_bytes 0 = .ok (.aload_n 0, 1) := by decide +kernel
theorem dX7_bytes_1 : decode cX7_bytes 1 = .ok (.invokevirtual 141, 3) := by decide +kernel
theorem dX7_bytes_4 : decode cX7_bytes 4 = .ok (.aload_n 0, 1) := by decide +kernel
theorem dX7_bytes_5 : decode cX7_bytes 5 = .ok (.iload_n 1, 1) := by decide +kernel
theorem dX7_bytes_6 : decode cX7_bytes 6 = .ok (.invokevirtual 172, 3) := by decide +kernel
theorem dX7_bytes_9 : decode cX7_bytes 9 = .ok (.aload_n 0, 1) := by decide +kernel
theorem dX7_bytes_10 : decode cX7_bytes 10 = .ok (.iload_n 1, 1) := by decide +kernel
theorem dX7_bytes_11 : decode cX7_bytes 11 = .ok (.invokevirtual 202, 3) := by decide +kernel
theorem dX7_bytes_14 : decode cX7_bytes 14 = .ok (.ireturn, 1) := by decide +kernel
theorem dX7_byteAt_0 : decode cX7_byteAt 0 = .ok (.aload_n 0, 1) := by decide +kernel
theorem dX7_byteAt_1 : decode cX7_byteAt 1 = .ok (.invokevirtual 141, 3) := by decide +kernel
theorem dX7_byteAt_4 : decode cX7_byteAt 4 = .ok (.aload_n 0, 1) := by decide +kernel
theorem dX7_byteAt_5 : decode cX7_byteAt 5 = .ok (.iload_n 1, 1) := by decide +kernel
theorem dX7_byteAt_6 : decode cX7_byteAt 6 = .ok (.invokevirtual 172, 3) := by decide +kernel
theorem dX7_byteAt_9 : decode cX7_byteAt 9 = .ok (.aload_n 0, 1) := by decide +kernel
theorem dX7_byteAt_10 : decode cX7_byteAt 10 = .ok (.iload_n 1, 1) := by decide +kernel
theorem dX7_byteAt_11 : decode cX7_byteAt 11 = .ok (.iload_n 2, 1) := by decide +kernel
theorem dX7_byteAt_12 : decode cX7_byteAt 12 = .ok (.invokevirtual 205, 3) := by decide +kernel
theorem dX7_byteAt_15 : decode cX7_byteAt 15 = .ok (.aload_n 0, 1) := by decide +kernel
theorem dX7_byteAt_16 : decode cX7_byteAt 16 = .ok (.getfield 37, 3) := by decide +kernel
theorem dX7_byteAt_19 : decode cX7_byteAt 19 = .ok (.iload_n 2, 1) := by decide +kernel
theorem dX7_byteAt_20 : decode cX7_byteAt 20 = .ok (.invokevirtual 208, 3) := by decide +kernel
theorem dX7_byteAt_23 : decode cX7_byteAt 23 = .ok (.ireturn, 1) := by decide +kernel
theorem dX7_parts_0 : decode cX7_parts 0 = .ok (.aload_n 0, 1) := by decide +kernel
theorem dX7_parts_1 : decode cX7_parts 1 = .ok (.invokevirtual 141, 3) := by decide +kernel
theorem dX7_parts_4 : decode cX7_parts 4 = .ok (.aload_n 0, 1) := by decide +kernel
theorem dX7_parts_5 : decode cX7_parts 5 = .ok (.iload_n 1, 1) := by decide +kernel
theorem dX7_parts_6 : decode cX7_parts 6 = .ok (.invokevirtual 172, 3) := by decide +kernel
theorem dX7_parts_9 : decode cX7_parts 9 = .ok (.iload_n 2, 1) := by decide +kernel
theorem dX7_parts_10 : decode cX7_parts 10 = .ok (.ifCond .lt 8, 3) := by decide +kernel
theorem dX7_parts_13 : decode cX7_parts 13 = .ok (.iload_n 2, 1) := by decide +kernel
theorem dX7_parts_14 : decode cX7_parts 14 = .ok (.iconst 5, 1) := by decide +kernel
theorem dX7_parts_15 : decode cX7_parts 15 = .ok (.if_icmp .le 13, 3) := by decide +kernel
theorem dX7_parts_18 : decode cX7_parts 18 = .ok (.new 101, 3) := by decide +kernel
theorem dX7_parts_21 : decode cX7_parts 21 = .ok (.dup, 1) := by decide +kernel
theorem dX7_parts_22 : decode cX7_parts 22 = .ok (.ldc 211, 2) := by decide +kernel
theorem dX7_parts_24 : decode cX7_parts 24 = .ok (.invokespecial 105, 3) := by decide +kernel
theorem dX7_parts_27 : decode cX7_parts 27 = .ok (.athrow, 1) := by decide +kernel
theorem dX7_parts_28 : decode cX7_parts 28 = .ok (.aload_n 0, 1) := by decide +kernel
theorem dX7_parts_29 : decode cX7_parts 29 = .ok (.getfield 37, 3) := by decide +kernel
theorem dX7_parts_32 : decode cX7_parts 32 = .ok (.iload_n 1, 1) := by decide +kernel
theorem dX7_parts_33 : decode cX7_parts 33 = .ok (.aload_n 0, 1) := by decide +kernel
theorem dX7_parts_34 : decode cX7_parts 34 = .ok (.getfield 121, 3) := by decide +kernel
theorem dX7_parts_37 : decode cX7_parts 37 = .ok (.invokevirtual 213, 3) := by decide +kernel
theorem dX7_parts_40 : decode cX7_parts 40 = .ok (.iload_n 2, 1) := by decide +kernel
theorem dX7_parts_41 : decode cX7_parts 41 = .ok (.iconst 1, 1) := by decide +kernel
theorem dX7_parts_42 : decode cX7_parts 42 = .ok (.if_icmp .ne 11, 3) := by decide +kernel
theorem dX7_parts_45 : decode cX7_parts 45 = .ok (.aload_n 0, 1) := by decide +kernel
theorem dX7_parts_46 : decode cX7_parts 46 = .ok (.getfield 37, 3) := by decide +kernel
theorem dX7_parts_49 : decode cX7_parts 49 = .ok (.invokevirtual 216, 3) := by decide +kernel
theorem dX7_parts_52 : decode cX7_parts 52 = .ok (.ireturn, 1) := by decide +kernel
theorem dX7_parts_53 : decode cX7_parts 53 = .ok (.aload_n 0, 1) := by decide +kernel
theorem dX7_parts_54 : decode cX7_parts 54 = .ok (.getfield 37, 3) := by decide +kernel
theorem dX7_parts_57 : decode cX7_parts 57 = .ok (.invokevirtual 219, 3) := by decide +kernel
theorem dX7_parts_60 : decode cX7_parts 60 = .ok (.aload_n 0, 1) := by decide +kernel
theorem dX7_parts_61 : decode cX7_parts 61 = .ok (.getfield 37, 3) := by decide +kernel
theorem dX7_parts_64 : decode cX7_parts 64 = .ok (.invokevirtual 216, 3) := by decide +kernel
theorem dX7_parts_67 : decode cX7_parts 67 = .ok (.isub, 1) := by decide +kernel
theorem dX7_parts_68 : decode cX7_parts 68 = .ok (.istore_n 3, 1) := by decide +kernel
theorem dX7_parts_69 : decode cX7_parts 69 = .ok (.iload_n 2, 1) := by decide +kernel
theorem dX7_parts_70 : decode cX7_parts 70 = .ok (.ifCond .ne 7, 3) := by decide +kernel
theorem dX7_parts_73 : decode cX7_parts 73 = .ok (.iload_n 3, 1) := by decide +kernel
theorem dX7_parts_74 : decode cX7_parts 74 = .ok (.goto 13, 3) := by decide +kernel
theorem dX7_parts_77 : decode cX7_parts 77 = .ok (.aload_n 0, 1) := by decide +kernel
theorem dX7_parts_78 : decode cX7_parts 78 = .ok (.getfield 37, 3) := by decide +kernel
theorem dX7_parts_81 : decode cX7_parts 81 = .ok (.iload_n 2, 1) := by decide +kernel
theorem dX7_parts_82 : decode cX7_parts 82 = .ok (.iconst 2, 1) := by decide +kernel
theorem dX7_parts_83 : decode cX7_parts 83 = .ok (.isub, 1) := by decide +kernel
theorem dX7_parts_84 : decode cX7_parts 84 = .ok (.invokevirtual 222, 3) := by decide +kernel
theorem dX7_parts_87 : decode cX7_parts 87 = .ok (.ireturn, 1) := by decide +kernel
theorem dX7_block_0 : decode cX7_block 0 = .ok (.aload_n 0, 1) := by decide +kernel
theorem dX7_block_1 : decode cX7_block 1 = .ok (.invokevirtual 141, 3) := by decide +kernel
theorem dX7_block_4 : decode cX7_block 4 = .ok (.aload_n 0, 1) := by decide +kernel
theorem dX7_block_5 : decode cX7_block 5 = .ok (.iload_n 1, 1) := by decide +kernel
theorem dX7_block_6 : decode cX7_block 6 = .ok (.invokevirtual 172, 3) := by decide +kernel
theorem dX7_block_9 : decode cX7_block 9 = .ok (.aload_n 0, 1) := by decide +kernel
theorem dX7_block_10 : decode cX7_block 10 = .ok (.iload_n 2, 1) := by decide +kernel
theorem dX7_block_11 : decode cX7_block 11 = .ok (.iload_n 3, 1) := by decide +kernel
theorem dX7_block_12 : decode cX7_block 12 = .ok (.invokevirtual 225, 3) := by decide +kernel
theorem dX7_block_15 : decode cX7_block 15 = .ok (.aload_n 0, 1) := by decide +kernel
theorem dX7_block_16 : decode cX7_block 16 = .ok (.getfield 37, 3) := by decide +kernel
theorem dX7_block_19 : decode cX7_block 19 = .ok (.iload_n 1, 1) := by decide +kernel
theorem dX7_block_20 : decode cX7_block 20 = .ok (.aload_n 0, 1) := by decide +kernel
theorem dX7_block_21 : decode cX7_block 21 = .ok (.getfield 121, 3) := by decide +kernel
theorem dX7_block_24 : decode cX7_block 24 = .ok (.invokevirtual 213, 3) := by decide +kernel
theorem dX7_block_27 : decode cX7_block 27 = .ok (.iload 4, 2) := by decide +kernel
theorem dX7_block_29 : decode cX7_block 29 = .ok (.tableswitch 111 0 3 #[31, 41, 75, 85], 31) := by decide +kernel
theorem dX7_block_60 : decode cX7_block 60 = .ok (.aload_n 0, 1) := by decide +kernel
theorem dX7_block_61 : decode cX7_block 61 = .ok (.getfield 37, 3) := by decide +kernel
theorem dX7_block_64 : decode cX7_block 64 = .ok (.iload_n 2, 1) := by decide +kernel
theorem dX7_block_65 : decode cX7_block 65 = .ok (.iload_n 3, 1) := by decide +kernel
theorem dX7_block_66 : decode cX7_block 66 = .ok (.invokevirtual 228, 3) := by decide +kernel
theorem dX7_block_69 : decode cX7_block 69 = .ok (.ireturn, 1) := by decide +kernel
theorem dX7_block_70 : decode cX7_block 70 = .ok (.bipush 8, 2) := by decide +kernel
theorem dX7_block_72 : decode cX7_block 72 = .ok (.iload_n 2, 1) := by decide +kernel
theorem dX7_block_73 : decode cX7_block 73 = .ok (.invokestatic 164, 3) := by decide +kernel
theorem dX7_block_76 : decode cX7_block 76 = .ok (.imul, 1) := by decide +kernel
theorem dX7_block_77 : decode cX7_block 77 = .ok (.iload_n 3, 1) := by decide +kernel
theorem dX7_block_78 : decode cX7_block 78 = .ok (.imul, 1) := by decide +kernel
theorem dX7_block_79 : decode cX7_block 79 = .ok (.istore 5, 2) := by decide +kernel
theorem dX7_block_81 : decode cX7_block 81 = .ok (.aload_n 0, 1) := by decide +kernel
theorem dX7_block_82 : decode cX7_block 82 = .ok (.getfield 26, 3) := by decide +kernel
theorem dX7_block_85 : decode cX7_block 85 = .ok (.iload_n 1, 1) := by decide +kernel
theorem dX7_block_86 : decode cX7_block 86 = .ok (.iload 5, 2) := by decide +kernel
theorem dX7_block_88 : decode cX7_block 88 = .ok (.iload 5, 2) := by decide +kernel
theorem dX7_block_90 : decode cX7_block 90 = .ok (.bipush 8, 2) := by decide +kernel
theorem dX7_block_92 : decode cX7_block 92 = .ok (.iload_n 2, 1) := by decide +kernel
theorem dX7_block_93 : decode cX7_block 93 = .ok (.invokestatic 164, 3) := by decide +kernel
theorem dX7_block_96 : decode cX7_block 96 = .ok (.imul, 1) := by decide +kernel
theorem dX7_block_97 : decode cX7_block 97 = .ok (.iadd, 1) := by decide +kernel
theorem dX7_block_98 : decode cX7_block 98 = .ok (.iconst 1, 1) := by decide +kernel
theorem dX7_block_99 : decode cX7_block 99 = .ok (.isub, 1) := by decide +kernel
theorem dX7_block_100 : decode cX7_block 100 = .ok (.invokevirtual 185, 3) := by decide +kernel
theorem dX7_block_103 : decode cX7_block 103 = .ok (.ireturn, 1) := by decide +kernel
theorem dX7_block_104 : decode cX7_block 104 = .ok (.aload_n 0, 1) := by decide +kernel
theorem dX7_block_105 : decode cX7_block 105 = .ok (.getfield 37, 3) := by decide +kernel
theorem dX7_block_108 : decode cX7_block 108 = .ok (.iload_n 2, 1) := by decide +kernel
theorem dX7_block_109 : decode cX7_block 109 = .ok (.iload_n 3, 1) := by decide +kernel
theorem dX7_block_110 : decode cX7_block 110 = .ok (.invokevirtual 231, 3) := by decide +kernel
theorem dX7_block_113 : decode cX7_block 113 = .ok (.ireturn, 1) := by decide +kernel
theorem dX7_block_114 : decode cX7_block 114 = .ok (.aload_n 0, 1) := by decide +kernel
theorem dX7_block_115 : decode cX7_block 115 = .ok (.getfield 37, 3) := by decide +kernel
theorem dX7_block_118 : decode cX7_block 118 = .ok (.iload_n 2, 1) := by decide +kernel
theorem dX7_block_119 : decode cX7_block 119 = .ok (.iload_n 3, 1) := by decide +kernel
theorem dX7_block_120 : decode cX7_block 120 = .ok (.invokevirtual 234, 3) := by decide +kernel
theorem dX7_block_123 : decode cX7_block 123 = .ok (.ifCond .eq 15, 3) := by decide +kernel
theorem dX7_block_126 : decode cX7_block 126 = .ok (.aload_n 0, 1) := by decide +kernel
theorem dX7_block_127 : decode cX7_block 127 = .ok (.getfield 37, 3) := by decide +kernel
theorem dX7_block_130 : decode cX7_block 130 = .ok (.iload_n 2, 1) := by decide +kernel
theorem dX7_block_131 : decode cX7_block 131 = .ok (.iload_n 3, 1) := by decide +kernel
theorem dX7_block_132 : decode cX7_block 132 = .ok (.invokevirtual 238, 3) := by decide +kernel
theorem dX7_block_135 : decode cX7_block 135 = .ok (.goto 4, 3) := by decide +kernel
theorem dX7_block_138 : decode cX7_block 138 = .ok (.iconst (-1), 1) := by decide +kernel
theorem dX7_block_139 : decode cX7_block 139 = .ok (.ireturn, 1) := by decide +kernel
theorem dX7_block_140 : decode cX7_block 140 = .ok (.new 101, 3) := by decide +kernel
theorem dX7_block_143 : decode cX7_block 143 = .ok (.dup, 1) := by decide +kernel
theorem dX7_block_144 : decode cX7_block 144 = .ok (.ldc 241, 2) := by decide +kernel
theorem dX7_block_146 : decode cX7_block 146 = .ok (.invokespecial 105, 3) := by decide +kernel
theorem dX7_block_149 : decode cX7_block 149 = .ok (.athrow, 1) := by decide +kernel
theorem dX7_teller_0 : decode cX7_teller 0 = .ok (.aload_n 0, 1) := by decide +kernel
theorem dX7_teller_1 : decode cX7_teller 1 = .ok (.invokevirtual 141, 3) := by decide +kernel
theorem dX7_teller_4 : decode cX7_teller 4 = .ok (.aload_n 0, 1) := by decide +kernel
theorem dX7_teller_5 : decode cX7_teller 5 = .ok (.iload_n 1, 1) := by decide +kernel
theorem dX7_teller_6 : decode cX7_teller 6 = .ok (.invokevirtual 172, 3) := by decide +kernel
theorem dX7_teller_9 : decode cX7_teller 9 = .ok (.aload_n 0, 1) := by decide +kernel
theorem dX7_teller_10 : decode cX7_teller 10 = .ok (.iload_n 2, 1) := by decide +kernel
theorem dX7_teller_11 : decode cX7_teller 11 = .ok (.invokevirtual 175, 3) := by decide +kernel
theorem dX7_teller_14 : decode cX7_teller 14 = .ok (.aload_n 0, 1) := by decide +kernel
theorem dX7_teller_15 : decode cX7_teller 15 = .ok (.getfield 37, 3) := by decide +kernel
theorem dX7_teller_18 : decode cX7_teller 18 = .ok (.iload_n 1, 1) := by decide +kernel
theorem dX7_teller_19 : decode cX7_teller 19 = .ok (.aload_n 0, 1) := by decide +kernel
theorem dX7_teller_20 : decode cX7_teller 20 = .ok (.getfield 121, 3) := by decide +kernel
theorem dX7_teller_23 : decode cX7_teller 23 = .ok (.invokevirtual 213, 3) := by decide +kernel
theorem dX7_teller_26 : decode cX7_teller 26 = .ok (.aload_n 0, 1) := by decide +kernel
theorem dX7_teller_27 : decode cX7_teller 27 = .ok (.getfield 37, 3) := by decide +kernel
theorem dX7_teller_30 : decode cX7_teller 30 = .ok (.iload_n 2, 1) := by decide +kernel
theorem dX7_teller_31 : decode cX7_teller 31 = .ok (.bipush 8, 2) := by decide +kernel
theorem dX7_teller_33 : decode cX7_teller 33 = .ok (.idiv, 1) := by decide +kernel
theorem dX7_teller_34 : decode cX7_teller 34 = .ok (.invokevirtual 243, 3) := by decide +kernel
theorem dX7_teller_37 : decode cX7_teller 37 = .ok (.ireturn, 1) := by decide +kernel
theorem dX7_told_0 : decode cX7_told 0 = .ok (.aload_n 0, 1) := by decide +kernel
theorem dX7_told_1 : decode cX7_told 1 = .ok (.invokevirtual 141, 3) := by decide +kernel
theorem dX7_told_4 : decode cX7_told 4 = .ok (.aload_n 0, 1) := by decide +kernel
theorem dX7_told_5 : decode cX7_told 5 = .ok (.iload_n 1, 1) := by decide +kernel
theorem dX7_told_6 : decode cX7_told 6 = .ok (.invokevirtual 172, 3) := by decide +kernel
theorem dX7_told_9 : decode cX7_told 9 = .ok (.aload_n 0, 1) := by decide +kernel
theorem dX7_told_10 : decode cX7_told 10 = .ok (.iload_n 1, 1) := by decide +kernel
theorem dX7_told_11 : decode cX7_told 11 = .ok (.iload_n 2, 1) := by decide +kernel
theorem dX7_told_12 : decode cX7_told 12 = .ok (.invokevirtual 205, 3) := by decide +kernel
theorem dX7_told_15 : decode cX7_told 15 = .ok (.iconst 0, 1) := by decide +kernel
theorem dX7_told_16 : decode cX7_told 16 = .ok (.istore_n 3, 1) := by decide +kernel
theorem dX7_told_17 : decode cX7_told 17 = .ok (.iconst 0, 1) := by decide +kernel
theorem dX7_told_18 : decode cX7_told 18 = .ok (.istore 4, 2) := by decide +kernel
theorem dX7_told_20 : decode cX7_told 20 = .ok (.iload 4, 2) := by decide +kernel
theorem dX7_told_22 : decode cX7_told 22 = .ok (.aload_n 0, 1) := by decide +kernel
theorem dX7_told_23 : decode cX7_told 23 = .ok (.getfield 121, 3) := by decide +kernel
theorem dX7_told_26 : decode cX7_told 26 = .ok (.invokestatic 164, 3) := by decide +kernel
theorem dX7_told_29 : decode cX7_told 29 = .ok (.if_icmp .ge 25, 3) := by decide +kernel
theorem dX7_told_32 : decode cX7_told 32 = .ok (.aload_n 0, 1) := by decide +kernel
theorem dX7_told_33 : decode cX7_told 33 = .ok (.getfield 37, 3) := by decide +kernel
theorem dX7_told_36 : decode cX7_told 36 = .ok (.iload 4, 2) := by decide +kernel
theorem dX7_told_38 : decode cX7_told 38 = .ok (.invokevirtual 243, 3) := by decide +kernel
theorem dX7_told_41 : decode cX7_told 41 = .ok (.iload_n 2, 1) := by decide +kernel
theorem dX7_told_42 : decode cX7_told 42 = .ok (.if_icmp .ne 6, 3) := by decide +kernel
theorem dX7_told_45 : decode cX7_told 45 = .ok (.iinc 3 8, 3) := by decide +kernel
theorem dX7_told_48 : decode cX7_told 48 = .ok (.iinc 4 1, 3) := by decide +kernel
theorem dX7_told_51 : decode cX7_told 51 = .ok (.goto (-31), 3) := by decide +kernel
theorem dX7_told_54 : decode cX7_told 54 = .ok (.iload_n 3, 1) := by decide +kernel
theorem dX7_told_55 : decode cX7_told 55 = .ok (.ireturn, 1) := by decide +kernel
theorem dX7_lowest_0 : decode cX7_lowest 0 = .ok (.aload_n 0, 1) := by decide +kernel
theorem dX7_lowest_1 : decode cX7_lowest 1 = .ok (.invokevirtual 141, 3) := by decide +kernel
theorem dX7_lowest_4 : decode cX7_lowest 4 = .ok (.aload_n 0, 1) := by decide +kernel
theorem dX7_lowest_5 : decode cX7_lowest 5 = .ok (.iload_n 1, 1) := by decide +kernel
theorem dX7_lowest_6 : decode cX7_lowest 6 = .ok (.invokevirtual 172, 3) := by decide +kernel
theorem dX7_lowest_9 : decode cX7_lowest 9 = .ok (.aload_n 0, 1) := by decide +kernel
theorem dX7_lowest_10 : decode cX7_lowest 10 = .ok (.getfield 37, 3) := by decide +kernel
theorem dX7_lowest_13 : decode cX7_lowest 13 = .ok (.iload_n 1, 1) := by decide +kernel
theorem dX7_lowest_14 : decode cX7_lowest 14 = .ok (.aload_n 0, 1) := by decide +kernel
theorem dX7_lowest_15 : decode cX7_lowest 15 = .ok (.getfield 121, 3) := by decide +kernel
theorem dX7_lowest_18 : decode cX7_lowest 18 = .ok (.invokevirtual 213, 3) := by decide +kernel
theorem dX7_lowest_21 : decode cX7_lowest 21 = .ok (.aload_n 0, 1) := by decide +kernel
theorem dX7_lowest_22 : decode cX7_lowest 22 = .ok (.getfield 37, 3) := by decide +kernel
theorem dX7_lowest_25 : decode cX7_lowest 25 = .ok (.invokevirtual 246, 3) := by decide +kernel
theorem dX7_lowest_28 : decode cX7_lowest 28 = .ok (.ireturn, 1) := by decide +kernel
theorem dX7_biggest_0 : decode cX7_biggest 0 = .ok (.aload_n 0, 1) := by decide +kernel
theorem dX7_biggest_1 : decode cX7_biggest 1 = .ok (.invokevirtual 141, 3) := by decide +kernel
theorem dX7_biggest_4 : decode cX7_biggest 4 = .ok (.aload_n 0, 1) := by decide +kernel
theorem dX7_biggest_5 : decode cX7_biggest 5 = .ok (.iload_n 1, 1) := by decide +kernel
theorem dX7_biggest_6 : decode cX7_biggest 6 = .ok (.invokevirtual 172, 3) := by decide +kernel
theorem dX7_biggest_9 : decode cX7_biggest 9 = .ok (.iload_n 2, 1) := by decide +kernel
theorem dX7_biggest_10 : decode cX7_biggest 10 = .ok (.ifCond .eq 23, 3) := by decide +kernel
theorem dX7_biggest_13 : decode cX7_biggest 13 = .ok (.iload_n 2, 1) := by decide +kernel
theorem dX7_biggest_14 : decode cX7_biggest 14 = .ok (.iconst 1, 1) := by decide +kernel
theorem dX7_biggest_15 : decode cX7_biggest 15 = .ok (.if_icmp .eq 18, 3) := by decide +kernel
theorem dX7_biggest_18 : decode cX7_biggest 18 = .ok (.iload_n 2, 1) := by decide +kernel
theorem dX7_biggest_19 : decode cX7_biggest 19 = .ok (.iconst 3, 1) := by decide +kernel
theorem dX7_biggest_20 : decode cX7_biggest 20 = .ok (.if_icmp .eq 13, 3) := by decide +kernel
theorem dX7_biggest_23 : decode cX7_biggest 23 = .ok (.new 101, 3) := by decide +kernel
theorem dX7_biggest_26 : decode cX7_biggest 26 = .ok (.dup, 1) := by decide +kernel
theorem dX7_biggest_27 : decode cX7_biggest 27 = .ok (.ldc 249, 2) := by decide +kernel
theorem dX7_biggest_29 : decode cX7_biggest 29 = .ok (.invokespecial 105, 3) := by decide +kernel
theorem dX7_biggest_32 : decode cX7_biggest 32 = .ok (.athrow, 1) := by decide +kernel
theorem dX7_biggest_33 : decode cX7_biggest 33 = .ok (.aload_n 0, 1) := by decide +kernel
theorem dX7_biggest_34 : decode cX7_biggest 34 = .ok (.getfield 37, 3) := by decide +kernel
theorem dX7_biggest_37 : decode cX7_biggest 37 = .ok (.iload_n 1, 1) := by decide +kernel
theorem dX7_biggest_38 : decode cX7_biggest 38 = .ok (.aload_n 0, 1) := by decide +kernel
theorem dX7_biggest_39 : decode cX7_biggest 39 = .ok (.getfield 121, 3) := by decide +kernel
theorem dX7_biggest_42 : decode cX7_biggest 42 = .ok (.invokevirtual 213, 3) := by decide +kernel
theorem dX7_biggest_45 : decode cX7_biggest 45 = .ok (.aload_n 0, 1) := by decide +kernel
theorem dX7_biggest_46 : decode cX7_biggest 46 = .ok (.getfield 37, 3) := by decide +kernel
theorem dX7_biggest_49 : decode cX7_biggest 49 = .ok (.iload_n 2, 1) := by decide +kernel
theorem dX7_biggest_50 : decode cX7_biggest 50 = .ok (.invokevirtual 251, 3) := by decide +kernel
theorem dX7_biggest_53 : decode cX7_biggest 53 = .ok (.istore_n 3, 1) := by decide +kernel
theorem dX7_biggest_54 : decode cX7_biggest 54 = .ok (.iload_n 3, 1) := by decide +kernel
theorem dX7_biggest_55 : decode cX7_biggest 55 = .ok (.iconst (-1), 1) := by decide +kernel
theorem dX7_biggest_56 : decode cX7_biggest 56 = .ok (.if_icmp .ne 7, 3) := by decide +kernel
theorem dX7_biggest_59 : decode cX7_biggest 59 = .ok (.iconst (-1), 1) := by decide +kernel
theorem dX7_biggest_60 : decode cX7_biggest 60 = .ok (.goto 7, 3) := by decide +kernel
theorem dX7_biggest_63 : decode cX7_biggest 63 = .ok (.bipush 8, 2) := by decide +kernel
theorem dX7_biggest_65 : decode cX7_biggest 65 = .ok (.iload_n 3, 1) := by decide +kernel
theorem dX7_biggest_66 : decode cX7_biggest 66 = .ok (.imul, 1) := by decide +kernel
theorem dX7_biggest_67 : decode cX7_biggest 67 = .ok (.ireturn, 1) := by decide +kernel
theorem dX7_cheapest_0 : decode cX7_cheapest 0 = .ok (.aload_n 0, 1) := by decide +kernel
theorem dX7_cheapest_1 : decode cX7_cheapest 1 = .ok (.invokevirtual 141, 3) := by decide +kernel
theorem dX7_cheapest_4 : decode cX7_cheapest 4 = .ok (.iconst (-1), 1) := by decide +kernel
theorem dX7_cheapest_5 : decode cX7_cheapest 5 = .ok (.istore_n 1, 1) := by decide +kernel
theorem dX7_cheapest_6 : decode cX7_cheapest 6 = .ok (.iconst 0, 1) := by decide +kernel
theorem dX7_cheapest_7 : decode cX7_cheapest 7 = .ok (.istore_n 2, 1) := by decide +kernel
theorem dX7_cheapest_8 : decode cX7_cheapest 8 = .ok (.iconst 0, 1) := by decide +kernel
theorem dX7_cheapest_9 : decode cX7_cheapest 9 = .ok (.istore_n 3, 1) := by decide +kernel
theorem dX7_cheapest_10 : decode cX7_cheapest 10 = .ok (.iload_n 3, 1) := by decide +kernel
theorem dX7_cheapest_11 : decode cX7_cheapest 11 = .ok (.aload_n 0, 1) := by decide +kernel
theorem dX7_cheapest_12 : decode cX7_cheapest 12 = .ok (.getfield 111, 3) := by decide +kernel
theorem dX7_cheapest_15 : decode cX7_cheapest 15 = .ok (.if_icmp .ge 32, 3) := by decide +kernel
theorem dX7_cheapest_18 : decode cX7_cheapest 18 = .ok (.aload_n 0, 1) := by decide +kernel
theorem dX7_cheapest_19 : decode cX7_cheapest 19 = .ok (.iload_n 3, 1) := by decide +kernel
theorem dX7_cheapest_20 : decode cX7_cheapest 20 = .ok (.invokevirtual 202, 3) := by decide +kernel
theorem dX7_cheapest_23 : decode cX7_cheapest 23 = .ok (.istore 4, 2) := by decide +kernel
theorem dX7_cheapest_25 : decode cX7_cheapest 25 = .ok (.iload_n 1, 1) := by decide +kernel
theorem dX7_cheapest_26 : decode cX7_cheapest 26 = .ok (.iconst (-1), 1) := by decide +kernel
theorem dX7_cheapest_27 : decode cX7_cheapest 27 = .ok (.if_icmp .eq 9, 3) := by decide +kernel
theorem dX7_cheapest_30 : decode cX7_cheapest 30 = .ok (.iload 4, 2) := by decide +kernel
theorem dX7_cheapest_32 : decode cX7_cheapest 32 = .ok (.iload_n 2, 1) := by decide +kernel
theorem dX7_cheapest_33 : decode cX7_cheapest 33 = .ok (.if_icmp .ge 8, 3) := by decide +kernel
theorem dX7_cheapest_36 : decode cX7_cheapest 36 = .ok (.iload_n 3, 1) := by decide +kernel
theorem dX7_cheapest_37 : decode cX7_cheapest 37 = .ok (.istore_n 1, 1) := by decide +kernel
theorem dX7_cheapest_38 : decode cX7_cheapest 38 = .ok (.iload 4, 2) := by decide +kernel
theorem dX7_cheapest_40 : decode cX7_cheapest 40 = .ok (.istore_n 2, 1) := by decide +kernel
theorem dX7_cheapest_41 : decode cX7_cheapest 41 = .ok (.iinc 3 1, 3) := by decide +kernel
theorem dX7_cheapest_44 : decode cX7_cheapest 44 = .ok (.goto (-34), 3) := by decide +kernel
theorem dX7_cheapest_47 : decode cX7_cheapest 47 = .ok (.iload_n 1, 1) := by decide +kernel
theorem dX7_cheapest_48 : decode cX7_cheapest 48 = .ok (.ireturn, 1) := by decide +kernel
theorem dX7_meanBits_0 : decode cX7_meanBits 0 = .ok (.aload_n 0, 1) := by decide +kernel
theorem dX7_meanBits_1 : decode cX7_meanBits 1 = .ok (.invokevirtual 141, 3) := by decide +kernel
theorem dX7_meanBits_4 : decode cX7_meanBits 4 = .ok (.aload_n 0, 1) := by decide +kernel
theorem dX7_meanBits_5 : decode cX7_meanBits 5 = .ok (.iload_n 1, 1) := by decide +kernel
theorem dX7_meanBits_6 : decode cX7_meanBits 6 = .ok (.invokevirtual 172, 3) := by decide +kernel
theorem dX7_meanBits_9 : decode cX7_meanBits 9 = .ok (.aload_n 0, 1) := by decide +kernel
theorem dX7_meanBits_10 : decode cX7_meanBits 10 = .ok (.iload_n 1, 1) := by decide +kernel
theorem dX7_meanBits_11 : decode cX7_meanBits 11 = .ok (.invokevirtual 202, 3) := by decide +kernel
theorem dX7_meanBits_14 : decode cX7_meanBits 14 = .ok (.istore_n 2, 1) := by decide +kernel
theorem dX7_meanBits_15 : decode cX7_meanBits 15 = .ok (.iload_n 2, 1) := by decide +kernel
theorem dX7_meanBits_16 : decode cX7_meanBits 16 = .ok (.iconst 1, 1) := by decide +kernel
theorem dX7_meanBits_17 : decode cX7_meanBits 17 = .ok (.if_icmp .ge 7, 3) := by decide +kernel
theorem dX7_meanBits_20 : decode cX7_meanBits 20 = .ok (.dconst 0, 1) := by decide +kernel
theorem dX7_meanBits_21 : decode cX7_meanBits 21 = .ok (.goto 12, 3) := by decide +kernel
theorem dX7_meanBits_24 : decode cX7_meanBits 24 = .ok (.aload_n 0, 1) := by decide +kernel
theorem dX7_meanBits_25 : decode cX7_meanBits 25 = .ok (.iload_n 1, 1) := by decide +kernel
theorem dX7_meanBits_26 : decode cX7_meanBits 26 = .ok (.invokevirtual 254, 3) := by decide +kernel
theorem dX7_meanBits_29 : decode cX7_meanBits 29 = .ok (.i2d, 1) := by decide +kernel
theorem dX7_meanBits_30 : decode cX7_meanBits 30 = .ok (.iload_n 2, 1) := by decide +kernel
theorem dX7_meanBits_31 : decode cX7_meanBits 31 = .ok (.i2d, 1) := by decide +kernel
theorem dX7_meanBits_32 : decode cX7_meanBits 32 = .ok (.ddiv, 1) := by decide +kernel
theorem dX7_meanBits_33 : decode cX7_meanBits 33 = .ok (.dreturn, 1) := by decide +kernel
theorem dX7_share_0 : decode cX7_share 0 = .ok (.aload_n 0, 1) := by decide +kernel
theorem dX7_share_1 : decode cX7_share 1 = .ok (.invokevirtual 141, 3) := by decide +kernel
theorem dX7_share_4 : decode cX7_share 4 = .ok (.aload_n 0, 1) := by decide +kernel
theorem dX7_share_5 : decode cX7_share 5 = .ok (.iload_n 1, 1) := by decide +kernel
theorem dX7_share_6 : decode cX7_share 6 = .ok (.invokevirtual 172, 3) := by decide +kernel
theorem dX7_share_9 : decode cX7_share 9 = .ok (.aload_n 0, 1) := by decide +kernel
theorem dX7_share_10 : decode cX7_share 10 = .ok (.getfield 121, 3) := by decide +kernel
theorem dX7_share_13 : decode cX7_share 13 = .ok (.invokestatic 164, 3) := by decide +kernel
theorem dX7_share_16 : decode cX7_share 16 = .ok (.istore_n 2, 1) := by decide +kernel
theorem dX7_share_17 : decode cX7_share 17 = .ok (.iload_n 2, 1) := by decide +kernel
theorem dX7_share_18 : decode cX7_share 18 = .ok (.iconst 1, 1) := by decide +kernel
theorem dX7_share_19 : decode cX7_share 19 = .ok (.if_icmp .ge 7, 3) := by decide +kernel
theorem dX7_share_22 : decode cX7_share 22 = .ok (.fconst 0, 1) := by decide +kernel
theorem dX7_share_23 : decode cX7_share 23 = .ok (.goto 12, 3) := by decide +kernel
theorem dX7_share_26 : decode cX7_share 26 = .ok (.aload_n 0, 1) := by decide +kernel
theorem dX7_share_27 : decode cX7_share 27 = .ok (.iload_n 1, 1) := by decide +kernel
theorem dX7_share_28 : decode cX7_share 28 = .ok (.invokevirtual 202, 3) := by decide +kernel
theorem dX7_share_31 : decode cX7_share 31 = .ok (.i2f, 1) := by decide +kernel
theorem dX7_share_32 : decode cX7_share 32 = .ok (.iload_n 2, 1) := by decide +kernel
theorem dX7_share_33 : decode cX7_share 33 = .ok (.i2f, 1) := by decide +kernel
theorem dX7_share_34 : decode cX7_share 34 = .ok (.fdiv, 1) := by decide +kernel
theorem dX7_share_35 : decode cX7_share 35 = .ok (.freturn, 1) := by decide +kernel
theorem dX7_common_0 : decode cX7_common 0 = .ok (.aload_n 0, 1) := by decide +kernel
theorem dX7_common_1 : decode cX7_common 1 = .ok (.invokevirtual 141, 3) := by decide +kernel
theorem dX7_common_4 : decode cX7_common 4 = .ok (.aload_n 0, 1) := by decide +kernel
theorem dX7_common_5 : decode cX7_common 5 = .ok (.iload_n 1, 1) := by decide +kernel
theorem dX7_common_6 : decode cX7_common 6 = .ok (.invokevirtual 172, 3) := by decide +kernel
theorem dX7_common_9 : decode cX7_common 9 = .ok (.aload_n 0, 1) := by decide +kernel
theorem dX7_common_10 : decode cX7_common 10 = .ok (.iload_n 2, 1) := by decide +kernel
theorem dX7_common_11 : decode cX7_common 11 = .ok (.invokevirtual 172, 3) := by decide +kernel
theorem dX7_common_14 : decode cX7_common 14 = .ok (.aload_n 0, 1) := by decide +kernel
theorem dX7_common_15 : decode cX7_common 15 = .ok (.getfield 26, 3) := by decide +kernel
theorem dX7_common_18 : decode cX7_common 18 = .ok (.iconst 1, 1) := by decide +kernel
theorem dX7_common_19 : decode cX7_common 19 = .ok (.iload_n 1, 1) := by decide +kernel
theorem dX7_common_20 : decode cX7_common 20 = .ok (.iload_n 2, 1) := by decide +kernel
theorem dX7_common_21 : decode cX7_common 21 = .ok (.bipush 32, 2) := by decide +kernel
theorem dX7_common_23 : decode cX7_common 23 = .ok (.invokevirtual 257, 3) := by decide +kernel
theorem dX7_common_26 : decode cX7_common 26 = .ok (.aload_n 0, 1) := by decide +kernel
theorem dX7_common_27 : decode cX7_common 27 = .ok (.bipush 32, 2) := by decide +kernel
theorem dX7_common_29 : decode cX7_common 29 = .ok (.invokevirtual 254, 3) := by decide +kernel
theorem dX7_common_32 : decode cX7_common 32 = .ok (.ireturn, 1) := by decide +kernel
theorem dX7_distance_0 : decode cX7_distance 0 = .ok (.aload_n 0, 1) := by decide +kernel
theorem dX7_distance_1 : decode cX7_distance 1 = .ok (.invokevirtual 141, 3) := by decide +kernel
theorem dX7_distance_4 : decode cX7_distance 4 = .ok (.aload_n 0, 1) := by decide +kernel
theorem dX7_distance_5 : decode cX7_distance 5 = .ok (.iload_n 1, 1) := by decide +kernel
theorem dX7_distance_6 : decode cX7_distance 6 = .ok (.invokevirtual 172, 3) := by decide +kernel
theorem dX7_distance_9 : decode cX7_distance 9 = .ok (.aload_n 0, 1) := by decide +kernel
theorem dX7_distance_10 : decode cX7_distance 10 = .ok (.iload_n 2, 1) := by decide +kernel
theorem dX7_distance_11 : decode cX7_distance 11 = .ok (.invokevirtual 172, 3) := by decide +kernel
theorem dX7_distance_14 : decode cX7_distance 14 = .ok (.aload_n 0, 1) := by decide +kernel
theorem dX7_distance_15 : decode cX7_distance 15 = .ok (.getfield 26, 3) := by decide +kernel
theorem dX7_distance_18 : decode cX7_distance 18 = .ok (.iload_n 1, 1) := by decide +kernel
theorem dX7_distance_19 : decode cX7_distance 19 = .ok (.iconst 0, 1) := by decide +kernel
theorem dX7_distance_20 : decode cX7_distance 20 = .ok (.iload_n 2, 1) := by decide +kernel
theorem dX7_distance_21 : decode cX7_distance 21 = .ok (.iconst 0, 1) := by decide +kernel
theorem dX7_distance_22 : decode cX7_distance 22 = .ok (.aload_n 0, 1) := by decide +kernel
theorem dX7_distance_23 : decode cX7_distance 23 = .ok (.getfield 121, 3) := by decide +kernel
theorem dX7_distance_26 : decode cX7_distance 26 = .ok (.invokestatic 164, 3) := by decide +kernel
theorem dX7_distance_29 : decode cX7_distance 29 = .ok (.invokevirtual 261, 3) := by decide +kernel
theorem dX7_distance_32 : decode cX7_distance 32 = .ok (.ireturn, 1) := by decide +kernel
theorem dX7_differs_0 : decode cX7_differs 0 = .ok (.aload_n 0, 1) := by decide +kernel
theorem dX7_differs_1 : decode cX7_differs 1 = .ok (.invokevirtual 141, 3) := by decide +kernel
theorem dX7_differs_4 : decode cX7_differs 4 = .ok (.aload_n 0, 1) := by decide +kernel
theorem dX7_differs_5 : decode cX7_differs 5 = .ok (.iload_n 1, 1) := by decide +kernel
theorem dX7_differs_6 : decode cX7_differs 6 = .ok (.invokevirtual 172, 3) := by decide +kernel
theorem dX7_differs_9 : decode cX7_differs 9 = .ok (.aload_n 0, 1) := by decide +kernel
theorem dX7_differs_10 : decode cX7_differs 10 = .ok (.iload_n 2, 1) := by decide +kernel
theorem dX7_differs_11 : decode cX7_differs 11 = .ok (.invokevirtual 172, 3) := by decide +kernel
theorem dX7_differs_14 : decode cX7_differs 14 = .ok (.iconst 0, 1) := by decide +kernel
theorem dX7_differs_15 : decode cX7_differs 15 = .ok (.istore_n 3, 1) := by decide +kernel
theorem dX7_differs_16 : decode cX7_differs 16 = .ok (.iload_n 3, 1) := by decide +kernel
theorem dX7_differs_17 : decode cX7_differs 17 = .ok (.bipush 8, 2) := by decide +kernel
theorem dX7_differs_19 : decode cX7_differs 19 = .ok (.aload_n 0, 1) := by decide +kernel
theorem dX7_differs_20 : decode cX7_differs 20 = .ok (.getfield 121, 3) := by decide +kernel
theorem dX7_differs_23 : decode cX7_differs 23 = .ok (.invokestatic 164, 3) := by decide +kernel
theorem dX7_differs_26 : decode cX7_differs 26 = .ok (.imul, 1) := by decide +kernel
theorem dX7_differs_27 : decode cX7_differs 27 = .ok (.if_icmp .ge 32, 3) := by decide +kernel
theorem dX7_differs_30 : decode cX7_differs 30 = .ok (.aload_n 0, 1) := by decide +kernel
theorem dX7_differs_31 : decode cX7_differs 31 = .ok (.getfield 26, 3) := by decide +kernel
theorem dX7_differs_34 : decode cX7_differs 34 = .ok (.iload_n 1, 1) := by decide +kernel
theorem dX7_differs_35 : decode cX7_differs 35 = .ok (.iload_n 3, 1) := by decide +kernel
theorem dX7_differs_36 : decode cX7_differs 36 = .ok (.invokevirtual 178, 3) := by decide +kernel
theorem dX7_differs_39 : decode cX7_differs 39 = .ok (.aload_n 0, 1) := by decide +kernel
theorem dX7_differs_40 : decode cX7_differs 40 = .ok (.getfield 26, 3) := by decide +kernel
theorem dX7_differs_43 : decode cX7_differs 43 = .ok (.iload_n 2, 1) := by decide +kernel
theorem dX7_differs_44 : decode cX7_differs 44 = .ok (.iload_n 3, 1) := by decide +kernel
theorem dX7_differs_45 : decode cX7_differs 45 = .ok (.invokevirtual 178, 3) := by decide +kernel
theorem dX7_differs_48 : decode cX7_differs 48 = .ok (.if_icmp .eq 5, 3) := by decide +kernel
theorem dX7_differs_51 : decode cX7_differs 51 = .ok (.iload_n 3, 1) := by decide +kernel
theorem dX7_differs_52 : decode cX7_differs 52 = .ok (.ireturn, 1) := by decide +kernel
theorem dX7_differs_53 : decode cX7_differs 53 = .ok (.iinc 3 1, 3) := by decide +kernel
theorem dX7_differs_56 : decode cX7_differs 56 = .ok (.goto (-40), 3) := by decide +kernel
theorem dX7_differs_59 : decode cX7_differs 59 = .ok (.iconst (-1), 1) := by decide +kernel
theorem dX7_differs_60 : decode cX7_differs 60 = .ok (.ireturn, 1) := by decide +kernel
theorem dX7_isWithin_0 : decode cX7_isWithin 0 = .ok (.aload_n 0, 1) := by decide +kernel
theorem dX7_isWithin_1 : decode cX7_isWithin 1 = .ok (.invokevirtual 141, 3) := by decide +kernel
theorem dX7_isWithin_4 : decode cX7_isWithin 4 = .ok (.aload_n 0, 1) := by decide +kernel
theorem dX7_isWithin_5 : decode cX7_isWithin 5 = .ok (.iload_n 1, 1) := by decide +kernel
theorem dX7_isWithin_6 : decode cX7_isWithin 6 = .ok (.invokevirtual 172, 3) := by decide +kernel
theorem dX7_isWithin_9 : decode cX7_isWithin 9 = .ok (.aload_n 0, 1) := by decide +kernel
theorem dX7_isWithin_10 : decode cX7_isWithin 10 = .ok (.iload_n 2, 1) := by decide +kernel
theorem dX7_isWithin_11 : decode cX7_isWithin 11 = .ok (.invokevirtual 172, 3) := by decide +kernel
theorem dX7_isWithin_14 : decode cX7_isWithin 14 = .ok (.aload_n 0, 1) := by decide +kernel
theorem dX7_isWithin_15 : decode cX7_isWithin 15 = .ok (.getfield 26, 3) := by decide +kernel
theorem dX7_isWithin_18 : decode cX7_isWithin 18 = .ok (.iconst 2, 1) := by decide +kernel
theorem dX7_isWithin_19 : decode cX7_isWithin 19 = .ok (.iload_n 1, 1) := by decide +kernel
theorem dX7_isWithin_20 : decode cX7_isWithin 20 = .ok (.iload_n 2, 1) := by decide +kernel
theorem dX7_isWithin_21 : decode cX7_isWithin 21 = .ok (.bipush 32, 2) := by decide +kernel
theorem dX7_isWithin_23 : decode cX7_isWithin 23 = .ok (.invokevirtual 257, 3) := by decide +kernel
theorem dX7_isWithin_26 : decode cX7_isWithin 26 = .ok (.aload_n 0, 1) := by decide +kernel
theorem dX7_isWithin_27 : decode cX7_isWithin 27 = .ok (.bipush 32, 2) := by decide +kernel
theorem dX7_isWithin_29 : decode cX7_isWithin 29 = .ok (.invokevirtual 254, 3) := by decide +kernel
theorem dX7_isWithin_32 : decode cX7_isWithin 32 = .ok (.ifCond .ne 7, 3) := by decide +kernel
theorem dX7_isWithin_35 : decode cX7_isWithin 35 = .ok (.iconst 1, 1) := by decide +kernel
theorem dX7_isWithin_36 : decode cX7_isWithin 36 = .ok (.goto 4, 3) := by decide +kernel
theorem dX7_isWithin_39 : decode cX7_isWithin 39 = .ok (.iconst 0, 1) := by decide +kernel
theorem dX7_isWithin_40 : decode cX7_isWithin 40 = .ok (.ireturn, 1) := by decide +kernel
theorem dX7_alike_0 : decode cX7_alike 0 = .ok (.aload_n 0, 1) := by decide +kernel
theorem dX7_alike_1 : decode cX7_alike 1 = .ok (.invokevirtual 141, 3) := by decide +kernel
theorem dX7_alike_4 : decode cX7_alike 4 = .ok (.aload_n 0, 1) := by decide +kernel
theorem dX7_alike_5 : decode cX7_alike 5 = .ok (.iload_n 1, 1) := by decide +kernel
theorem dX7_alike_6 : decode cX7_alike 6 = .ok (.invokevirtual 172, 3) := by decide +kernel
theorem dX7_alike_9 : decode cX7_alike 9 = .ok (.aload_n 0, 1) := by decide +kernel
theorem dX7_alike_10 : decode cX7_alike 10 = .ok (.iload_n 2, 1) := by decide +kernel
theorem dX7_alike_11 : decode cX7_alike 11 = .ok (.invokevirtual 172, 3) := by decide +kernel
theorem dX7_alike_14 : decode cX7_alike 14 = .ok (.aload_n 0, 1) := by decide +kernel
theorem dX7_alike_15 : decode cX7_alike 15 = .ok (.iload_n 3, 1) := by decide +kernel
theorem dX7_alike_16 : decode cX7_alike 16 = .ok (.invokevirtual 265, 3) := by decide +kernel
theorem dX7_alike_19 : decode cX7_alike 19 = .ok (.iload_n 3, 1) := by decide +kernel
theorem dX7_alike_20 : decode cX7_alike 20 = .ok (.invokestatic 164, 3) := by decide +kernel
theorem dX7_alike_23 : decode cX7_alike 23 = .ok (.istore 4, 2) := by decide +kernel
theorem dX7_alike_25 : decode cX7_alike 25 = .ok (.iconst 0, 1) := by decide +kernel
theorem dX7_alike_26 : decode cX7_alike 26 = .ok (.istore 5, 2) := by decide +kernel
theorem dX7_alike_28 : decode cX7_alike 28 = .ok (.iconst 0, 1) := by decide +kernel
theorem dX7_alike_29 : decode cX7_alike 29 = .ok (.istore 6, 2) := by decide +kernel
theorem dX7_alike_31 : decode cX7_alike 31 = .ok (.iload 6, 2) := by decide +kernel
theorem dX7_alike_33 : decode cX7_alike 33 = .ok (.iload_n 3, 1) := by decide +kernel
theorem dX7_alike_34 : decode cX7_alike 34 = .ok (.aload_n 0, 1) := by decide +kernel
theorem dX7_alike_35 : decode cX7_alike 35 = .ok (.getfield 121, 3) := by decide +kernel
theorem dX7_alike_38 : decode cX7_alike 38 = .ok (.invokestatic 268, 3) := by decide +kernel
theorem dX7_alike_41 : decode cX7_alike 41 = .ok (.if_icmp .ge 37, 3) := by decide +kernel
theorem dX7_alike_44 : decode cX7_alike 44 = .ok (.iload 6, 2) := by decide +kernel
theorem dX7_alike_46 : decode cX7_alike 46 = .ok (.iload 4, 2) := by decide +kernel
theorem dX7_alike_48 : decode cX7_alike 48 = .ok (.imul, 1) := by decide +kernel
theorem dX7_alike_49 : decode cX7_alike 49 = .ok (.istore 7, 2) := by decide +kernel
theorem dX7_alike_51 : decode cX7_alike 51 = .ok (.aload_n 0, 1) := by decide +kernel
theorem dX7_alike_52 : decode cX7_alike 52 = .ok (.getfield 26, 3) := by decide +kernel
theorem dX7_alike_55 : decode cX7_alike 55 = .ok (.iload_n 1, 1) := by decide +kernel
theorem dX7_alike_56 : decode cX7_alike 56 = .ok (.iload 7, 2) := by decide +kernel
theorem dX7_alike_58 : decode cX7_alike 58 = .ok (.iload_n 2, 1) := by decide +kernel
theorem dX7_alike_59 : decode cX7_alike 59 = .ok (.iload 7, 2) := by decide +kernel
theorem dX7_alike_61 : decode cX7_alike 61 = .ok (.iload 4, 2) := by decide +kernel
theorem dX7_alike_63 : decode cX7_alike 63 = .ok (.invokevirtual 261, 3) := by decide +kernel
theorem dX7_alike_66 : decode cX7_alike 66 = .ok (.ifCond .ne 6, 3) := by decide +kernel
theorem dX7_alike_69 : decode cX7_alike 69 = .ok (.iinc 5 1, 3) := by decide +kernel
theorem dX7_alike_72 : decode cX7_alike 72 = .ok (.iinc 6 1, 3) := by decide +kernel
theorem dX7_alike_75 : decode cX7_alike 75 = .ok (.goto (-44), 3) := by decide +kernel
theorem dX7_alike_78 : decode cX7_alike 78 = .ok (.iload 5, 2) := by decide +kernel
theorem dX7_alike_80 : decode cX7_alike 80 = .ok (.ireturn, 1) := by decide +kernel
theorem dX7_combined_0 : decode cX7_combined 0 = .ok (.aload_n 0, 1) := by decide +kernel
theorem dX7_combined_1 : decode cX7_combined 1 = .ok (.invokevirtual 141, 3) := by decide +kernel
theorem dX7_combined_4 : decode cX7_combined 4 = .ok (.aload_n 0, 1) := by decide +kernel
theorem dX7_combined_5 : decode cX7_combined 5 = .ok (.iload_n 2, 1) := by decide +kernel
theorem dX7_combined_6 : decode cX7_combined 6 = .ok (.invokevirtual 172, 3) := by decide +kernel
theorem dX7_combined_9 : decode cX7_combined 9 = .ok (.aload_n 0, 1) := by decide +kernel
theorem dX7_combined_10 : decode cX7_combined 10 = .ok (.iload_n 3, 1) := by decide +kernel
theorem dX7_combined_11 : decode cX7_combined 11 = .ok (.invokevirtual 172, 3) := by decide +kernel
theorem dX7_combined_14 : decode cX7_combined 14 = .ok (.aload_n 0, 1) := by decide +kernel
theorem dX7_combined_15 : decode cX7_combined 15 = .ok (.iload_n 1, 1) := by decide +kernel
theorem dX7_combined_16 : decode cX7_combined 16 = .ok (.invokevirtual 271, 3) := by decide +kernel
theorem dX7_combined_19 : decode cX7_combined 19 = .ok (.aload_n 0, 1) := by decide +kernel
theorem dX7_combined_20 : decode cX7_combined 20 = .ok (.getfield 26, 3) := by decide +kernel
theorem dX7_combined_23 : decode cX7_combined 23 = .ok (.iload_n 1, 1) := by decide +kernel
theorem dX7_combined_24 : decode cX7_combined 24 = .ok (.iload_n 2, 1) := by decide +kernel
theorem dX7_combined_25 : decode cX7_combined 25 = .ok (.iload_n 3, 1) := by decide +kernel
theorem dX7_combined_26 : decode cX7_combined 26 = .ok (.bipush 32, 2) := by decide +kernel
theorem dX7_combined_28 : decode cX7_combined 28 = .ok (.invokevirtual 257, 3) := by decide +kernel
theorem dX7_combined_31 : decode cX7_combined 31 = .ok (.aload_n 0, 1) := by decide +kernel
theorem dX7_combined_32 : decode cX7_combined 32 = .ok (.bipush 32, 2) := by decide +kernel
theorem dX7_combined_34 : decode cX7_combined 34 = .ok (.invokevirtual 202, 3) := by decide +kernel
theorem dX7_combined_37 : decode cX7_combined 37 = .ok (.ireturn, 1) := by decide +kernel
theorem dX7_nearest_0 : decode cX7_nearest 0 = .ok (.aload_n 0, 1) := by decide +kernel
theorem dX7_nearest_1 : decode cX7_nearest 1 = .ok (.invokevirtual 141, 3) := by decide +kernel
theorem dX7_nearest_4 : decode cX7_nearest 4 = .ok (.aload_n 0, 1) := by decide +kernel
theorem dX7_nearest_5 : decode cX7_nearest 5 = .ok (.iload_n 1, 1) := by decide +kernel
theorem dX7_nearest_6 : decode cX7_nearest 6 = .ok (.invokevirtual 172, 3) := by decide +kernel
theorem dX7_nearest_9 : decode cX7_nearest 9 = .ok (.iconst (-1), 1) := by decide +kernel
theorem dX7_nearest_10 : decode cX7_nearest 10 = .ok (.istore_n 2, 1) := by decide +kernel
theorem dX7_nearest_11 : decode cX7_nearest 11 = .ok (.iconst 0, 1) := by decide +kernel
theorem dX7_nearest_12 : decode cX7_nearest 12 = .ok (.istore_n 3, 1) := by decide +kernel
theorem dX7_nearest_13 : decode cX7_nearest 13 = .ok (.iconst 0, 1) := by decide +kernel
theorem dX7_nearest_14 : decode cX7_nearest 14 = .ok (.istore 4, 2) := by decide +kernel
theorem dX7_nearest_16 : decode cX7_nearest 16 = .ok (.iload 4, 2) := by decide +kernel
theorem dX7_nearest_18 : decode cX7_nearest 18 = .ok (.aload_n 0, 1) := by decide +kernel
theorem dX7_nearest_19 : decode cX7_nearest 19 = .ok (.getfield 111, 3) := by decide +kernel
theorem dX7_nearest_22 : decode cX7_nearest 22 = .ok (.if_icmp .ge 53, 3) := by decide +kernel
theorem dX7_nearest_25 : decode cX7_nearest 25 = .ok (.aload_n 0, 1) := by decide +kernel
theorem dX7_nearest_26 : decode cX7_nearest 26 = .ok (.getfield 26, 3) := by decide +kernel
theorem dX7_nearest_29 : decode cX7_nearest 29 = .ok (.iload_n 1, 1) := by decide +kernel
theorem dX7_nearest_30 : decode cX7_nearest 30 = .ok (.iconst 0, 1) := by decide +kernel
theorem dX7_nearest_31 : decode cX7_nearest 31 = .ok (.iload 4, 2) := by decide +kernel
theorem dX7_nearest_33 : decode cX7_nearest 33 = .ok (.iconst 0, 1) := by decide +kernel
theorem dX7_nearest_34 : decode cX7_nearest 34 = .ok (.aload_n 0, 1) := by decide +kernel
theorem dX7_nearest_35 : decode cX7_nearest 35 = .ok (.getfield 121, 3) := by decide +kernel
theorem dX7_nearest_38 : decode cX7_nearest 38 = .ok (.invokestatic 164, 3) := by decide +kernel
theorem dX7_nearest_41 : decode cX7_nearest 41 = .ok (.invokevirtual 261, 3) := by decide +kernel
theorem dX7_nearest_44 : decode cX7_nearest 44 = .ok (.istore 5, 2) := by decide +kernel
theorem dX7_nearest_46 : decode cX7_nearest 46 = .ok (.iload 4, 2) := by decide +kernel
theorem dX7_nearest_48 : decode cX7_nearest 48 = .ok (.iload_n 1, 1) := by decide +kernel
theorem dX7_nearest_49 : decode cX7_nearest 49 = .ok (.if_icmp .eq 20, 3) := by decide +kernel
theorem dX7_nearest_52 : decode cX7_nearest 52 = .ok (.iload_n 2, 1) := by decide +kernel
theorem dX7_nearest_53 : decode cX7_nearest 53 = .ok (.iconst (-1), 1) := by decide +kernel
theorem dX7_nearest_54 : decode cX7_nearest 54 = .ok (.if_icmp .eq 9, 3) := by decide +kernel
theorem dX7_nearest_57 : decode cX7_nearest 57 = .ok (.iload 5, 2) := by decide +kernel
theorem dX7_nearest_59 : decode cX7_nearest 59 = .ok (.iload_n 3, 1) := by decide +kernel
theorem dX7_nearest_60 : decode cX7_nearest 60 = .ok (.if_icmp .ge 9, 3) := by decide +kernel
theorem dX7_nearest_63 : decode cX7_nearest 63 = .ok (.iload 4, 2) := by decide +kernel
theorem dX7_nearest_65 : decode cX7_nearest 65 = .ok (.istore_n 2, 1) := by decide +kernel
theorem dX7_nearest_66 : decode cX7_nearest 66 = .ok (.iload 5, 2) := by decide +kernel
theorem dX7_nearest_68 : decode cX7_nearest 68 = .ok (.istore_n 3, 1) := by decide +kernel
theorem dX7_nearest_69 : decode cX7_nearest 69 = .ok (.iinc 4 1, 3) := by decide +kernel
theorem dX7_nearest_72 : decode cX7_nearest 72 = .ok (.goto (-56), 3) := by decide +kernel
theorem dX7_nearest_75 : decode cX7_nearest 75 = .ok (.iload_n 2, 1) := by decide +kernel
theorem dX7_nearest_76 : decode cX7_nearest 76 = .ok (.ireturn, 1) := by decide +kernel
theorem dX7_bytesIf_0 : decode cX7_bytesIf 0 = .ok (.aload_n 0, 1) := by decide +kernel
theorem dX7_bytesIf_1 : decode cX7_bytesIf 1 = .ok (.invokevirtual 141, 3) := by decide +kernel
theorem dX7_bytesIf_4 : decode cX7_bytesIf 4 = .ok (.aload_n 0, 1) := by decide +kernel
theorem dX7_bytesIf_5 : decode cX7_bytesIf 5 = .ok (.iload_n 1, 1) := by decide +kernel
theorem dX7_bytesIf_6 : decode cX7_bytesIf 6 = .ok (.invokevirtual 172, 3) := by decide +kernel
theorem dX7_bytesIf_9 : decode cX7_bytesIf 9 = .ok (.aload_n 0, 1) := by decide +kernel
theorem dX7_bytesIf_10 : decode cX7_bytesIf 10 = .ok (.iload_n 2, 1) := by decide +kernel
theorem dX7_bytesIf_11 : decode cX7_bytesIf 11 = .ok (.invokevirtual 175, 3) := by decide +kernel
theorem dX7_bytesIf_14 : decode cX7_bytesIf 14 = .ok (.aload_n 0, 1) := by decide +kernel
theorem dX7_bytesIf_15 : decode cX7_bytesIf 15 = .ok (.getfield 37, 3) := by decide +kernel
theorem dX7_bytesIf_18 : decode cX7_bytesIf 18 = .ok (.iload_n 1, 1) := by decide +kernel
theorem dX7_bytesIf_19 : decode cX7_bytesIf 19 = .ok (.aload_n 0, 1) := by decide +kernel
theorem dX7_bytesIf_20 : decode cX7_bytesIf 20 = .ok (.getfield 121, 3) := by decide +kernel
theorem dX7_bytesIf_23 : decode cX7_bytesIf 23 = .ok (.invokevirtual 213, 3) := by decide +kernel
theorem dX7_bytesIf_26 : decode cX7_bytesIf 26 = .ok (.aload_n 0, 1) := by decide +kernel
theorem dX7_bytesIf_27 : decode cX7_bytesIf 27 = .ok (.getfield 37, 3) := by decide +kernel
theorem dX7_bytesIf_30 : decode cX7_bytesIf 30 = .ok (.iload_n 2, 1) := by decide +kernel
theorem dX7_bytesIf_31 : decode cX7_bytesIf 31 = .ok (.invokevirtual 274, 3) := by decide +kernel
theorem dX7_bytesIf_34 : decode cX7_bytesIf 34 = .ok (.ireturn, 1) := by decide +kernel
theorem dX7_bestFlip_0 : decode cX7_bestFlip 0 = .ok (.aload_n 0, 1) := by decide +kernel
theorem dX7_bestFlip_1 : decode cX7_bestFlip 1 = .ok (.invokevirtual 141, 3) := by decide +kernel
theorem dX7_bestFlip_4 : decode cX7_bestFlip 4 = .ok (.aload_n 0, 1) := by decide +kernel
theorem dX7_bestFlip_5 : decode cX7_bestFlip 5 = .ok (.iload_n 1, 1) := by decide +kernel
theorem dX7_bestFlip_6 : decode cX7_bestFlip 6 = .ok (.invokevirtual 172, 3) := by decide +kernel
theorem dX7_bestFlip_9 : decode cX7_bestFlip 9 = .ok (.aload_n 0, 1) := by decide +kernel
theorem dX7_bestFlip_10 : decode cX7_bestFlip 10 = .ok (.iload_n 2, 1) := by decide +kernel
theorem dX7_bestFlip_11 : decode cX7_bestFlip 11 = .ok (.iload_n 3, 1) := by decide +kernel
theorem dX7_bestFlip_12 : decode cX7_bestFlip 12 = .ok (.invokevirtual 182, 3) := by decide +kernel
theorem dX7_bestFlip_15 : decode cX7_bestFlip 15 = .ok (.aload_n 0, 1) := by decide +kernel
theorem dX7_bestFlip_16 : decode cX7_bestFlip 16 = .ok (.getfield 37, 3) := by decide +kernel
theorem dX7_bestFlip_19 : decode cX7_bestFlip 19 = .ok (.iload_n 1, 1) := by decide +kernel
theorem dX7_bestFlip_20 : decode cX7_bestFlip 20 = .ok (.aload_n 0, 1) := by decide +kernel
theorem dX7_bestFlip_21 : decode cX7_bestFlip 21 = .ok (.getfield 121, 3) := by decide +kernel
theorem dX7_bestFlip_24 : decode cX7_bestFlip 24 = .ok (.invokevirtual 213, 3) := by decide +kernel
theorem dX7_bestFlip_27 : decode cX7_bestFlip 27 = .ok (.iload_n 2, 1) := by decide +kernel
theorem dX7_bestFlip_28 : decode cX7_bestFlip 28 = .ok (.istore 4, 2) := by decide +kernel
theorem dX7_bestFlip_30 : decode cX7_bestFlip 30 = .ok (.aload_n 0, 1) := by decide +kernel
theorem dX7_bestFlip_31 : decode cX7_bestFlip 31 = .ok (.getfield 37, 3) := by decide +kernel
theorem dX7_bestFlip_34 : decode cX7_bestFlip 34 = .ok (.iload_n 2, 1) := by decide +kernel
theorem dX7_bestFlip_35 : decode cX7_bestFlip 35 = .ok (.invokevirtual 274, 3) := by decide +kernel
theorem dX7_bestFlip_38 : decode cX7_bestFlip 38 = .ok (.istore 5, 2) := by decide +kernel
theorem dX7_bestFlip_40 : decode cX7_bestFlip 40 = .ok (.iload_n 2, 1) := by decide +kernel
theorem dX7_bestFlip_41 : decode cX7_bestFlip 41 = .ok (.iconst 1, 1) := by decide +kernel
theorem dX7_bestFlip_42 : decode cX7_bestFlip 42 = .ok (.iadd, 1) := by decide +kernel
theorem dX7_bestFlip_43 : decode cX7_bestFlip 43 = .ok (.istore 6, 2) := by decide +kernel
theorem dX7_bestFlip_45 : decode cX7_bestFlip 45 = .ok (.iload 6, 2) := by decide +kernel
theorem dX7_bestFlip_47 : decode cX7_bestFlip 47 = .ok (.iload_n 3, 1) := by decide +kernel
theorem dX7_bestFlip_48 : decode cX7_bestFlip 48 = .ok (.if_icmp .gt 35, 3) := by decide +kernel
theorem dX7_bestFlip_51 : decode cX7_bestFlip 51 = .ok (.aload_n 0, 1) := by decide +kernel
theorem dX7_bestFlip_52 : decode cX7_bestFlip 52 = .ok (.getfield 37, 3) := by decide +kernel
theorem dX7_bestFlip_55 : decode cX7_bestFlip 55 = .ok (.iload 6, 2) := by decide +kernel
theorem dX7_bestFlip_57 : decode cX7_bestFlip 57 = .ok (.invokevirtual 274, 3) := by decide +kernel
theorem dX7_bestFlip_60 : decode cX7_bestFlip 60 = .ok (.istore 7, 2) := by decide +kernel
theorem dX7_bestFlip_62 : decode cX7_bestFlip 62 = .ok (.iload 7, 2) := by decide +kernel
theorem dX7_bestFlip_64 : decode cX7_bestFlip 64 = .ok (.iload 5, 2) := by decide +kernel
theorem dX7_bestFlip_66 : decode cX7_bestFlip 66 = .ok (.if_icmp .ge 11, 3) := by decide +kernel
theorem dX7_bestFlip_69 : decode cX7_bestFlip 69 = .ok (.iload 6, 2) := by decide +kernel
theorem dX7_bestFlip_71 : decode cX7_bestFlip 71 = .ok (.istore 4, 2) := by decide +kernel
theorem dX7_bestFlip_73 : decode cX7_bestFlip 73 = .ok (.iload 7, 2) := by decide +kernel
theorem dX7_bestFlip_75 : decode cX7_bestFlip 75 = .ok (.istore 5, 2) := by decide +kernel
theorem dX7_bestFlip_77 : decode cX7_bestFlip 77 = .ok (.iinc 6 1, 3) := by decide +kernel
theorem dX7_bestFlip_80 : decode cX7_bestFlip 80 = .ok (.goto (-35), 3) := by decide +kernel
theorem dX7_bestFlip_83 : decode cX7_bestFlip 83 = .ok (.iload 4, 2) := by decide +kernel
theorem dX7_bestFlip_85 : decode cX7_bestFlip 85 = .ok (.ireturn, 1) := by decide +kernel
theorem dX7_bytesFilled_0 : decode cX7_bytesFilled 0 = .ok (.aload_n 0, 1) := by decide +kernel
theorem dX7_bytesFilled_1 : decode cX7_bytesFilled 1 = .ok (.invokevirtual 141, 3) := by decide +kernel
theorem dX7_bytesFilled_4 : decode cX7_bytesFilled 4 = .ok (.aload_n 0, 1) := by decide +kernel
theorem dX7_bytesFilled_5 : decode cX7_bytesFilled 5 = .ok (.iload_n 1, 1) := by decide +kernel
theorem dX7_bytesFilled_6 : decode cX7_bytesFilled 6 = .ok (.invokevirtual 172, 3) := by decide +kernel
theorem dX7_bytesFilled_9 : decode cX7_bytesFilled 9 = .ok (.aload_n 0, 1) := by decide +kernel
theorem dX7_bytesFilled_10 : decode cX7_bytesFilled 10 = .ok (.iload_n 2, 1) := by decide +kernel
theorem dX7_bytesFilled_11 : decode cX7_bytesFilled 11 = .ok (.iload_n 3, 1) := by decide +kernel
theorem dX7_bytesFilled_12 : decode cX7_bytesFilled 12 = .ok (.invokevirtual 182, 3) := by decide +kernel
theorem dX7_bytesFilled_15 : decode cX7_bytesFilled 15 = .ok (.aload_n 0, 1) := by decide +kernel
theorem dX7_bytesFilled_16 : decode cX7_bytesFilled 16 = .ok (.iload 4, 2) := by decide +kernel
theorem dX7_bytesFilled_18 : decode cX7_bytesFilled 18 = .ok (.invokevirtual 189, 3) := by decide +kernel
theorem dX7_bytesFilled_21 : decode cX7_bytesFilled 21 = .ok (.aload_n 0, 1) := by decide +kernel
theorem dX7_bytesFilled_22 : decode cX7_bytesFilled 22 = .ok (.getfield 26, 3) := by decide +kernel
theorem dX7_bytesFilled_25 : decode cX7_bytesFilled 25 = .ok (.iload_n 1, 1) := by decide +kernel
theorem dX7_bytesFilled_26 : decode cX7_bytesFilled 26 = .ok (.bipush 32, 2) := by decide +kernel
theorem dX7_bytesFilled_28 : decode cX7_bytesFilled 28 = .ok (.invokevirtual 135, 3) := by decide +kernel
theorem dX7_bytesFilled_31 : decode cX7_bytesFilled 31 = .ok (.aload_n 0, 1) := by decide +kernel
theorem dX7_bytesFilled_32 : decode cX7_bytesFilled 32 = .ok (.getfield 26, 3) := by decide +kernel
theorem dX7_bytesFilled_35 : decode cX7_bytesFilled 35 = .ok (.bipush 32, 2) := by decide +kernel
theorem dX7_bytesFilled_37 : decode cX7_bytesFilled 37 = .ok (.iload_n 2, 1) := by decide +kernel
theorem dX7_bytesFilled_38 : decode cX7_bytesFilled 38 = .ok (.iload_n 3, 1) := by decide +kernel
theorem dX7_bytesFilled_39 : decode cX7_bytesFilled 39 = .ok (.iload 4, 2) := by decide +kernel
theorem dX7_bytesFilled_41 : decode cX7_bytesFilled 41 = .ok (.invokevirtual 277, 3) := by decide +kernel
theorem dX7_bytesFilled_44 : decode cX7_bytesFilled 44 = .ok (.aload_n 0, 1) := by decide +kernel
theorem dX7_bytesFilled_45 : decode cX7_bytesFilled 45 = .ok (.bipush 32, 2) := by decide +kernel
theorem dX7_bytesFilled_47 : decode cX7_bytesFilled 47 = .ok (.invokevirtual 202, 3) := by decide +kernel
theorem dX7_bytesFilled_50 : decode cX7_bytesFilled 50 = .ok (.ireturn, 1) := by decide +kernel
theorem dX7_bytesShifted_0 : decode cX7_bytesShifted 0 = .ok (.aload_n 0, 1) := by decide +kernel
theorem dX7_bytesShifted_1 : decode cX7_bytesShifted 1 = .ok (.invokevirtual 141, 3) := by decide +kernel
theorem dX7_bytesShifted_4 : decode cX7_bytesShifted 4 = .ok (.aload_n 0, 1) := by decide +kernel
theorem dX7_bytesShifted_5 : decode cX7_bytesShifted 5 = .ok (.iload_n 1, 1) := by decide +kernel
theorem dX7_bytesShifted_6 : decode cX7_bytesShifted 6 = .ok (.invokevirtual 172, 3) := by decide +kernel
theorem dX7_bytesShifted_9 : decode cX7_bytesShifted 9 = .ok (.aload_n 0, 1) := by decide +kernel
theorem dX7_bytesShifted_10 : decode cX7_bytesShifted 10 = .ok (.getfield 26, 3) := by decide +kernel
theorem dX7_bytesShifted_13 : decode cX7_bytesShifted 13 = .ok (.iload_n 1, 1) := by decide +kernel
theorem dX7_bytesShifted_14 : decode cX7_bytesShifted 14 = .ok (.iload_n 2, 1) := by decide +kernel
theorem dX7_bytesShifted_15 : decode cX7_bytesShifted 15 = .ok (.bipush 8, 2) := by decide +kernel
theorem dX7_bytesShifted_17 : decode cX7_bytesShifted 17 = .ok (.aload_n 0, 1) := by decide +kernel
theorem dX7_bytesShifted_18 : decode cX7_bytesShifted 18 = .ok (.getfield 121, 3) := by decide +kernel
theorem dX7_bytesShifted_21 : decode cX7_bytesShifted 21 = .ok (.invokestatic 164, 3) := by decide +kernel
theorem dX7_bytesShifted_24 : decode cX7_bytesShifted 24 = .ok (.imul, 1) := by decide +kernel
theorem dX7_bytesShifted_25 : decode cX7_bytesShifted 25 = .ok (.bipush 32, 2) := by decide +kernel
theorem dX7_bytesShifted_27 : decode cX7_bytesShifted 27 = .ok (.invokevirtual 280, 3) := by decide +kernel
theorem dX7_bytesShifted_30 : decode cX7_bytesShifted 30 = .ok (.aload_n 0, 1) := by decide +kernel
theorem dX7_bytesShifted_31 : decode cX7_bytesShifted 31 = .ok (.bipush 32, 2) := by decide +kernel
theorem dX7_bytesShifted_33 : decode cX7_bytesShifted 33 = .ok (.invokevirtual 202, 3) := by decide +kernel
theorem dX7_bytesShifted_36 : decode cX7_bytesShifted 36 = .ok (.ireturn, 1) := by decide +kernel
theorem dX7_mostLike_0 : decode cX7_mostLike 0 = .ok (.aload_n 0, 1) := by decide +kernel
theorem dX7_mostLike_1 : decode cX7_mostLike 1 = .ok (.invokevirtual 141, 3) := by decide +kernel
theorem dX7_mostLike_4 : decode cX7_mostLike 4 = .ok (.aload_n 0, 1) := by decide +kernel
theorem dX7_mostLike_5 : decode cX7_mostLike 5 = .ok (.iload_n 1, 1) := by decide +kernel
theorem dX7_mostLike_6 : decode cX7_mostLike 6 = .ok (.invokevirtual 172, 3) := by decide +kernel
theorem dX7_mostLike_9 : decode cX7_mostLike 9 = .ok (.aload_n 0, 1) := by decide +kernel
theorem dX7_mostLike_10 : decode cX7_mostLike 10 = .ok (.iload_n 2, 1) := by decide +kernel
theorem dX7_mostLike_11 : decode cX7_mostLike 11 = .ok (.iload_n 3, 1) := by decide +kernel
theorem dX7_mostLike_12 : decode cX7_mostLike 12 = .ok (.invokevirtual 225, 3) := by decide +kernel
theorem dX7_mostLike_15 : decode cX7_mostLike 15 = .ok (.iload_n 2, 1) := by decide +kernel
theorem dX7_mostLike_16 : decode cX7_mostLike 16 = .ok (.invokestatic 164, 3) := by decide +kernel
theorem dX7_mostLike_19 : decode cX7_mostLike 19 = .ok (.istore 4, 2) := by decide +kernel
theorem dX7_mostLike_21 : decode cX7_mostLike 21 = .ok (.iconst (-1), 1) := by decide +kernel
theorem dX7_mostLike_22 : decode cX7_mostLike 22 = .ok (.istore 5, 2) := by decide +kernel
theorem dX7_mostLike_24 : decode cX7_mostLike 24 = .ok (.iconst 0, 1) := by decide +kernel
theorem dX7_mostLike_25 : decode cX7_mostLike 25 = .ok (.istore 6, 2) := by decide +kernel
theorem dX7_mostLike_27 : decode cX7_mostLike 27 = .ok (.iconst 0, 1) := by decide +kernel
theorem dX7_mostLike_28 : decode cX7_mostLike 28 = .ok (.istore 7, 2) := by decide +kernel
theorem dX7_mostLike_30 : decode cX7_mostLike 30 = .ok (.iload 7, 2) := by decide +kernel
theorem dX7_mostLike_32 : decode cX7_mostLike 32 = .ok (.iload_n 2, 1) := by decide +kernel
theorem dX7_mostLike_33 : decode cX7_mostLike 33 = .ok (.aload_n 0, 1) := by decide +kernel
theorem dX7_mostLike_34 : decode cX7_mostLike 34 = .ok (.getfield 121, 3) := by decide +kernel
theorem dX7_mostLike_37 : decode cX7_mostLike 37 = .ok (.invokestatic 268, 3) := by decide +kernel
theorem dX7_mostLike_40 : decode cX7_mostLike 40 = .ok (.if_icmp .ge 58, 3) := by decide +kernel
theorem dX7_mostLike_43 : decode cX7_mostLike 43 = .ok (.aload_n 0, 1) := by decide +kernel
theorem dX7_mostLike_44 : decode cX7_mostLike 44 = .ok (.getfield 26, 3) := by decide +kernel
theorem dX7_mostLike_47 : decode cX7_mostLike 47 = .ok (.iload_n 1, 1) := by decide +kernel
theorem dX7_mostLike_48 : decode cX7_mostLike 48 = .ok (.iload_n 3, 1) := by decide +kernel
theorem dX7_mostLike_49 : decode cX7_mostLike 49 = .ok (.iload 4, 2) := by decide +kernel
theorem dX7_mostLike_51 : decode cX7_mostLike 51 = .ok (.imul, 1) := by decide +kernel
theorem dX7_mostLike_52 : decode cX7_mostLike 52 = .ok (.iload_n 1, 1) := by decide +kernel
theorem dX7_mostLike_53 : decode cX7_mostLike 53 = .ok (.iload 7, 2) := by decide +kernel
theorem dX7_mostLike_55 : decode cX7_mostLike 55 = .ok (.iload 4, 2) := by decide +kernel
theorem dX7_mostLike_57 : decode cX7_mostLike 57 = .ok (.imul, 1) := by decide +kernel
theorem dX7_mostLike_58 : decode cX7_mostLike 58 = .ok (.iload 4, 2) := by decide +kernel
theorem dX7_mostLike_60 : decode cX7_mostLike 60 = .ok (.invokevirtual 261, 3) := by decide +kernel
theorem dX7_mostLike_63 : decode cX7_mostLike 63 = .ok (.istore 8, 2) := by decide +kernel
theorem dX7_mostLike_65 : decode cX7_mostLike 65 = .ok (.iload 7, 2) := by decide +kernel
theorem dX7_mostLike_67 : decode cX7_mostLike 67 = .ok (.iload_n 3, 1) := by decide +kernel
theorem dX7_mostLike_68 : decode cX7_mostLike 68 = .ok (.if_icmp .eq 24, 3) := by decide +kernel
theorem dX7_mostLike_71 : decode cX7_mostLike 71 = .ok (.iload 5, 2) := by decide +kernel
theorem dX7_mostLike_73 : decode cX7_mostLike 73 = .ok (.iconst (-1), 1) := by decide +kernel
theorem dX7_mostLike_74 : decode cX7_mostLike 74 = .ok (.if_icmp .eq 10, 3) := by decide +kernel
theorem dX7_mostLike_77 : decode cX7_mostLike 77 = .ok (.iload 8, 2) := by decide +kernel
theorem dX7_mostLike_79 : decode cX7_mostLike 79 = .ok (.iload 6, 2) := by decide +kernel
theorem dX7_mostLike_81 : decode cX7_mostLike 81 = .ok (.if_icmp .ge 11, 3) := by decide +kernel
theorem dX7_mostLike_84 : decode cX7_mostLike 84 = .ok (.iload 7, 2) := by decide +kernel
theorem dX7_mostLike_86 : decode cX7_mostLike 86 = .ok (.istore 5, 2) := by decide +kernel
theorem dX7_mostLike_88 : decode cX7_mostLike 88 = .ok (.iload 8, 2) := by decide +kernel
theorem dX7_mostLike_90 : decode cX7_mostLike 90 = .ok (.istore 6, 2) := by decide +kernel
theorem dX7_mostLike_92 : decode cX7_mostLike 92 = .ok (.iinc 7 1, 3) := by decide +kernel
theorem dX7_mostLike_95 : decode cX7_mostLike 95 = .ok (.goto (-65), 3) := by decide +kernel
theorem dX7_mostLike_98 : decode cX7_mostLike 98 = .ok (.iload 5, 2) := by decide +kernel
theorem dX7_mostLike_100 : decode cX7_mostLike 100 = .ok (.ireturn, 1) := by decide +kernel
theorem dX7_writeBytes_0 : decode cX7_writeBytes 0 = .ok (.aload_n 0, 1) := by decide +kernel
theorem dX7_writeBytes_1 : decode cX7_writeBytes 1 = .ok (.invokevirtual 141, 3) := by decide +kernel
theorem dX7_writeBytes_4 : decode cX7_writeBytes 4 = .ok (.aload_n 0, 1) := by decide +kernel
theorem dX7_writeBytes_5 : decode cX7_writeBytes 5 = .ok (.iload_n 1, 1) := by decide +kernel
theorem dX7_writeBytes_6 : decode cX7_writeBytes 6 = .ok (.invokevirtual 172, 3) := by decide +kernel
theorem dX7_writeBytes_9 : decode cX7_writeBytes 9 = .ok (.aload_n 0, 1) := by decide +kernel
theorem dX7_writeBytes_10 : decode cX7_writeBytes 10 = .ok (.getfield 37, 3) := by decide +kernel
theorem dX7_writeBytes_13 : decode cX7_writeBytes 13 = .ok (.iload_n 1, 1) := by decide +kernel
theorem dX7_writeBytes_14 : decode cX7_writeBytes 14 = .ok (.aload_n 0, 1) := by decide +kernel
theorem dX7_writeBytes_15 : decode cX7_writeBytes 15 = .ok (.getfield 121, 3) := by decide +kernel
theorem dX7_writeBytes_18 : decode cX7_writeBytes 18 = .ok (.invokevirtual 213, 3) := by decide +kernel
theorem dX7_writeBytes_21 : decode cX7_writeBytes 21 = .ok (.aload_n 0, 1) := by decide +kernel
theorem dX7_writeBytes_22 : decode cX7_writeBytes 22 = .ok (.getfield 57, 3) := by decide +kernel
theorem dX7_writeBytes_25 : decode cX7_writeBytes 25 = .ok (.invokevirtual 91, 3) := by decide +kernel
theorem dX7_writeBytes_28 : decode cX7_writeBytes 28 = .ok (.iconst 0, 1) := by decide +kernel
theorem dX7_writeBytes_29 : decode cX7_writeBytes 29 = .ok (.istore_n 2, 1) := by decide +kernel
theorem dX7_writeBytes_30 : decode cX7_writeBytes 30 = .ok (.iload_n 2, 1) := by decide +kernel
theorem dX7_writeBytes_31 : decode cX7_writeBytes 31 = .ok (.aload_n 0, 1) := by decide +kernel
theorem dX7_writeBytes_32 : decode cX7_writeBytes 32 = .ok (.getfield 37, 3) := by decide +kernel
theorem dX7_writeBytes_35 : decode cX7_writeBytes 35 = .ok (.invokevirtual 219, 3) := by decide +kernel
theorem dX7_writeBytes_38 : decode cX7_writeBytes 38 = .ok (.if_icmp .ge 37, 3) := by decide +kernel
theorem dX7_writeBytes_41 : decode cX7_writeBytes 41 = .ok (.iload_n 2, 1) := by decide +kernel
theorem dX7_writeBytes_42 : decode cX7_writeBytes 42 = .ok (.ifCond .le 12, 3) := by decide +kernel
theorem dX7_writeBytes_45 : decode cX7_writeBytes 45 = .ok (.aload_n 0, 1) := by decide +kernel
theorem dX7_writeBytes_46 : decode cX7_writeBytes 46 = .ok (.getfield 57, 3) := by decide +kernel
theorem dX7_writeBytes_49 : decode cX7_writeBytes 49 = .ok (.bipush 32, 2) := by decide +kernel
theorem dX7_writeBytes_51 : decode cX7_writeBytes 51 = .ok (.invokevirtual 283, 3) := by decide +kernel
theorem dX7_writeBytes_54 : decode cX7_writeBytes 54 = .ok (.aload_n 0, 1) := by decide +kernel
theorem dX7_writeBytes_55 : decode cX7_writeBytes 55 = .ok (.getfield 57, 3) := by decide +kernel
theorem dX7_writeBytes_58 : decode cX7_writeBytes 58 = .ok (.aload_n 0, 1) := by decide +kernel
theorem dX7_writeBytes_59 : decode cX7_writeBytes 59 = .ok (.getfield 37, 3) := by decide +kernel
theorem dX7_writeBytes_62 : decode cX7_writeBytes 62 = .ok (.iload_n 2, 1) := by decide +kernel
theorem dX7_writeBytes_63 : decode cX7_writeBytes 63 = .ok (.invokevirtual 208, 3) := by decide +kernel
theorem dX7_writeBytes_66 : decode cX7_writeBytes 66 = .ok (.invokevirtual 286, 3) := by decide +kernel
theorem dX7_writeBytes_69 : decode cX7_writeBytes 69 = .ok (.iinc 2 1, 3) := by decide +kernel
theorem dX7_writeBytes_72 : decode cX7_writeBytes 72 = .ok (.goto (-42), 3) := by decide +kernel
theorem dX7_writeBytes_75 : decode cX7_writeBytes 75 = .ok (.aload_n 0, 1) := by decide +kernel
theorem dX7_writeBytes_76 : decode cX7_writeBytes 76 = .ok (.getfield 57, 3) := by decide +kernel
theorem dX7_writeBytes_79 : decode cX7_writeBytes 79 = .ok (.invokevirtual 81, 3) := by decide +kernel
theorem dX7_writeBytes_82 : decode cX7_writeBytes 82 = .ok (.ireturn, 1) := by decide +kernel
theorem dX7_writeBits_0 : decode cX7_writeBits 0 = .ok (.aload_n 0, 1) := by decide +kernel
theorem dX7_writeBits_1 : decode cX7_writeBits 1 = .ok (.invokevirtual 141, 3) := by decide +kernel
theorem dX7_writeBits_4 : decode cX7_writeBits 4 = .ok (.aload_n 0, 1) := by decide +kernel
theorem dX7_writeBits_5 : decode cX7_writeBits 5 = .ok (.iload_n 1, 1) := by decide +kernel
theorem dX7_writeBits_6 : decode cX7_writeBits 6 = .ok (.invokevirtual 172, 3) := by decide +kernel
theorem dX7_writeBits_9 : decode cX7_writeBits 9 = .ok (.aload_n 0, 1) := by decide +kernel
theorem dX7_writeBits_10 : decode cX7_writeBits 10 = .ok (.iload_n 2, 1) := by decide +kernel
theorem dX7_writeBits_11 : decode cX7_writeBits 11 = .ok (.iload_n 3, 1) := by decide +kernel
theorem dX7_writeBits_12 : decode cX7_writeBits 12 = .ok (.invokevirtual 182, 3) := by decide +kernel
theorem dX7_writeBits_15 : decode cX7_writeBits 15 = .ok (.iload_n 3, 1) := by decide +kernel
theorem dX7_writeBits_16 : decode cX7_writeBits 16 = .ok (.iload_n 2, 1) := by decide +kernel
theorem dX7_writeBits_17 : decode cX7_writeBits 17 = .ok (.isub, 1) := by decide +kernel
theorem dX7_writeBits_18 : decode cX7_writeBits 18 = .ok (.sipush 200, 3) := by decide +kernel
theorem dX7_writeBits_21 : decode cX7_writeBits 21 = .ok (.if_icmp .lt 14, 3) := by decide +kernel
theorem dX7_writeBits_24 : decode cX7_writeBits 24 = .ok (.new 101, 3) := by decide +kernel
theorem dX7_writeBits_27 : decode cX7_writeBits 27 = .ok (.dup, 1) := by decide +kernel
theorem dX7_writeBits_28 : decode cX7_writeBits 28 = .ok (.ldc_w 289, 3) := by decide +kernel
theorem dX7_writeBits_31 : decode cX7_writeBits 31 = .ok (.invokespecial 105, 3) := by decide +kernel
theorem dX7_writeBits_34 : decode cX7_writeBits 34 = .ok (.athrow, 1) := by decide +kernel
theorem dX7_writeBits_35 : decode cX7_writeBits 35 = .ok (.aload_n 0, 1) := by decide +kernel
theorem dX7_writeBits_36 : decode cX7_writeBits 36 = .ok (.getfield 57, 3) := by decide +kernel
theorem dX7_writeBits_39 : decode cX7_writeBits 39 = .ok (.invokevirtual 91, 3) := by decide +kernel
theorem dX7_writeBits_42 : decode cX7_writeBits 42 = .ok (.iload_n 2, 1) := by decide +kernel
theorem dX7_writeBits_43 : decode cX7_writeBits 43 = .ok (.istore 4, 2) := by decide +kernel
theorem dX7_writeBits_45 : decode cX7_writeBits 45 = .ok (.iload 4, 2) := by decide +kernel
theorem dX7_writeBits_47 : decode cX7_writeBits 47 = .ok (.iload_n 3, 1) := by decide +kernel
theorem dX7_writeBits_48 : decode cX7_writeBits 48 = .ok (.if_icmp .gt 37, 3) := by decide +kernel
theorem dX7_writeBits_51 : decode cX7_writeBits 51 = .ok (.aload_n 0, 1) := by decide +kernel
theorem dX7_writeBits_52 : decode cX7_writeBits 52 = .ok (.getfield 57, 3) := by decide +kernel
theorem dX7_writeBits_55 : decode cX7_writeBits 55 = .ok (.aload_n 0, 1) := by decide +kernel
theorem dX7_writeBits_56 : decode cX7_writeBits 56 = .ok (.getfield 26, 3) := by decide +kernel
theorem dX7_writeBits_59 : decode cX7_writeBits 59 = .ok (.iload_n 1, 1) := by decide +kernel
theorem dX7_writeBits_60 : decode cX7_writeBits 60 = .ok (.iload 4, 2) := by decide +kernel
theorem dX7_writeBits_62 : decode cX7_writeBits 62 = .ok (.invokevirtual 178, 3) := by decide +kernel
theorem dX7_writeBits_65 : decode cX7_writeBits 65 = .ok (.iconst 1, 1) := by decide +kernel
theorem dX7_writeBits_66 : decode cX7_writeBits 66 = .ok (.if_icmp .ne 8, 3) := by decide +kernel
theorem dX7_writeBits_69 : decode cX7_writeBits 69 = .ok (.bipush 49, 2) := by decide +kernel
theorem dX7_writeBits_71 : decode cX7_writeBits 71 = .ok (.goto 5, 3) := by decide +kernel
theorem dX7_writeBits_74 : decode cX7_writeBits 74 = .ok (.bipush 48, 2) := by decide +kernel
theorem dX7_writeBits_76 : decode cX7_writeBits 76 = .ok (.invokevirtual 283, 3) := by decide +kernel
theorem dX7_writeBits_79 : decode cX7_writeBits 79 = .ok (.iinc 4 1, 3) := by decide +kernel
theorem dX7_writeBits_82 : decode cX7_writeBits 82 = .ok (.goto (-37), 3) := by decide +kernel
theorem dX7_writeBits_85 : decode cX7_writeBits 85 = .ok (.aload_n 0, 1) := by decide +kernel
theorem dX7_writeBits_86 : decode cX7_writeBits 86 = .ok (.getfield 57, 3) := by decide +kernel
theorem dX7_writeBits_89 : decode cX7_writeBits 89 = .ok (.invokevirtual 81, 3) := by decide +kernel
theorem dX7_writeBits_92 : decode cX7_writeBits 92 = .ok (.ireturn, 1) := by decide +kernel
theorem dX7_writeTree_0 : decode cX7_writeTree 0 = .ok (.aload_n 0, 1) := by decide +kernel
theorem dX7_writeTree_1 : decode cX7_writeTree 1 = .ok (.invokevirtual 141, 3) := by decide +kernel
theorem dX7_writeTree_4 : decode cX7_writeTree 4 = .ok (.aload_n 0, 1) := by decide +kernel
theorem dX7_writeTree_5 : decode cX7_writeTree 5 = .ok (.iload_n 1, 1) := by decide +kernel
theorem dX7_writeTree_6 : decode cX7_writeTree 6 = .ok (.invokevirtual 172, 3) := by decide +kernel
theorem dX7_writeTree_9 : decode cX7_writeTree 9 = .ok (.aload_n 0, 1) := by decide +kernel
theorem dX7_writeTree_10 : decode cX7_writeTree 10 = .ok (.getfield 37, 3) := by decide +kernel
theorem dX7_writeTree_13 : decode cX7_writeTree 13 = .ok (.iload_n 1, 1) := by decide +kernel
theorem dX7_writeTree_14 : decode cX7_writeTree 14 = .ok (.aload_n 0, 1) := by decide +kernel
theorem dX7_writeTree_15 : decode cX7_writeTree 15 = .ok (.getfield 121, 3) := by decide +kernel
theorem dX7_writeTree_18 : decode cX7_writeTree 18 = .ok (.invokevirtual 213, 3) := by decide +kernel
theorem dX7_writeTree_21 : decode cX7_writeTree 21 = .ok (.aload_n 0, 1) := by decide +kernel
theorem dX7_writeTree_22 : decode cX7_writeTree 22 = .ok (.getfield 57, 3) := by decide +kernel
theorem dX7_writeTree_25 : decode cX7_writeTree 25 = .ok (.invokevirtual 91, 3) := by decide +kernel
theorem dX7_writeTree_28 : decode cX7_writeTree 28 = .ok (.aload_n 0, 1) := by decide +kernel
theorem dX7_writeTree_29 : decode cX7_writeTree 29 = .ok (.getfield 37, 3) := by decide +kernel
theorem dX7_writeTree_32 : decode cX7_writeTree 32 = .ok (.aload_n 0, 1) := by decide +kernel
theorem dX7_writeTree_33 : decode cX7_writeTree 33 = .ok (.getfield 57, 3) := by decide +kernel
theorem dX7_writeTree_36 : decode cX7_writeTree 36 = .ok (.invokevirtual 291, 3) := by decide +kernel
theorem dX7_writeTree_39 : decode cX7_writeTree 39 = .ok (.aload_n 0, 1) := by decide +kernel
theorem dX7_writeTree_40 : decode cX7_writeTree 40 = .ok (.getfield 57, 3) := by decide +kernel
theorem dX7_writeTree_43 : decode cX7_writeTree 43 = .ok (.invokevirtual 81, 3) := by decide +kernel
theorem dX7_writeTree_46 : decode cX7_writeTree 46 = .ok (.ireturn, 1) := by decide +kernel
theorem dX7_textByte_0 : decode cX7_textByte 0 = .ok (.iload_n 1, 1) := by decide +kernel
theorem dX7_textByte_1 : decode cX7_textByte 1 = .ok (.ifCond .lt 14, 3) := by decide +kernel
theorem dX7_textByte_4 : decode cX7_textByte 4 = .ok (.iload_n 1, 1) := by decide +kernel
theorem dX7_textByte_5 : decode cX7_textByte 5 = .ok (.aload_n 0, 1) := by decide +kernel
theorem dX7_textByte_6 : decode cX7_textByte 6 = .ok (.getfield 57, 3) := by decide +kernel
theorem dX7_textByte_9 : decode cX7_textByte 9 = .ok (.invokevirtual 81, 3) := by decide +kernel
theorem dX7_textByte_12 : decode cX7_textByte 12 = .ok (.if_icmp .lt 14, 3) := by decide +kernel
theorem dX7_textByte_15 : decode cX7_textByte 15 = .ok (.new 192, 3) := by decide +kernel
theorem dX7_textByte_18 : decode cX7_textByte 18 = .ok (.dup, 1) := by decide +kernel
theorem dX7_textByte_19 : decode cX7_textByte 19 = .ok (.ldc_w 295, 3) := by decide +kernel
theorem dX7_textByte_22 : decode cX7_textByte 22 = .ok (.invokespecial 196, 3) := by decide +kernel
theorem dX7_textByte_25 : decode cX7_textByte 25 = .ok (.athrow, 1) := by decide +kernel
theorem dX7_textByte_26 : decode cX7_textByte 26 = .ok (.aload_n 0, 1) := by decide +kernel
theorem dX7_textByte_27 : decode cX7_textByte 27 = .ok (.getfield 57, 3) := by decide +kernel
theorem dX7_textByte_30 : decode cX7_textByte 30 = .ok (.iload_n 1, 1) := by decide +kernel
theorem dX7_textByte_31 : decode cX7_textByte 31 = .ok (.invokevirtual 156, 3) := by decide +kernel
theorem dX7_textByte_34 : decode cX7_textByte 34 = .ok (.ireturn, 1) := by decide +kernel
theorem dX7_fill_0 : decode cX7_fill 0 = .ok (.aload_n 0, 1) := by decide +kernel
theorem dX7_fill_1 : decode cX7_fill 1 = .ok (.invokevirtual 141, 3) := by decide +kernel
theorem dX7_fill_4 : decode cX7_fill 4 = .ok (.aload_n 0, 1) := by decide +kernel
theorem dX7_fill_5 : decode cX7_fill 5 = .ok (.iload_n 1, 1) := by decide +kernel
theorem dX7_fill_6 : decode cX7_fill 6 = .ok (.invokevirtual 172, 3) := by decide +kernel
theorem dX7_fill_9 : decode cX7_fill 9 = .ok (.aload_n 0, 1) := by decide +kernel
theorem dX7_fill_10 : decode cX7_fill 10 = .ok (.iload_n 2, 1) := by decide +kernel
theorem dX7_fill_11 : decode cX7_fill 11 = .ok (.iload_n 3, 1) := by decide +kernel
theorem dX7_fill_12 : decode cX7_fill 12 = .ok (.invokevirtual 182, 3) := by decide +kernel
theorem dX7_fill_15 : decode cX7_fill 15 = .ok (.aload_n 0, 1) := by decide +kernel
theorem dX7_fill_16 : decode cX7_fill 16 = .ok (.iload 4, 2) := by decide +kernel
theorem dX7_fill_18 : decode cX7_fill 18 = .ok (.invokevirtual 189, 3) := by decide +kernel
theorem dX7_fill_21 : decode cX7_fill 21 = .ok (.aload_n 0, 1) := by decide +kernel
theorem dX7_fill_22 : decode cX7_fill 22 = .ok (.getfield 53, 3) := by decide +kernel
theorem dX7_fill_25 : decode cX7_fill 25 = .ok (.iload_n 1, 1) := by decide +kernel
theorem dX7_fill_26 : decode cX7_fill 26 = .ok (.invokevirtual 297, 3) := by decide +kernel
theorem dX7_fill_29 : decode cX7_fill 29 = .ok (.aload_n 0, 1) := by decide +kernel
theorem dX7_fill_30 : decode cX7_fill 30 = .ok (.getfield 26, 3) := by decide +kernel
theorem dX7_fill_33 : decode cX7_fill 33 = .ok (.iload_n 1, 1) := by decide +kernel
theorem dX7_fill_34 : decode cX7_fill 34 = .ok (.iload_n 2, 1) := by decide +kernel
theorem dX7_fill_35 : decode cX7_fill 35 = .ok (.iload_n 3, 1) := by decide +kernel
theorem dX7_fill_36 : decode cX7_fill 36 = .ok (.invokevirtual 185, 3) := by decide +kernel
theorem dX7_fill_39 : decode cX7_fill 39 = .ok (.istore 5, 2) := by decide +kernel
theorem dX7_fill_41 : decode cX7_fill 41 = .ok (.aload_n 0, 1) := by decide +kernel
theorem dX7_fill_42 : decode cX7_fill 42 = .ok (.getfield 26, 3) := by decide +kernel
theorem dX7_fill_45 : decode cX7_fill 45 = .ok (.iload_n 1, 1) := by decide +kernel
theorem dX7_fill_46 : decode cX7_fill 46 = .ok (.iload_n 2, 1) := by decide +kernel
theorem dX7_fill_47 : decode cX7_fill 47 = .ok (.iload_n 3, 1) := by decide +kernel
theorem dX7_fill_48 : decode cX7_fill 48 = .ok (.iload 4, 2) := by decide +kernel
theorem dX7_fill_50 : decode cX7_fill 50 = .ok (.invokevirtual 277, 3) := by decide +kernel
theorem dX7_fill_53 : decode cX7_fill 53 = .ok (.iload 4, 2) := by decide +kernel
theorem dX7_fill_55 : decode cX7_fill 55 = .ok (.iconst 1, 1) := by decide +kernel
theorem dX7_fill_56 : decode cX7_fill 56 = .ok (.if_icmp .ne 14, 3) := by decide +kernel
theorem dX7_fill_59 : decode cX7_fill 59 = .ok (.iload_n 3, 1) := by decide +kernel
theorem dX7_fill_60 : decode cX7_fill 60 = .ok (.iload_n 2, 1) := by decide +kernel
theorem dX7_fill_61 : decode cX7_fill 61 = .ok (.isub, 1) := by decide +kernel
theorem dX7_fill_62 : decode cX7_fill 62 = .ok (.iconst 1, 1) := by decide +kernel
theorem dX7_fill_63 : decode cX7_fill 63 = .ok (.iadd, 1) := by decide +kernel
theorem dX7_fill_64 : decode cX7_fill 64 = .ok (.iload 5, 2) := by decide +kernel
theorem dX7_fill_66 : decode cX7_fill 66 = .ok (.isub, 1) := by decide +kernel
theorem dX7_fill_67 : decode cX7_fill 67 = .ok (.goto 5, 3) := by decide +kernel
theorem dX7_fill_70 : decode cX7_fill 70 = .ok (.iload 5, 2) := by decide +kernel
theorem dX7_fill_72 : decode cX7_fill 72 = .ok (.ireturn, 1) := by decide +kernel
theorem dX7_flip_0 : decode cX7_flip 0 = .ok (.aload_n 0, 1) := by decide +kernel
theorem dX7_flip_1 : decode cX7_flip 1 = .ok (.invokevirtual 141, 3) := by decide +kernel
theorem dX7_flip_4 : decode cX7_flip 4 = .ok (.aload_n 0, 1) := by decide +kernel
theorem dX7_flip_5 : decode cX7_flip 5 = .ok (.iload_n 1, 1) := by decide +kernel
theorem dX7_flip_6 : decode cX7_flip 6 = .ok (.invokevirtual 172, 3) := by decide +kernel
theorem dX7_flip_9 : decode cX7_flip 9 = .ok (.aload_n 0, 1) := by decide +kernel
theorem dX7_flip_10 : decode cX7_flip 10 = .ok (.iload_n 2, 1) := by decide +kernel
theorem dX7_flip_11 : decode cX7_flip 11 = .ok (.iload_n 3, 1) := by decide +kernel
theorem dX7_flip_12 : decode cX7_flip 12 = .ok (.invokevirtual 182, 3) := by decide +kernel
theorem dX7_flip_15 : decode cX7_flip 15 = .ok (.aload_n 0, 1) := by decide +kernel
theorem dX7_flip_16 : decode cX7_flip 16 = .ok (.getfield 53, 3) := by decide +kernel
theorem dX7_flip_19 : decode cX7_flip 19 = .ok (.iload_n 1, 1) := by decide +kernel
theorem dX7_flip_20 : decode cX7_flip 20 = .ok (.invokevirtual 297, 3) := by decide +kernel
theorem dX7_flip_23 : decode cX7_flip 23 = .ok (.aload_n 0, 1) := by decide +kernel
theorem dX7_flip_24 : decode cX7_flip 24 = .ok (.iload_n 1, 1) := by decide +kernel
theorem dX7_flip_25 : decode cX7_flip 25 = .ok (.invokevirtual 202, 3) := by decide +kernel
theorem dX7_flip_28 : decode cX7_flip 28 = .ok (.istore 4, 2) := by decide +kernel
theorem dX7_flip_30 : decode cX7_flip 30 = .ok (.aload_n 0, 1) := by decide +kernel
theorem dX7_flip_31 : decode cX7_flip 31 = .ok (.getfield 26, 3) := by decide +kernel
theorem dX7_flip_34 : decode cX7_flip 34 = .ok (.iload_n 1, 1) := by decide +kernel
theorem dX7_flip_35 : decode cX7_flip 35 = .ok (.iload_n 2, 1) := by decide +kernel
theorem dX7_flip_36 : decode cX7_flip 36 = .ok (.iload_n 3, 1) := by decide +kernel
theorem dX7_flip_37 : decode cX7_flip 37 = .ok (.invokevirtual 300, 3) := by decide +kernel
theorem dX7_flip_40 : decode cX7_flip 40 = .ok (.aload_n 0, 1) := by decide +kernel
theorem dX7_flip_41 : decode cX7_flip 41 = .ok (.iload_n 1, 1) := by decide +kernel
theorem dX7_flip_42 : decode cX7_flip 42 = .ok (.invokevirtual 202, 3) := by decide +kernel
theorem dX7_flip_45 : decode cX7_flip 45 = .ok (.iload 4, 2) := by decide +kernel
theorem dX7_flip_47 : decode cX7_flip 47 = .ok (.isub, 1) := by decide +kernel
theorem dX7_flip_48 : decode cX7_flip 48 = .ok (.ireturn, 1) := by decide +kernel
theorem dX7_combine_0 : decode cX7_combine 0 = .ok (.aload_n 0, 1) := by decide +kernel
theorem dX7_combine_1 : decode cX7_combine 1 = .ok (.invokevirtual 141, 3) := by decide +kernel
theorem dX7_combine_4 : decode cX7_combine 4 = .ok (.aload_n 0, 1) := by decide +kernel
theorem dX7_combine_5 : decode cX7_combine 5 = .ok (.iload_n 2, 1) := by decide +kernel
theorem dX7_combine_6 : decode cX7_combine 6 = .ok (.invokevirtual 172, 3) := by decide +kernel
theorem dX7_combine_9 : decode cX7_combine 9 = .ok (.aload_n 0, 1) := by decide +kernel
theorem dX7_combine_10 : decode cX7_combine 10 = .ok (.iload_n 3, 1) := by decide +kernel
theorem dX7_combine_11 : decode cX7_combine 11 = .ok (.invokevirtual 172, 3) := by decide +kernel
theorem dX7_combine_14 : decode cX7_combine 14 = .ok (.aload_n 0, 1) := by decide +kernel
theorem dX7_combine_15 : decode cX7_combine 15 = .ok (.iload 4, 2) := by decide +kernel
theorem dX7_combine_17 : decode cX7_combine 17 = .ok (.invokevirtual 172, 3) := by decide +kernel
theorem dX7_combine_20 : decode cX7_combine 20 = .ok (.aload_n 0, 1) := by decide +kernel
theorem dX7_combine_21 : decode cX7_combine 21 = .ok (.iload_n 1, 1) := by decide +kernel
theorem dX7_combine_22 : decode cX7_combine 22 = .ok (.invokevirtual 271, 3) := by decide +kernel
theorem dX7_combine_25 : decode cX7_combine 25 = .ok (.aload_n 0, 1) := by decide +kernel
theorem dX7_combine_26 : decode cX7_combine 26 = .ok (.getfield 53, 3) := by decide +kernel
theorem dX7_combine_29 : decode cX7_combine 29 = .ok (.iload 4, 2) := by decide +kernel
theorem dX7_combine_31 : decode cX7_combine 31 = .ok (.invokevirtual 297, 3) := by decide +kernel
theorem dX7_combine_34 : decode cX7_combine 34 = .ok (.aload_n 0, 1) := by decide +kernel
theorem dX7_combine_35 : decode cX7_combine 35 = .ok (.getfield 26, 3) := by decide +kernel
theorem dX7_combine_38 : decode cX7_combine 38 = .ok (.iload_n 1, 1) := by decide +kernel
theorem dX7_combine_39 : decode cX7_combine 39 = .ok (.iload_n 2, 1) := by decide +kernel
theorem dX7_combine_40 : decode cX7_combine 40 = .ok (.iload_n 3, 1) := by decide +kernel
theorem dX7_combine_41 : decode cX7_combine 41 = .ok (.iload 4, 2) := by decide +kernel
theorem dX7_combine_43 : decode cX7_combine 43 = .ok (.invokevirtual 257, 3) := by decide +kernel
theorem dX7_combine_46 : decode cX7_combine 46 = .ok (.aload_n 0, 1) := by decide +kernel
theorem dX7_combine_47 : decode cX7_combine 47 = .ok (.iload 4, 2) := by decide +kernel
theorem dX7_combine_49 : decode cX7_combine 49 = .ok (.invokevirtual 254, 3) := by decide +kernel
theorem dX7_combine_52 : decode cX7_combine 52 = .ok (.ireturn, 1) := by decide +kernel
theorem dX7_copyBlock_0 : decode cX7_copyBlock 0 = .ok (.aload_n 0, 1) := by decide +kernel
theorem dX7_copyBlock_1 : decode cX7_copyBlock 1 = .ok (.invokevirtual 141, 3) := by decide +kernel
theorem dX7_copyBlock_4 : decode cX7_copyBlock 4 = .ok (.aload_n 0, 1) := by decide +kernel
theorem dX7_copyBlock_5 : decode cX7_copyBlock 5 = .ok (.iload_n 1, 1) := by decide +kernel
theorem dX7_copyBlock_6 : decode cX7_copyBlock 6 = .ok (.invokevirtual 172, 3) := by decide +kernel
theorem dX7_copyBlock_9 : decode cX7_copyBlock 9 = .ok (.aload_n 0, 1) := by decide +kernel
theorem dX7_copyBlock_10 : decode cX7_copyBlock 10 = .ok (.iload_n 2, 1) := by decide +kernel
theorem dX7_copyBlock_11 : decode cX7_copyBlock 11 = .ok (.iload_n 3, 1) := by decide +kernel
theorem dX7_copyBlock_12 : decode cX7_copyBlock 12 = .ok (.invokevirtual 225, 3) := by decide +kernel
theorem dX7_copyBlock_15 : decode cX7_copyBlock 15 = .ok (.aload_n 0, 1) := by decide +kernel
theorem dX7_copyBlock_16 : decode cX7_copyBlock 16 = .ok (.iload_n 2, 1) := by decide +kernel
theorem dX7_copyBlock_17 : decode cX7_copyBlock 17 = .ok (.iload 4, 2) := by decide +kernel
theorem dX7_copyBlock_19 : decode cX7_copyBlock 19 = .ok (.invokevirtual 225, 3) := by decide +kernel
theorem dX7_copyBlock_22 : decode cX7_copyBlock 22 = .ok (.aload_n 0, 1) := by decide +kernel
theorem dX7_copyBlock_23 : decode cX7_copyBlock 23 = .ok (.getfield 53, 3) := by decide +kernel
theorem dX7_copyBlock_26 : decode cX7_copyBlock 26 = .ok (.iload_n 1, 1) := by decide +kernel
theorem dX7_copyBlock_27 : decode cX7_copyBlock 27 = .ok (.invokevirtual 297, 3) := by decide +kernel
theorem dX7_copyBlock_30 : decode cX7_copyBlock 30 = .ok (.iload_n 2, 1) := by decide +kernel
theorem dX7_copyBlock_31 : decode cX7_copyBlock 31 = .ok (.invokestatic 164, 3) := by decide +kernel
theorem dX7_copyBlock_34 : decode cX7_copyBlock 34 = .ok (.istore 5, 2) := by decide +kernel
theorem dX7_copyBlock_36 : decode cX7_copyBlock 36 = .ok (.aload_n 0, 1) := by decide +kernel
theorem dX7_copyBlock_37 : decode cX7_copyBlock 37 = .ok (.getfield 26, 3) := by decide +kernel
theorem dX7_copyBlock_40 : decode cX7_copyBlock 40 = .ok (.iload_n 1, 1) := by decide +kernel
theorem dX7_copyBlock_41 : decode cX7_copyBlock 41 = .ok (.iload_n 3, 1) := by decide +kernel
theorem dX7_copyBlock_42 : decode cX7_copyBlock 42 = .ok (.iload 5, 2) := by decide +kernel
theorem dX7_copyBlock_44 : decode cX7_copyBlock 44 = .ok (.imul, 1) := by decide +kernel
theorem dX7_copyBlock_45 : decode cX7_copyBlock 45 = .ok (.iload 4, 2) := by decide +kernel
theorem dX7_copyBlock_47 : decode cX7_copyBlock 47 = .ok (.iload 5, 2) := by decide +kernel
theorem dX7_copyBlock_49 : decode cX7_copyBlock 49 = .ok (.imul, 1) := by decide +kernel
theorem dX7_copyBlock_50 : decode cX7_copyBlock 50 = .ok (.iload 5, 2) := by decide +kernel
theorem dX7_copyBlock_52 : decode cX7_copyBlock 52 = .ok (.invokevirtual 304, 3) := by decide +kernel
theorem dX7_copyBlock_55 : decode cX7_copyBlock 55 = .ok (.aload_n 0, 1) := by decide +kernel
theorem dX7_copyBlock_56 : decode cX7_copyBlock 56 = .ok (.iload_n 1, 1) := by decide +kernel
theorem dX7_copyBlock_57 : decode cX7_copyBlock 57 = .ok (.invokevirtual 202, 3) := by decide +kernel
theorem dX7_copyBlock_60 : decode cX7_copyBlock 60 = .ok (.ireturn, 1) := by decide +kernel
theorem dX7_shift_0 : decode cX7_shift 0 = .ok (.aload_n 0, 1) := by decide +kernel
theorem dX7_shift_1 : decode cX7_shift 1 = .ok (.invokevirtual 141, 3) := by decide +kernel
theorem dX7_shift_4 : decode cX7_shift 4 = .ok (.aload_n 0, 1) := by decide +kernel
theorem dX7_shift_5 : decode cX7_shift 5 = .ok (.iload_n 1, 1) := by decide +kernel
theorem dX7_shift_6 : decode cX7_shift 6 = .ok (.invokevirtual 172, 3) := by decide +kernel
theorem dX7_shift_9 : decode cX7_shift 9 = .ok (.aload_n 0, 1) := by decide +kernel
theorem dX7_shift_10 : decode cX7_shift 10 = .ok (.getfield 53, 3) := by decide +kernel
theorem dX7_shift_13 : decode cX7_shift 13 = .ok (.iload_n 1, 1) := by decide +kernel
theorem dX7_shift_14 : decode cX7_shift 14 = .ok (.invokevirtual 297, 3) := by decide +kernel
theorem dX7_shift_17 : decode cX7_shift 17 = .ok (.aload_n 0, 1) := by decide +kernel
theorem dX7_shift_18 : decode cX7_shift 18 = .ok (.iload_n 1, 1) := by decide +kernel
theorem dX7_shift_19 : decode cX7_shift 19 = .ok (.invokevirtual 254, 3) := by decide +kernel
theorem dX7_shift_22 : decode cX7_shift 22 = .ok (.istore_n 3, 1) := by decide +kernel
theorem dX7_shift_23 : decode cX7_shift 23 = .ok (.aload_n 0, 1) := by decide +kernel
theorem dX7_shift_24 : decode cX7_shift 24 = .ok (.getfield 26, 3) := by decide +kernel
theorem dX7_shift_27 : decode cX7_shift 27 = .ok (.iload_n 1, 1) := by decide +kernel
theorem dX7_shift_28 : decode cX7_shift 28 = .ok (.iload_n 2, 1) := by decide +kernel
theorem dX7_shift_29 : decode cX7_shift 29 = .ok (.bipush 8, 2) := by decide +kernel
theorem dX7_shift_31 : decode cX7_shift 31 = .ok (.aload_n 0, 1) := by decide +kernel
theorem dX7_shift_32 : decode cX7_shift 32 = .ok (.getfield 121, 3) := by decide +kernel
theorem dX7_shift_35 : decode cX7_shift 35 = .ok (.invokestatic 164, 3) := by decide +kernel
theorem dX7_shift_38 : decode cX7_shift 38 = .ok (.imul, 1) := by decide +kernel
theorem dX7_shift_39 : decode cX7_shift 39 = .ok (.bipush 32, 2) := by decide +kernel
theorem dX7_shift_41 : decode cX7_shift 41 = .ok (.invokevirtual 280, 3) := by decide +kernel
theorem dX7_shift_44 : decode cX7_shift 44 = .ok (.aload_n 0, 1) := by decide +kernel
theorem dX7_shift_45 : decode cX7_shift 45 = .ok (.getfield 26, 3) := by decide +kernel
theorem dX7_shift_48 : decode cX7_shift 48 = .ok (.bipush 32, 2) := by decide +kernel
theorem dX7_shift_50 : decode cX7_shift 50 = .ok (.iload_n 1, 1) := by decide +kernel
theorem dX7_shift_51 : decode cX7_shift 51 = .ok (.invokevirtual 135, 3) := by decide +kernel
theorem dX7_shift_54 : decode cX7_shift 54 = .ok (.iload_n 3, 1) := by decide +kernel
theorem dX7_shift_55 : decode cX7_shift 55 = .ok (.aload_n 0, 1) := by decide +kernel
theorem dX7_shift_56 : decode cX7_shift 56 = .ok (.iload_n 1, 1) := by decide +kernel
theorem dX7_shift_57 : decode cX7_shift 57 = .ok (.invokevirtual 254, 3) := by decide +kernel
theorem dX7_shift_60 : decode cX7_shift 60 = .ok (.isub, 1) := by decide +kernel
theorem dX7_shift_61 : decode cX7_shift 61 = .ok (.ireturn, 1) := by decide +kernel
theorem dX7_mirror_0 : decode cX7_mirror 0 = .ok (.aload_n 0, 1) := by decide +kernel
theorem dX7_mirror_1 : decode cX7_mirror 1 = .ok (.invokevirtual 141, 3) := by decide +kernel
theorem dX7_mirror_4 : decode cX7_mirror 4 = .ok (.aload_n 0, 1) := by decide +kernel
theorem dX7_mirror_5 : decode cX7_mirror 5 = .ok (.iload_n 1, 1) := by decide +kernel
theorem dX7_mirror_6 : decode cX7_mirror 6 = .ok (.invokevirtual 172, 3) := by decide +kernel
theorem dX7_mirror_9 : decode cX7_mirror 9 = .ok (.aload_n 0, 1) := by decide +kernel
theorem dX7_mirror_10 : decode cX7_mirror 10 = .ok (.getfield 53, 3) := by decide +kernel
theorem dX7_mirror_13 : decode cX7_mirror 13 = .ok (.iload_n 1, 1) := by decide +kernel
theorem dX7_mirror_14 : decode cX7_mirror 14 = .ok (.invokevirtual 297, 3) := by decide +kernel
theorem dX7_mirror_17 : decode cX7_mirror 17 = .ok (.aload_n 0, 1) := by decide +kernel
theorem dX7_mirror_18 : decode cX7_mirror 18 = .ok (.getfield 26, 3) := by decide +kernel
theorem dX7_mirror_21 : decode cX7_mirror 21 = .ok (.iload_n 1, 1) := by decide +kernel
theorem dX7_mirror_22 : decode cX7_mirror 22 = .ok (.bipush 8, 2) := by decide +kernel
theorem dX7_mirror_24 : decode cX7_mirror 24 = .ok (.aload_n 0, 1) := by decide +kernel
theorem dX7_mirror_25 : decode cX7_mirror 25 = .ok (.getfield 121, 3) := by decide +kernel
theorem dX7_mirror_28 : decode cX7_mirror 28 = .ok (.invokestatic 164, 3) := by decide +kernel
theorem dX7_mirror_31 : decode cX7_mirror 31 = .ok (.imul, 1) := by decide +kernel
theorem dX7_mirror_32 : decode cX7_mirror 32 = .ok (.bipush 32, 2) := by decide +kernel
theorem dX7_mirror_34 : decode cX7_mirror 34 = .ok (.invokevirtual 307, 3) := by decide +kernel
theorem dX7_mirror_37 : decode cX7_mirror 37 = .ok (.aload_n 0, 1) := by decide +kernel
theorem dX7_mirror_38 : decode cX7_mirror 38 = .ok (.getfield 26, 3) := by decide +kernel
theorem dX7_mirror_41 : decode cX7_mirror 41 = .ok (.bipush 32, 2) := by decide +kernel
theorem dX7_mirror_43 : decode cX7_mirror 43 = .ok (.iload_n 1, 1) := by decide +kernel
theorem dX7_mirror_44 : decode cX7_mirror 44 = .ok (.invokevirtual 135, 3) := by decide +kernel
theorem dX7_mirror_47 : decode cX7_mirror 47 = .ok (.aload_n 0, 1) := by decide +kernel
theorem dX7_mirror_48 : decode cX7_mirror 48 = .ok (.iload_n 1, 1) := by decide +kernel
theorem dX7_mirror_49 : decode cX7_mirror 49 = .ok (.invokevirtual 202, 3) := by decide +kernel
theorem dX7_mirror_52 : decode cX7_mirror 52 = .ok (.ireturn, 1) := by decide +kernel
theorem dX7_read_0 : decode cX7_read 0 = .ok (.aload_n 0, 1) := by decide +kernel
theorem dX7_read_1 : decode cX7_read 1 = .ok (.invokevirtual 141, 3) := by decide +kernel
theorem dX7_read_4 : decode cX7_read 4 = .ok (.aload_n 0, 1) := by decide +kernel
theorem dX7_read_5 : decode cX7_read 5 = .ok (.iload_n 1, 1) := by decide +kernel
theorem dX7_read_6 : decode cX7_read 6 = .ok (.invokevirtual 172, 3) := by decide +kernel
theorem dX7_read_9 : decode cX7_read 9 = .ok (.aload_n 0, 1) := by decide +kernel
theorem dX7_read_10 : decode cX7_read 10 = .ok (.iload_n 2, 1) := by decide +kernel
theorem dX7_read_11 : decode cX7_read 11 = .ok (.invokevirtual 85, 3) := by decide +kernel
theorem dX7_read_14 : decode cX7_read 14 = .ok (.aload_n 0, 1) := by decide +kernel
theorem dX7_read_15 : decode cX7_read 15 = .ok (.iload_n 2, 1) := by decide +kernel
theorem dX7_read_16 : decode cX7_read 16 = .ok (.invokevirtual 150, 3) := by decide +kernel
theorem dX7_read_19 : decode cX7_read 19 = .ok (.istore_n 3, 1) := by decide +kernel
theorem dX7_read_20 : decode cX7_read 20 = .ok (.aload_n 0, 1) := by decide +kernel
theorem dX7_read_21 : decode cX7_read 21 = .ok (.getfield 22, 3) := by decide +kernel
theorem dX7_read_24 : decode cX7_read 24 = .ok (.invokevirtual 91, 3) := by decide +kernel
theorem dX7_read_27 : decode cX7_read 27 = .ok (.iload_n 3, 1) := by decide +kernel
theorem dX7_read_28 : decode cX7_read 28 = .ok (.iconst (-1), 1) := by decide +kernel
theorem dX7_read_29 : decode cX7_read 29 = .ok (.if_icmp .eq 14, 3) := by decide +kernel
theorem dX7_read_32 : decode cX7_read 32 = .ok (.new 101, 3) := by decide +kernel
theorem dX7_read_35 : decode cX7_read 35 = .ok (.dup, 1) := by decide +kernel
theorem dX7_read_36 : decode cX7_read 36 = .ok (.ldc_w 310, 3) := by decide +kernel
theorem dX7_read_39 : decode cX7_read 39 = .ok (.invokespecial 105, 3) := by decide +kernel
theorem dX7_read_42 : decode cX7_read 42 = .ok (.athrow, 1) := by decide +kernel
theorem dX7_read_43 : decode cX7_read 43 = .ok (.aload_n 0, 1) := by decide +kernel
theorem dX7_read_44 : decode cX7_read 44 = .ok (.getfield 53, 3) := by decide +kernel
theorem dX7_read_47 : decode cX7_read 47 = .ok (.iload_n 1, 1) := by decide +kernel
theorem dX7_read_48 : decode cX7_read 48 = .ok (.invokevirtual 297, 3) := by decide +kernel
theorem dX7_read_51 : decode cX7_read 51 = .ok (.aload_n 0, 1) := by decide +kernel
theorem dX7_read_52 : decode cX7_read 52 = .ok (.getfield 26, 3) := by decide +kernel
theorem dX7_read_55 : decode cX7_read 55 = .ok (.bipush 32, 2) := by decide +kernel
theorem dX7_read_57 : decode cX7_read 57 = .ok (.iload_n 1, 1) := by decide +kernel
theorem dX7_read_58 : decode cX7_read 58 = .ok (.invokevirtual 135, 3) := by decide +kernel
theorem dX7_read_61 : decode cX7_read 61 = .ok (.aload_n 0, 1) := by decide +kernel
theorem dX7_read_62 : decode cX7_read 62 = .ok (.iload_n 1, 1) := by decide +kernel
theorem dX7_read_63 : decode cX7_read 63 = .ok (.invokevirtual 254, 3) := by decide +kernel
theorem dX7_read_66 : decode cX7_read 66 = .ok (.ireturn, 1) := by decide +kernel
theorem dX7_undo_0 : decode cX7_undo 0 = .ok (.aload_n 0, 1) := by decide +kernel
theorem dX7_undo_1 : decode cX7_undo 1 = .ok (.getfield 53, 3) := by decide +kernel
theorem dX7_undo_4 : decode cX7_undo 4 = .ok (.invokevirtual 312, 3) := by decide +kernel
theorem dX7_undo_7 : decode cX7_undo 7 = .ok (.ifCond .ne 14, 3) := by decide +kernel
theorem dX7_undo_10 : decode cX7_undo 10 = .ok (.new 313, 3) := by decide +kernel
theorem dX7_undo_13 : decode cX7_undo 13 = .ok (.dup, 1) := by decide +kernel
theorem dX7_undo_14 : decode cX7_undo 14 = .ok (.ldc_w 315, 3) := by decide +kernel
theorem dX7_undo_17 : decode cX7_undo 17 = .ok (.invokespecial 317, 3) := by decide +kernel
theorem dX7_undo_20 : decode cX7_undo 20 = .ok (.athrow, 1) := by decide +kernel
theorem dX7_undo_21 : decode cX7_undo 21 = .ok (.aload_n 0, 1) := by decide +kernel
theorem dX7_undo_22 : decode cX7_undo 22 = .ok (.getfield 53, 3) := by decide +kernel
theorem dX7_undo_25 : decode cX7_undo 25 = .ok (.invokevirtual 318, 3) := by decide +kernel
theorem dX7_undo_28 : decode cX7_undo 28 = .ok (.aload_n 0, 1) := by decide +kernel
theorem dX7_undo_29 : decode cX7_undo 29 = .ok (.getfield 53, 3) := by decide +kernel
theorem dX7_undo_32 : decode cX7_undo 32 = .ok (.invokevirtual 312, 3) := by decide +kernel
theorem dX7_undo_35 : decode cX7_undo 35 = .ok (.ireturn, 1) := by decide +kernel
theorem dX7_undoable_0 : decode cX7_undoable 0 = .ok (.aload_n 0, 1) := by decide +kernel
theorem dX7_undoable_1 : decode cX7_undoable 1 = .ok (.getfield 53, 3) := by decide +kernel
theorem dX7_undoable_4 : decode cX7_undoable 4 = .ok (.invokevirtual 312, 3) := by decide +kernel
theorem dX7_undoable_7 : decode cX7_undoable 7 = .ok (.ireturn, 1) := by decide +kernel
theorem dX7_save_0 : decode cX7_save 0 = .ok (.aload_n 0, 1) := by decide +kernel
theorem dX7_save_1 : decode cX7_save 1 = .ok (.invokevirtual 141, 3) := by decide +kernel
theorem dX7_save_4 : decode cX7_save 4 = .ok (.aload_n 0, 1) := by decide +kernel
theorem dX7_save_5 : decode cX7_save 5 = .ok (.iload_n 1, 1) := by decide +kernel
theorem dX7_save_6 : decode cX7_save 6 = .ok (.invokevirtual 321, 3) := by decide +kernel
theorem dX7_save_9 : decode cX7_save 9 = .ok (.iconst 0, 1) := by decide +kernel
theorem dX7_save_10 : decode cX7_save 10 = .ok (.istore_n 2, 1) := by decide +kernel
theorem dX7_save_11 : decode cX7_save 11 = .ok (.iload_n 2, 1) := by decide +kernel
theorem dX7_save_12 : decode cX7_save 12 = .ok (.bipush 6, 2) := by decide +kernel
theorem dX7_save_14 : decode cX7_save 14 = .ok (.if_icmp .ge 26, 3) := by decide +kernel
theorem dX7_save_17 : decode cX7_save 17 = .ok (.aload_n 0, 1) := by decide +kernel
theorem dX7_save_18 : decode cX7_save 18 = .ok (.getfield 26, 3) := by decide +kernel
theorem dX7_save_21 : decode cX7_save 21 = .ok (.iload_n 2, 1) := by decide +kernel
theorem dX7_save_22 : decode cX7_save 22 = .ok (.bipush 20, 2) := by decide +kernel
theorem dX7_save_24 : decode cX7_save 24 = .ok (.iload_n 1, 1) := by decide +kernel
theorem dX7_save_25 : decode cX7_save 25 = .ok (.bipush 6, 2) := by decide +kernel
theorem dX7_save_27 : decode cX7_save 27 = .ok (.imul, 1) := by decide +kernel
theorem dX7_save_28 : decode cX7_save 28 = .ok (.iadd, 1) := by decide +kernel
theorem dX7_save_29 : decode cX7_save 29 = .ok (.iload_n 2, 1) := by decide +kernel
theorem dX7_save_30 : decode cX7_save 30 = .ok (.iadd, 1) := by decide +kernel
theorem dX7_save_31 : decode cX7_save 31 = .ok (.invokevirtual 135, 3) := by decide +kernel
theorem dX7_save_34 : decode cX7_save 34 = .ok (.iinc 2 1, 3) := by decide +kernel
theorem dX7_save_37 : decode cX7_save 37 = .ok (.goto (-26), 3) := by decide +kernel
theorem dX7_save_40 : decode cX7_save 40 = .ok (.aload_n 0, 1) := by decide +kernel
theorem dX7_save_41 : decode cX7_save 41 = .ok (.getfield 67, 3) := by decide +kernel
theorem dX7_save_44 : decode cX7_save 44 = .ok (.iload_n 1, 1) := by decide +kernel
theorem dX7_save_45 : decode cX7_save 45 = .ok (.iconst 1, 1) := by decide +kernel
theorem dX7_save_46 : decode cX7_save 46 = .ok (.invokevirtual 131, 3) := by decide +kernel
theorem dX7_save_49 : decode cX7_save 49 = .ok (.aload_n 0, 1) := by decide +kernel
theorem dX7_save_50 : decode cX7_save 50 = .ok (.invokevirtual 167, 3) := by decide +kernel
theorem dX7_save_53 : decode cX7_save 53 = .ok (.ireturn, 1) := by decide +kernel
theorem dX7_restore_0 : decode cX7_restore 0 = .ok (.aload_n 0, 1) := by decide +kernel
theorem dX7_restore_1 : decode cX7_restore 1 = .ok (.iload_n 1, 1) := by decide +kernel
theorem dX7_restore_2 : decode cX7_restore 2 = .ok (.invokevirtual 321, 3) := by decide +kernel
theorem dX7_restore_5 : decode cX7_restore 5 = .ok (.aload_n 0, 1) := by decide +kernel
theorem dX7_restore_6 : decode cX7_restore 6 = .ok (.getfield 67, 3) := by decide +kernel
theorem dX7_restore_9 : decode cX7_restore 9 = .ok (.iload_n 1, 1) := by decide +kernel
theorem dX7_restore_10 : decode cX7_restore 10 = .ok (.invokevirtual 147, 3) := by decide +kernel
theorem dX7_restore_13 : decode cX7_restore 13 = .ok (.ifCond .ne 14, 3) := by decide +kernel
theorem dX7_restore_16 : decode cX7_restore 16 = .ok (.new 313, 3) := by decide +kernel
theorem dX7_restore_19 : decode cX7_restore 19 = .ok (.dup, 1) := by decide +kernel
theorem dX7_restore_20 : decode cX7_restore 20 = .ok (.ldc_w 324, 3) := by decide +kernel
theorem dX7_restore_23 : decode cX7_restore 23 = .ok (.invokespecial 317, 3) := by decide +kernel
theorem dX7_restore_26 : decode cX7_restore 26 = .ok (.athrow, 1) := by decide +kernel
theorem dX7_restore_27 : decode cX7_restore 27 = .ok (.iconst 0, 1) := by decide +kernel
theorem dX7_restore_28 : decode cX7_restore 28 = .ok (.istore_n 2, 1) := by decide +kernel
theorem dX7_restore_29 : decode cX7_restore 29 = .ok (.iload_n 2, 1) := by decide +kernel
theorem dX7_restore_30 : decode cX7_restore 30 = .ok (.bipush 6, 2) := by decide +kernel
theorem dX7_restore_32 : decode cX7_restore 32 = .ok (.if_icmp .ge 26, 3) := by decide +kernel
theorem dX7_restore_35 : decode cX7_restore 35 = .ok (.aload_n 0, 1) := by decide +kernel
theorem dX7_restore_36 : decode cX7_restore 36 = .ok (.getfield 26, 3) := by decide +kernel
theorem dX7_restore_39 : decode cX7_restore 39 = .ok (.bipush 20, 2) := by decide +kernel
theorem dX7_restore_41 : decode cX7_restore 41 = .ok (.iload_n 1, 1) := by decide +kernel
theorem dX7_restore_42 : decode cX7_restore 42 = .ok (.bipush 6, 2) := by decide +kernel
theorem dX7_restore_44 : decode cX7_restore 44 = .ok (.imul, 1) := by decide +kernel
theorem dX7_restore_45 : decode cX7_restore 45 = .ok (.iadd, 1) := by decide +kernel
theorem dX7_restore_46 : decode cX7_restore 46 = .ok (.iload_n 2, 1) := by decide +kernel
theorem dX7_restore_47 : decode cX7_restore 47 = .ok (.iadd, 1) := by decide +kernel
theorem dX7_restore_48 : decode cX7_restore 48 = .ok (.iload_n 2, 1) := by decide +kernel
theorem dX7_restore_49 : decode cX7_restore 49 = .ok (.invokevirtual 135, 3) := by decide +kernel
theorem dX7_restore_52 : decode cX7_restore 52 = .ok (.iinc 2 1, 3) := by decide +kernel
theorem dX7_restore_55 : decode cX7_restore 55 = .ok (.goto (-26), 3) := by decide +kernel
theorem dX7_restore_58 : decode cX7_restore 58 = .ok (.aload_n 0, 1) := by decide +kernel
theorem dX7_restore_59 : decode cX7_restore 59 = .ok (.getfield 53, 3) := by decide +kernel
theorem dX7_restore_62 : decode cX7_restore 62 = .ok (.invokevirtual 138, 3) := by decide +kernel
theorem dX7_restore_65 : decode cX7_restore 65 = .ok (.aload_n 0, 1) := by decide +kernel
theorem dX7_restore_66 : decode cX7_restore 66 = .ok (.invokevirtual 167, 3) := by decide +kernel
theorem dX7_restore_69 : decode cX7_restore 69 = .ok (.ireturn, 1) := by decide +kernel
theorem dX7_requireText_0 : decode cX7_requireText 0 = .ok (.aload_n 0, 1) := by decide +kernel
theorem dX7_requireText_1 : decode cX7_requireText 1 = .ok (.getfield 114, 3) := by decide +kernel
theorem dX7_requireText_4 : decode cX7_requireText 4 = .ok (.ifCond .ne 14, 3) := by decide +kernel
theorem dX7_requireText_7 : decode cX7_requireText 7 = .ok (.new 313, 3) := by decide +kernel
theorem dX7_requireText_10 : decode cX7_requireText 10 = .ok (.dup, 1) := by decide +kernel
theorem dX7_requireText_11 : decode cX7_requireText 11 = .ok (.ldc_w 326, 3) := by decide +kernel
theorem dX7_requireText_14 : decode cX7_requireText 14 = .ok (.invokespecial 317, 3) := by decide +kernel
theorem dX7_requireText_17 : decode cX7_requireText 17 = .ok (.athrow, 1) := by decide +kernel
theorem dX7_requireText_18 : decode cX7_requireText 18 = .ok (.return_, 1) := by decide +kernel
theorem dX7_requireBuffered_0 : decode cX7_requireBuffered 0 = .ok (.iload_n 1, 1) := by decide +kernel
theorem dX7_requireBuffered_1 : decode cX7_requireBuffered 1 = .ok (.ifCond .lt 14, 3) := by decide +kernel
theorem dX7_requireBuffered_4 : decode cX7_requireBuffered 4 = .ok (.iload_n 1, 1) := by decide +kernel
theorem dX7_requireBuffered_5 : decode cX7_requireBuffered 5 = .ok (.aload_n 0, 1) := by decide +kernel
theorem dX7_requireBuffered_6 : decode cX7_requireBuffered 6 = .ok (.getfield 22, 3) := by decide +kernel
theorem dX7_requireBuffered_9 : decode cX7_requireBuffered 9 = .ok (.invokevirtual 81, 3) := by decide +kernel
theorem dX7_requireBuffered_12 : decode cX7_requireBuffered 12 = .ok (.if_icmp .le 14, 3) := by decide +kernel
theorem dX7_requireBuffered_15 : decode cX7_requireBuffered 15 = .ok (.new 192, 3) := by decide +kernel
theorem dX7_requireBuffered_18 : decode cX7_requireBuffered 18 = .ok (.dup, 1) := by decide +kernel
theorem dX7_requireBuffered_19 : decode cX7_requireBuffered 19 = .ok (.ldc_w 328, 3) := by decide +kernel
theorem dX7_requireBuffered_22 : decode cX7_requireBuffered 22 = .ok (.invokespecial 196, 3) := by decide +kernel
theorem dX7_requireBuffered_25 : decode cX7_requireBuffered 25 = .ok (.athrow, 1) := by decide +kernel
theorem dX7_requireBuffered_26 : decode cX7_requireBuffered 26 = .ok (.return_, 1) := by decide +kernel
theorem dX7_requireMap_0 : decode cX7_requireMap 0 = .ok (.iload_n 1, 1) := by decide +kernel
theorem dX7_requireMap_1 : decode cX7_requireMap 1 = .ok (.ifCond .lt 11, 3) := by decide +kernel
theorem dX7_requireMap_4 : decode cX7_requireMap 4 = .ok (.iload_n 1, 1) := by decide +kernel
theorem dX7_requireMap_5 : decode cX7_requireMap 5 = .ok (.aload_n 0, 1) := by decide +kernel
theorem dX7_requireMap_6 : decode cX7_requireMap 6 = .ok (.getfield 111, 3) := by decide +kernel
theorem dX7_requireMap_9 : decode cX7_requireMap 9 = .ok (.if_icmp .lt 14, 3) := by decide +kernel
theorem dX7_requireMap_12 : decode cX7_requireMap 12 = .ok (.new 192, 3) := by decide +kernel
theorem dX7_requireMap_15 : decode cX7_requireMap 15 = .ok (.dup, 1) := by decide +kernel
theorem dX7_requireMap_16 : decode cX7_requireMap 16 = .ok (.ldc_w 330, 3) := by decide +kernel
theorem dX7_requireMap_19 : decode cX7_requireMap 19 = .ok (.invokespecial 196, 3) := by decide +kernel
theorem dX7_requireMap_22 : decode cX7_requireMap 22 = .ok (.athrow, 1) := by decide +kernel
theorem dX7_requireMap_23 : decode cX7_requireMap 23 = .ok (.return_, 1) := by decide +kernel
theorem dX7_requirePosition_0 : decode cX7_requirePosition 0 = .ok (.iload_n 1, 1) := by decide +kernel
theorem dX7_requirePosition_1 : decode cX7_requirePosition 1 = .ok (.ifCond .lt 17, 3) := by decide +kernel
theorem dX7_requirePosition_4 : decode cX7_requirePosition 4 = .ok (.iload_n 1, 1) := by decide +kernel
theorem dX7_requirePosition_5 : decode cX7_requirePosition 5 = .ok (.bipush 8, 2) := by decide +kernel
theorem dX7_requirePosition_7 : decode cX7_requirePosition 7 = .ok (.aload_n 0, 1) := by decide +kernel
theorem dX7_requirePosition_8 : decode cX7_requirePosition 8 = .ok (.getfield 121, 3) := by decide +kernel
theorem dX7_requirePosition_11 : decode cX7_requirePosition 11 = .ok (.invokestatic 164, 3) := by decide +kernel
theorem dX7_requirePosition_14 : decode cX7_requirePosition 14 = .ok (.imul, 1) := by decide +kernel
theorem dX7_requirePosition_15 : decode cX7_requirePosition 15 = .ok (.if_icmp .lt 14, 3) := by decide +kernel
theorem dX7_requirePosition_18 : decode cX7_requirePosition 18 = .ok (.new 192, 3) := by decide +kernel
theorem dX7_requirePosition_21 : decode cX7_requirePosition 21 = .ok (.dup, 1) := by decide +kernel
theorem dX7_requirePosition_22 : decode cX7_requirePosition 22 = .ok (.ldc_w 332, 3) := by decide +kernel
theorem dX7_requirePosition_25 : decode cX7_requirePosition 25 = .ok (.invokespecial 196, 3) := by decide +kernel
theorem dX7_requirePosition_28 : decode cX7_requirePosition 28 = .ok (.athrow, 1) := by decide +kernel
theorem dX7_requirePosition_29 : decode cX7_requirePosition 29 = .ok (.return_, 1) := by decide +kernel
theorem dX7_requireRange_0 : decode cX7_requireRange 0 = .ok (.aload_n 0, 1) := by decide +kernel
theorem dX7_requireRange_1 : decode cX7_requireRange 1 = .ok (.iload_n 1, 1) := by decide +kernel
theorem dX7_requireRange_2 : decode cX7_requireRange 2 = .ok (.invokevirtual 175, 3) := by decide +kernel
theorem dX7_requireRange_5 : decode cX7_requireRange 5 = .ok (.aload_n 0, 1) := by decide +kernel
theorem dX7_requireRange_6 : decode cX7_requireRange 6 = .ok (.iload_n 2, 1) := by decide +kernel
theorem dX7_requireRange_7 : decode cX7_requireRange 7 = .ok (.invokevirtual 175, 3) := by decide +kernel
theorem dX7_requireRange_10 : decode cX7_requireRange 10 = .ok (.iload_n 1, 1) := by decide +kernel
theorem dX7_requireRange_11 : decode cX7_requireRange 11 = .ok (.iload_n 2, 1) := by decide +kernel
theorem dX7_requireRange_12 : decode cX7_requireRange 12 = .ok (.if_icmp .le 14, 3) := by decide +kernel
theorem dX7_requireRange_15 : decode cX7_requireRange 15 = .ok (.new 192, 3) := by decide +kernel
theorem dX7_requireRange_18 : decode cX7_requireRange 18 = .ok (.dup, 1) := by decide +kernel
theorem dX7_requireRange_19 : decode cX7_requireRange 19 = .ok (.ldc_w 334, 3) := by decide +kernel
theorem dX7_requireRange_22 : decode cX7_requireRange 22 = .ok (.invokespecial 196, 3) := by decide +kernel
theorem dX7_requireRange_25 : decode cX7_requireRange 25 = .ok (.athrow, 1) := by decide +kernel
theorem dX7_requireRange_26 : decode cX7_requireRange 26 = .ok (.return_, 1) := by decide +kernel
theorem dX7_requireLevel_0 : decode cX7_requireLevel 0 = .ok (.iload_n 1, 1) := by decide +kernel
theorem dX7_requireLevel_1 : decode cX7_requireLevel 1 = .ok (.ifCond .lt 11, 3) := by decide +kernel
theorem dX7_requireLevel_4 : decode cX7_requireLevel 4 = .ok (.iload_n 1, 1) := by decide +kernel
theorem dX7_requireLevel_5 : decode cX7_requireLevel 5 = .ok (.aload_n 0, 1) := by decide +kernel
theorem dX7_requireLevel_6 : decode cX7_requireLevel 6 = .ok (.getfield 121, 3) := by decide +kernel
theorem dX7_requireLevel_9 : decode cX7_requireLevel 9 = .ok (.if_icmp .le 14, 3) := by decide +kernel
theorem dX7_requireLevel_12 : decode cX7_requireLevel 12 = .ok (.new 192, 3) := by decide +kernel
theorem dX7_requireLevel_15 : decode cX7_requireLevel 15 = .ok (.dup, 1) := by decide +kernel
theorem dX7_requireLevel_16 : decode cX7_requireLevel 16 = .ok (.ldc_w 336, 3) := by decide +kernel
theorem dX7_requireLevel_19 : decode cX7_requireLevel 19 = .ok (.invokespecial 196, 3) := by decide +kernel
theorem dX7_requireLevel_22 : decode cX7_requireLevel 22 = .ok (.athrow, 1) := by decide +kernel
theorem dX7_requireLevel_23 : decode cX7_requireLevel 23 = .ok (.return_, 1) := by decide +kernel
theorem dX7_requireBlock_0 : decode cX7_requireBlock 0 = .ok (.aload_n 0, 1) := by decide +kernel
theorem dX7_requireBlock_1 : decode cX7_requireBlock 1 = .ok (.iload_n 1, 1) := by decide +kernel
theorem dX7_requireBlock_2 : decode cX7_requireBlock 2 = .ok (.invokevirtual 265, 3) := by decide +kernel
theorem dX7_requireBlock_5 : decode cX7_requireBlock 5 = .ok (.iload_n 2, 1) := by decide +kernel
theorem dX7_requireBlock_6 : decode cX7_requireBlock 6 = .ok (.ifCond .lt 15, 3) := by decide +kernel
theorem dX7_requireBlock_9 : decode cX7_requireBlock 9 = .ok (.iload_n 2, 1) := by decide +kernel
theorem dX7_requireBlock_10 : decode cX7_requireBlock 10 = .ok (.iload_n 1, 1) := by decide +kernel
theorem dX7_requireBlock_11 : decode cX7_requireBlock 11 = .ok (.aload_n 0, 1) := by decide +kernel
theorem dX7_requireBlock_12 : decode cX7_requireBlock 12 = .ok (.getfield 121, 3) := by decide +kernel
theorem dX7_requireBlock_15 : decode cX7_requireBlock 15 = .ok (.invokestatic 268, 3) := by decide +kernel
theorem dX7_requireBlock_18 : decode cX7_requireBlock 18 = .ok (.if_icmp .lt 14, 3) := by decide +kernel
theorem dX7_requireBlock_21 : decode cX7_requireBlock 21 = .ok (.new 192, 3) := by decide +kernel
theorem dX7_requireBlock_24 : decode cX7_requireBlock 24 = .ok (.dup, 1) := by decide +kernel
theorem dX7_requireBlock_25 : decode cX7_requireBlock 25 = .ok (.ldc_w 338, 3) := by decide +kernel
theorem dX7_requireBlock_28 : decode cX7_requireBlock 28 = .ok (.invokespecial 196, 3) := by decide +kernel
theorem dX7_requireBlock_31 : decode cX7_requireBlock 31 = .ok (.athrow, 1) := by decide +kernel
theorem dX7_requireBlock_32 : decode cX7_requireBlock 32 = .ok (.return_, 1) := by decide +kernel
theorem dX7_requireByteOf_0 : decode cX7_requireByteOf 0 = .ok (.iload_n 2, 1) := by decide +kernel
theorem dX7_requireByteOf_1 : decode cX7_requireByteOf 1 = .ok (.ifCond .lt 12, 3) := by decide +kernel
theorem dX7_requireByteOf_4 : decode cX7_requireByteOf 4 = .ok (.iload_n 2, 1) := by decide +kernel
theorem dX7_requireByteOf_5 : decode cX7_requireByteOf 5 = .ok (.aload_n 0, 1) := by decide +kernel
theorem dX7_requireByteOf_6 : decode cX7_requireByteOf 6 = .ok (.iload_n 1, 1) := by decide +kernel
theorem dX7_requireByteOf_7 : decode cX7_requireByteOf 7 = .ok (.invokevirtual 202, 3) := by decide +kernel
theorem dX7_requireByteOf_10 : decode cX7_requireByteOf 10 = .ok (.if_icmp .lt 14, 3) := by decide +kernel
theorem dX7_requireByteOf_13 : decode cX7_requireByteOf 13 = .ok (.new 192, 3) := by decide +kernel
theorem dX7_requireByteOf_16 : decode cX7_requireByteOf 16 = .ok (.dup, 1) := by decide +kernel
theorem dX7_requireByteOf_17 : decode cX7_requireByteOf 17 = .ok (.ldc_w 340, 3) := by decide +kernel
theorem dX7_requireByteOf_20 : decode cX7_requireByteOf 20 = .ok (.invokespecial 196, 3) := by decide +kernel
theorem dX7_requireByteOf_23 : decode cX7_requireByteOf 23 = .ok (.athrow, 1) := by decide +kernel
theorem dX7_requireByteOf_24 : decode cX7_requireByteOf 24 = .ok (.return_, 1) := by decide +kernel
theorem dX7_requireSlot_0 : decode cX7_requireSlot 0 = .ok (.iload_n 1, 1) := by decide +kernel
theorem dX7_requireSlot_1 : decode cX7_requireSlot 1 = .ok (.ifCond .lt 8, 3) := by decide +kernel
theorem dX7_requireSlot_4 : decode cX7_requireSlot 4 = .ok (.iload_n 1, 1) := by decide +kernel
theorem dX7_requireSlot_5 : decode cX7_requireSlot 5 = .ok (.iconst 2, 1) := by decide +kernel
theorem dX7_requireSlot_6 : decode cX7_requireSlot 6 = .ok (.if_icmp .lt 14, 3) := by decide +kernel
theorem dX7_requireSlot_9 : decode cX7_requireSlot 9 = .ok (.new 192, 3) := by decide +kernel
theorem dX7_requireSlot_12 : decode cX7_requireSlot 12 = .ok (.dup, 1) := by decide +kernel
theorem dX7_requireSlot_13 : decode cX7_requireSlot 13 = .ok (.ldc_w 342, 3) := by decide +kernel
theorem dX7_requireSlot_16 : decode cX7_requireSlot 16 = .ok (.invokespecial 196, 3) := by decide +kernel
theorem dX7_requireSlot_19 : decode cX7_requireSlot 19 = .ok (.athrow, 1) := by decide +kernel
theorem dX7_requireSlot_20 : decode cX7_requireSlot 20 = .ok (.return_, 1) := by decide +kernel
theorem dX7_requireBit_0 : decode cX7_requireBit 0 = .ok (.iload_n 1, 1) := by decide +kernel
theorem dX7_requireBit_1 : decode cX7_requireBit 1 = .ok (.ifCond .eq 19, 3) := by decide +kernel
theorem dX7_requireBit_4 : decode cX7_requireBit 4 = .ok (.iload_n 1, 1) := by decide +kernel
theorem dX7_requireBit_5 : decode cX7_requireBit 5 = .ok (.iconst 1, 1) := by decide +kernel
theorem dX7_requireBit_6 : decode cX7_requireBit 6 = .ok (.if_icmp .eq 14, 3) := by decide +kernel
theorem dX7_requireBit_9 : decode cX7_requireBit 9 = .ok (.new 101, 3) := by decide +kernel
theorem dX7_requireBit_12 : decode cX7_requireBit 12 = .ok (.dup, 1) := by decide +kernel
theorem dX7_requireBit_13 : decode cX7_requireBit 13 = .ok (.ldc_w 344, 3) := by decide +kernel
theorem dX7_requireBit_16 : decode cX7_requireBit 16 = .ok (.invokespecial 105, 3) := by decide +kernel
theorem dX7_requireBit_19 : decode cX7_requireBit 19 = .ok (.athrow, 1) := by decide +kernel
theorem dX7_requireBit_20 : decode cX7_requireBit 20 = .ok (.return_, 1) := by decide +kernel
theorem dX7_requireKind_0 : decode cX7_requireKind 0 = .ok (.iload_n 1, 1) := by decide +kernel
theorem dX7_requireKind_1 : decode cX7_requireKind 1 = .ok (.ifCond .lt 8, 3) := by decide +kernel
theorem dX7_requireKind_4 : decode cX7_requireKind 4 = .ok (.iload_n 1, 1) := by decide +kernel
theorem dX7_requireKind_5 : decode cX7_requireKind 5 = .ok (.iconst 3, 1) := by decide +kernel
theorem dX7_requireKind_6 : decode cX7_requireKind 6 = .ok (.if_icmp .le 14, 3) := by decide +kernel
theorem dX7_requireKind_9 : decode cX7_requireKind 9 = .ok (.new 101, 3) := by decide +kernel
theorem dX7_requireKind_12 : decode cX7_requireKind 12 = .ok (.dup, 1) := by decide +kernel
theorem dX7_requireKind_13 : decode cX7_requireKind 13 = .ok (.ldc_w 346, 3) := by decide +kernel
theorem dX7_requireKind_16 : decode cX7_requireKind 16 = .ok (.invokespecial 105, 3) := by decide +kernel
theorem dX7_requireKind_19 : decode cX7_requireKind 19 = .ok (.athrow, 1) := by decide +kernel
theorem dX7_requireKind_20 : decode cX7_requireKind 20 = .ok (.return_, 1) := by decide +kernel
theorem dX7_sizeOfRow_0 : decode cX7_sizeOfRow 0 = .ok (.aload_n 0, 1) := by decide +kernel
theorem dX7_sizeOfRow_1 : decode cX7_sizeOfRow 1 = .ok (.getfield 37, 3) := by decide +kernel
theorem dX7_sizeOfRow_4 : decode cX7_sizeOfRow 4 = .ok (.iload_n 1, 1) := by decide +kernel
theorem dX7_sizeOfRow_5 : decode cX7_sizeOfRow 5 = .ok (.aload_n 0, 1) := by decide +kernel
theorem dX7_sizeOfRow_6 : decode cX7_sizeOfRow 6 = .ok (.getfield 121, 3) := by decide +kernel
theorem dX7_sizeOfRow_9 : decode cX7_sizeOfRow 9 = .ok (.invokevirtual 213, 3) := by decide +kernel
theorem dX7_sizeOfRow_12 : decode cX7_sizeOfRow 12 = .ok (.aload_n 0, 1) := by decide +kernel
theorem dX7_sizeOfRow_13 : decode cX7_sizeOfRow 13 = .ok (.getfield 37, 3) := by decide +kernel
theorem dX7_sizeOfRow_16 : decode cX7_sizeOfRow 16 = .ok (.invokevirtual 219, 3) := by decide +kernel
theorem dX7_sizeOfRow_19 : decode cX7_sizeOfRow 19 = .ok (.ireturn, 1) := by decide +kernel
theorem dX7_sizeOfAll_0 : decode cX7_sizeOfAll 0 = .ok (.iconst 0, 1) := by decide +kernel
theorem dX7_sizeOfAll_1 : decode cX7_sizeOfAll 1 = .ok (.istore_n 1, 1) := by decide +kernel
theorem dX7_sizeOfAll_2 : decode cX7_sizeOfAll 2 = .ok (.iconst 0, 1) := by decide +kernel
theorem dX7_sizeOfAll_3 : decode cX7_sizeOfAll 3 = .ok (.istore_n 2, 1) := by decide +kernel
theorem dX7_sizeOfAll_4 : decode cX7_sizeOfAll 4 = .ok (.iload_n 2, 1) := by decide +kernel
theorem dX7_sizeOfAll_5 : decode cX7_sizeOfAll 5 = .ok (.aload_n 0, 1) := by decide +kernel
theorem dX7_sizeOfAll_6 : decode cX7_sizeOfAll 6 = .ok (.getfield 111, 3) := by decide +kernel
theorem dX7_sizeOfAll_9 : decode cX7_sizeOfAll 9 = .ok (.if_icmp .ge 17, 3) := by decide +kernel
theorem dX7_sizeOfAll_12 : decode cX7_sizeOfAll 12 = .ok (.iload_n 1, 1) := by decide +kernel
theorem dX7_sizeOfAll_13 : decode cX7_sizeOfAll 13 = .ok (.aload_n 0, 1) := by decide +kernel
theorem dX7_sizeOfAll_14 : decode cX7_sizeOfAll 14 = .ok (.iload_n 2, 1) := by decide +kernel
theorem dX7_sizeOfAll_15 : decode cX7_sizeOfAll 15 = .ok (.invokevirtual 202, 3) := by decide +kernel
theorem dX7_sizeOfAll_18 : decode cX7_sizeOfAll 18 = .ok (.iadd, 1) := by decide +kernel
theorem dX7_sizeOfAll_19 : decode cX7_sizeOfAll 19 = .ok (.istore_n 1, 1) := by decide +kernel
theorem dX7_sizeOfAll_20 : decode cX7_sizeOfAll 20 = .ok (.iinc 2 1, 3) := by decide +kernel
theorem dX7_sizeOfAll_23 : decode cX7_sizeOfAll 23 = .ok (.goto (-19), 3) := by decide +kernel
theorem dX7_sizeOfAll_26 : decode cX7_sizeOfAll 26 = .ok (.iload_n 1, 1) := by decide +kernel
theorem dX7_sizeOfAll_27 : decode cX7_sizeOfAll 27 = .ok (.ireturn, 1) := by decide +kernel
theorem dX7_onesOfRow_0 : decode cX7_onesOfRow 0 = .ok (.aload_n 0, 1) := by decide +kernel
theorem dX7_onesOfRow_1 : decode cX7_onesOfRow 1 = .ok (.getfield 26, 3) := by decide +kernel
theorem dX7_onesOfRow_4 : decode cX7_onesOfRow 4 = .ok (.iload_n 1, 1) := by decide +kernel
theorem dX7_onesOfRow_5 : decode cX7_onesOfRow 5 = .ok (.iconst 0, 1) := by decide +kernel
theorem dX7_onesOfRow_6 : decode cX7_onesOfRow 6 = .ok (.bipush 8, 2) := by decide +kernel
theorem dX7_onesOfRow_8 : decode cX7_onesOfRow 8 = .ok (.aload_n 0, 1) := by decide +kernel
theorem dX7_onesOfRow_9 : decode cX7_onesOfRow 9 = .ok (.getfield 121, 3) := by decide +kernel
theorem dX7_onesOfRow_12 : decode cX7_onesOfRow 12 = .ok (.invokestatic 164, 3) := by decide +kernel
theorem dX7_onesOfRow_15 : decode cX7_onesOfRow 15 = .ok (.imul, 1) := by decide +kernel
theorem dX7_onesOfRow_16 : decode cX7_onesOfRow 16 = .ok (.iconst 1, 1) := by decide +kernel
theorem dX7_onesOfRow_17 : decode cX7_onesOfRow 17 = .ok (.isub, 1) := by decide +kernel
theorem dX7_onesOfRow_18 : decode cX7_onesOfRow 18 = .ok (.invokevirtual 185, 3) := by decide +kernel
theorem dX7_onesOfRow_21 : decode cX7_onesOfRow 21 = .ok (.ireturn, 1) := by decide +kernel
theorem dX7_cellsIn_0 : decode cX7_cellsIn 0 = .ok (.iconst 1, 1) := by decide +kernel
theorem dX7_cellsIn_1 : decode cX7_cellsIn 1 = .ok (.iconst 2, 1) := by decide +kernel
theorem dX7_cellsIn_2 : decode cX7_cellsIn 2 = .ok (.iload_n 0, 1) := by decide +kernel
theorem dX7_cellsIn_3 : decode cX7_cellsIn 3 = .ok (.imul, 1) := by decide +kernel
theorem dX7_cellsIn_4 : decode cX7_cellsIn 4 = .ok (.ishl, 1) := by decide +kernel
theorem dX7_cellsIn_5 : decode cX7_cellsIn 5 = .ok (.ireturn, 1) := by decide +kernel
theorem dX7_blocksAt_0 : decode cX7_blocksAt 0 = .ok (.iconst 1, 1) := by decide +kernel
theorem dX7_blocksAt_1 : decode cX7_blocksAt 1 = .ok (.iconst 2, 1) := by decide +kernel
theorem dX7_blocksAt_2 : decode cX7_blocksAt 2 = .ok (.iload_n 1, 1) := by decide +kernel
theorem dX7_blocksAt_3 : decode cX7_blocksAt 3 = .ok (.iload_n 0, 1) := by decide +kernel
theorem dX7_blocksAt_4 : decode cX7_blocksAt 4 = .ok (.isub, 1) := by decide +kernel
theorem dX7_blocksAt_5 : decode cX7_blocksAt 5 = .ok (.imul, 1) := by decide +kernel
theorem dX7_blocksAt_6 : decode cX7_blocksAt 6 = .ok (.ishl, 1) := by decide +kernel
theorem dX7_blocksAt_7 : decode cX7_blocksAt 7 = .ok (.ireturn, 1) := by decide +kernel
theorem dX7_codeIn_0 : decode cX7_codeIn 0 = .ok (.iload_n 0, 1) := by decide +kernel
theorem dX7_codeIn_1 : decode cX7_codeIn 1 = .ok (.iconst 2, 1) := by decide +kernel
theorem dX7_codeIn_2 : decode cX7_codeIn 2 = .ok (.iload_n 1, 1) := by decide +kernel
theorem dX7_codeIn_3 : decode cX7_codeIn 3 = .ok (.imul, 1) := by decide +kernel
theorem dX7_codeIn_4 : decode cX7_codeIn 4 = .ok (.ishr, 1) := by decide +kernel
theorem dX7_codeIn_5 : decode cX7_codeIn 5 = .ok (.iconst 3, 1) := by decide +kernel
theorem dX7_codeIn_6 : decode cX7_codeIn 6 = .ok (.iand, 1) := by decide +kernel
theorem dX7_codeIn_7 : decode cX7_codeIn 7 = .ok (.ireturn, 1) := by decide +kernel
theorem dX8_init_0 : decode cX8_init 0 = .ok (.aload_n 0, 1) := by decide +kernel
theorem dX8_init_1 : decode cX8_init 1 = .ok (.invokespecial 1, 3) := by decide +kernel
theorem dX8_init_4 : decode cX8_init 4 = .ok (.aload_n 0, 1) := by decide +kernel
theorem dX8_init_5 : decode cX8_init 5 = .ok (.bipush 36, 2) := by decide +kernel
theorem dX8_init_7 : decode cX8_init 7 = .ok (.newarray .int, 2) := by decide +kernel
theorem dX8_init_9 : decode cX8_init 9 = .ok (.putfield 7, 3) := by decide +kernel
theorem dX8_init_12 : decode cX8_init 12 = .ok (.aload_n 0, 1) := by decide +kernel
theorem dX8_init_13 : decode cX8_init 13 = .ok (.sipush 1536, 3) := by decide +kernel
theorem dX8_init_16 : decode cX8_init 16 = .ok (.newarray .int, 2) := by decide +kernel
theorem dX8_init_18 : decode cX8_init 18 = .ok (.putfield 13, 3) := by decide +kernel
theorem dX8_init_21 : decode cX8_init 21 = .ok (.aload_n 0, 1) := by decide +kernel
theorem dX8_init_22 : decode cX8_init 22 = .ok (.sipush 15360, 3) := by decide +kernel
theorem dX8_init_25 : decode cX8_init 25 = .ok (.newarray .int, 2) := by decide +kernel
theorem dX8_init_27 : decode cX8_init 27 = .ok (.putfield 16, 3) := by decide +kernel
theorem dX8_init_30 : decode cX8_init 30 = .ok (.aload_n 0, 1) := by decide +kernel
theorem dX8_init_31 : decode cX8_init 31 = .ok (.iconst 2, 1) := by decide +kernel
theorem dX8_init_32 : decode cX8_init 32 = .ok (.newarray .boolean, 2) := by decide +kernel
theorem dX8_init_34 : decode cX8_init 34 = .ok (.putfield 19, 3) := by decide +kernel
theorem dX8_init_37 : decode cX8_init 37 = .ok (.aload_n 0, 1) := by decide +kernel
theorem dX8_init_38 : decode cX8_init 38 = .ok (.sipush 256, 3) := by decide +kernel
theorem dX8_init_41 : decode cX8_init 41 = .ok (.newarray .int, 2) := by decide +kernel
theorem dX8_init_43 : decode cX8_init 43 = .ok (.putfield 23, 3) := by decide +kernel
theorem dX8_init_46 : decode cX8_init 46 = .ok (.aload_n 0, 1) := by decide +kernel
theorem dX8_init_47 : decode cX8_init 47 = .ok (.sipush 400, 3) := by decide +kernel
theorem dX8_init_50 : decode cX8_init 50 = .ok (.newarray .int, 2) := by decide +kernel
theorem dX8_init_52 : decode cX8_init 52 = .ok (.putfield 26, 3) := by decide +kernel
theorem dX8_init_55 : decode cX8_init 55 = .ok (.aload_n 0, 1) := by decide +kernel
theorem dX8_init_56 : decode cX8_init 56 = .ok (.sipush 341, 3) := by decide +kernel
theorem dX8_init_59 : decode cX8_init 59 = .ok (.newarray .int, 2) := by decide +kernel
theorem dX8_init_61 : decode cX8_init 61 = .ok (.putfield 29, 3) := by decide +kernel
theorem dX8_init_64 : decode cX8_init 64 = .ok (.aload_n 0, 1) := by decide +kernel
theorem dX8_init_65 : decode cX8_init 65 = .ok (.sipush 341, 3) := by decide +kernel
theorem dX8_init_68 : decode cX8_init 68 = .ok (.newarray .int, 2) := by decide +kernel
theorem dX8_init_70 : decode cX8_init 70 = .ok (.putfield 32, 3) := by decide +kernel
theorem dX8_init_73 : decode cX8_init 73 = .ok (.aload_n 0, 1) := by decide +kernel
theorem dX8_init_74 : decode cX8_init 74 = .ok (.sipush 341, 3) := by decide +kernel
theorem dX8_init_77 : decode cX8_init 77 = .ok (.newarray .int, 2) := by decide +kernel
theorem dX8_init_79 : decode cX8_init 79 = .ok (.putfield 35, 3) := by decide +kernel
theorem dX8_init_82 : decode cX8_init 82 = .ok (.aload_n 0, 1) := by decide +kernel
theorem dX8_init_83 : decode cX8_init 83 = .ok (.sipush 700, 3) := by decide +kernel
theorem dX8_init_86 : decode cX8_init 86 = .ok (.newarray .int, 2) := by decide +kernel
theorem dX8_init_88 : decode cX8_init 88 = .ok (.putfield 38, 3) := by decide +kernel
theorem dX8_init_91 : decode cX8_init 91 = .ok (.aload_n 0, 1) := by decide +kernel
theorem dX8_init_92 : decode cX8_init 92 = .ok (.sipush 700, 3) := by decide +kernel
theorem dX8_init_95 : decode cX8_init 95 = .ok (.newarray .int, 2) := by decide +kernel
theorem dX8_init_97 : decode cX8_init 97 = .ok (.putfield 41, 3) := by decide +kernel
theorem dX8_init_100 : decode cX8_init 100 = .ok (.aload_n 0, 1) := by decide +kernel
theorem dX8_init_101 : decode cX8_init 101 = .ok (.iconst (-1), 1) := by decide +kernel
theorem dX8_init_102 : decode cX8_init 102 = .ok (.putfield 44, 3) := by decide +kernel
theorem dX8_init_105 : decode cX8_init 105 = .ok (.aload_n 0, 1) := by decide +kernel
theorem dX8_init_106 : decode cX8_init 106 = .ok (.bipush 36, 2) := by decide +kernel
theorem dX8_init_108 : decode cX8_init 108 = .ok (.newarray .int, 2) := by decide +kernel
theorem dX8_init_110 : decode cX8_init 110 = .ok (.putfield 48, 3) := by decide +kernel
theorem dX8_init_113 : decode cX8_init 113 = .ok (.aload_n 0, 1) := by decide +kernel
theorem dX8_init_114 : decode cX8_init 114 = .ok (.sipush 1536, 3) := by decide +kernel
theorem dX8_init_117 : decode cX8_init 117 = .ok (.newarray .int, 2) := by decide +kernel
theorem dX8_init_119 : decode cX8_init 119 = .ok (.putfield 51, 3) := by decide +kernel
theorem dX8_init_122 : decode cX8_init 122 = .ok (.aload_n 0, 1) := by decide +kernel
theorem dX8_init_123 : decode cX8_init 123 = .ok (.sipush 1400, 3) := by decide +kernel
theorem dX8_init_126 : decode cX8_init 126 = .ok (.newarray .int, 2) := by decide +kernel
theorem dX8_init_128 : decode cX8_init 128 = .ok (.putfield 54, 3) := by decide +kernel
theorem dX8_init_131 : decode cX8_init 131 = .ok (.return_, 1) := by decide +kernel
theorem dX8_thrown_0 : decode cX8_thrown 0 = .ok (.aload_n 0, 1) := by decide +kernel
theorem dX8_thrown_1 : decode cX8_thrown 1 = .ok (.getfield 57, 3) := by decide +kernel
theorem dX8_thrown_4 : decode cX8_thrown 4 = .ok (.ireturn, 1) := by decide +kernel
theorem dX8_in_0 : decode cX8_in 0 = .ok (.iload_n 0, 1) := by decide +kernel
theorem dX8_in_1 : decode cX8_in 1 = .ok (.iload_n 1, 1) := by decide +kernel
theorem dX8_in_2 : decode cX8_in 2 = .ok (.if_icmp .lt 12, 3) := by decide +kernel
theorem dX8_in_5 : decode cX8_in 5 = .ok (.iload_n 0, 1) := by decide +kernel
theorem dX8_in_6 : decode cX8_in 6 = .ok (.iload_n 2, 1) := by decide +kernel
theorem dX8_in_7 : decode cX8_in 7 = .ok (.if_icmp .gt 7, 3) := by decide +kernel
theorem dX8_in_10 : decode cX8_in 10 = .ok (.iconst 1, 1) := by decide +kernel
theorem dX8_in_11 : decode cX8_in 11 = .ok (.goto 4, 3) := by decide +kernel
theorem dX8_in_14 : decode cX8_in 14 = .ok (.iconst 0, 1) := by decide +kernel
theorem dX8_in_15 : decode cX8_in 15 = .ok (.ireturn, 1) := by decide +kernel
theorem dX8_flag_0 : decode cX8_flag 0 = .ok (.iload_n 0, 1) := by decide +kernel
theorem dX8_flag_1 : decode cX8_flag 1 = .ok (.ifCond .eq 7, 3) := by decide +kernel
theorem dX8_flag_4 : decode cX8_flag 4 = .ok (.iconst 1, 1) := by decide +kernel
theorem dX8_flag_5 : decode cX8_flag 5 = .ok (.goto 4, 3) := by decide +kernel
theorem dX8_flag_8 : decode cX8_flag 8 = .ok (.iconst 0, 1) := by decide +kernel
theorem dX8_flag_9 : decode cX8_flag 9 = .ok (.ireturn, 1) := by decide +kernel
theorem dX8_refuse_0 : decode cX8_refuse 0 = .ok (.aload_n 0, 1) := by decide +kernel
theorem dX8_refuse_1 : decode cX8_refuse 1 = .ok (.getfield 57, 3) := by decide +kernel
theorem dX8_refuse_4 : decode cX8_refuse 4 = .ok (.ifCond .ne 12, 3) := by decide +kernel
theorem dX8_refuse_7 : decode cX8_refuse 7 = .ok (.iload_n 1, 1) := by decide +kernel
theorem dX8_refuse_8 : decode cX8_refuse 8 = .ok (.ifCond .eq 8, 3) := by decide +kernel
theorem dX8_refuse_11 : decode cX8_refuse 11 = .ok (.aload_n 0, 1) := by decide +kernel
theorem dX8_refuse_12 : decode cX8_refuse 12 = .ok (.iload_n 2, 1) := by decide +kernel
theorem dX8_refuse_13 : decode cX8_refuse 13 = .ok (.putfield 57, 3) := by decide +kernel
theorem dX8_refuse_16 : decode cX8_refuse 16 = .ok (.aload_n 0, 1) := by decide +kernel
theorem dX8_refuse_17 : decode cX8_refuse 17 = .ok (.getfield 57, 3) := by decide +kernel
theorem dX8_refuse_20 : decode cX8_refuse 20 = .ok (.ifCond .eq 7, 3) := by decide +kernel
theorem dX8_refuse_23 : decode cX8_refuse 23 = .ok (.iconst 1, 1) := by decide +kernel
theorem dX8_refuse_24 : decode cX8_refuse 24 = .ok (.goto 4, 3) := by decide +kernel
theorem dX8_refuse_27 : decode cX8_refuse 27 = .ok (.iconst 0, 1) := by decide +kernel
theorem dX8_refuse_28 : decode cX8_refuse 28 = .ok (.ireturn, 1) := by decide +kernel
theorem dX8_noMaps_0 : decode cX8_noMaps 0 = .ok (.aload_n 0, 1) := by decide +kernel
theorem dX8_noMaps_1 : decode cX8_noMaps 1 = .ok (.iconst 0, 1) := by decide +kernel
theorem dX8_noMaps_2 : decode cX8_noMaps 2 = .ok (.putfield 57, 3) := by decide +kernel
theorem dX8_noMaps_5 : decode cX8_noMaps 5 = .ok (.aload_n 0, 1) := by decide +kernel
theorem dX8_noMaps_6 : decode cX8_noMaps 6 = .ok (.aload_n 0, 1) := by decide +kernel
theorem dX8_noMaps_7 : decode cX8_noMaps 7 = .ok (.getfield 60, 3) := by decide +kernel
theorem dX8_noMaps_10 : decode cX8_noMaps 10 = .ok (.ifCond .ne 7, 3) := by decide +kernel
theorem dX8_noMaps_13 : decode cX8_noMaps 13 = .ok (.iconst 1, 1) := by decide +kernel
theorem dX8_noMaps_14 : decode cX8_noMaps 14 = .ok (.goto 4, 3) := by decide +kernel
theorem dX8_noMaps_17 : decode cX8_noMaps 17 = .ok (.iconst 0, 1) := by decide +kernel
theorem dX8_noMaps_18 : decode cX8_noMaps 18 = .ok (.iconst 1, 1) := by decide +kernel
theorem dX8_noMaps_19 : decode cX8_noMaps 19 = .ok (.invokevirtual 64, 3) := by decide +kernel
theorem dX8_noMaps_22 : decode cX8_noMaps 22 = .ok (.ireturn, 1) := by decide +kernel
theorem dX8_isMap_0 : decode cX8_isMap 0 = .ok (.iload_n 1, 1) := by decide +kernel
theorem dX8_isMap_1 : decode cX8_isMap 1 = .ok (.iconst 0, 1) := by decide +kernel
theorem dX8_isMap_2 : decode cX8_isMap 2 = .ok (.aload_n 0, 1) := by decide +kernel
theorem dX8_isMap_3 : decode cX8_isMap 3 = .ok (.getfield 68, 3) := by decide +kernel
theorem dX8_isMap_6 : decode cX8_isMap 6 = .ok (.iconst 1, 1) := by decide +kernel
theorem dX8_isMap_7 : decode cX8_isMap 7 = .ok (.isub, 1) := by decide +kernel
theorem dX8_isMap_8 : decode cX8_isMap 8 = .ok (.invokestatic 71, 3) := by decide +kernel
theorem dX8_isMap_11 : decode cX8_isMap 11 = .ok (.ireturn, 1) := by decide +kernel
theorem dX8_noMap_0 : decode cX8_noMap 0 = .ok (.aload_n 0, 1) := by decide +kernel
theorem dX8_noMap_1 : decode cX8_noMap 1 = .ok (.invokevirtual 75, 3) := by decide +kernel
theorem dX8_noMap_4 : decode cX8_noMap 4 = .ok (.ifCond .ne 24, 3) := by decide +kernel
theorem dX8_noMap_7 : decode cX8_noMap 7 = .ok (.aload_n 0, 1) := by decide +kernel
theorem dX8_noMap_8 : decode cX8_noMap 8 = .ok (.aload_n 0, 1) := by decide +kernel
theorem dX8_noMap_9 : decode cX8_noMap 9 = .ok (.iload_n 1, 1) := by decide +kernel
theorem dX8_noMap_10 : decode cX8_noMap 10 = .ok (.invokevirtual 79, 3) := by decide +kernel
theorem dX8_noMap_13 : decode cX8_noMap 13 = .ok (.ifCond .ne 7, 3) := by decide +kernel
theorem dX8_noMap_16 : decode cX8_noMap 16 = .ok (.iconst 1, 1) := by decide +kernel
theorem dX8_noMap_17 : decode cX8_noMap 17 = .ok (.goto 4, 3) := by decide +kernel
theorem dX8_noMap_20 : decode cX8_noMap 20 = .ok (.iconst 0, 1) := by decide +kernel
theorem dX8_noMap_21 : decode cX8_noMap 21 = .ok (.iconst 2, 1) := by decide +kernel
theorem dX8_noMap_22 : decode cX8_noMap 22 = .ok (.invokevirtual 64, 3) := by decide +kernel
theorem dX8_noMap_25 : decode cX8_noMap 25 = .ok (.ifCond .eq 7, 3) := by decide +kernel
theorem dX8_noMap_28 : decode cX8_noMap 28 = .ok (.iconst 1, 1) := by decide +kernel
theorem dX8_noMap_29 : decode cX8_noMap 29 = .ok (.goto 4, 3) := by decide +kernel
theorem dX8_noMap_32 : decode cX8_noMap 32 = .ok (.iconst 0, 1) := by decide +kernel
theorem dX8_noMap_33 : decode cX8_noMap 33 = .ok (.ireturn, 1) := by decide +kernel
theorem dX8_blocks_0 : decode cX8_blocks 0 = .ok (.iconst 1, 1) := by decide +kernel
theorem dX8_blocks_1 : decode cX8_blocks 1 = .ok (.iconst 2, 1) := by decide +kernel
theorem dX8_blocks_2 : decode cX8_blocks 2 = .ok (.aload_n 0, 1) := by decide +kernel
theorem dX8_blocks_3 : decode cX8_blocks 3 = .ok (.getfield 83, 3) := by decide +kernel
theorem dX8_blocks_6 : decode cX8_blocks 6 = .ok (.iload_n 1, 1) := by decide +kernel
theorem dX8_blocks_7 : decode cX8_blocks 7 = .ok (.isub, 1) := by decide +kernel
theorem dX8_blocks_8 : decode cX8_blocks 8 = .ok (.imul, 1) := by decide +kernel
theorem dX8_blocks_9 : decode cX8_blocks 9 = .ok (.ishl, 1) := by decide +kernel
theorem dX8_blocks_10 : decode cX8_blocks 10 = .ok (.ireturn, 1) := by decide +kernel
theorem dX8_bytesOfMap_0 : decode cX8_bytesOfMap 0 = .ok (.iconst 1, 1) := by decide +kernel
theorem dX8_bytesOfMap_1 : decode cX8_bytesOfMap 1 = .ok (.iconst 2, 1) := by decide +kernel
theorem dX8_bytesOfMap_2 : decode cX8_bytesOfMap 2 = .ok (.aload_n 0, 1) := by decide +kernel
theorem dX8_bytesOfMap_3 : decode cX8_bytesOfMap 3 = .ok (.getfield 83, 3) := by decide +kernel
theorem dX8_bytesOfMap_6 : decode cX8_bytesOfMap 6 = .ok (.imul, 1) := by decide +kernel
theorem dX8_bytesOfMap_7 : decode cX8_bytesOfMap 7 = .ok (.ishl, 1) := by decide +kernel
theorem dX8_bytesOfMap_8 : decode cX8_bytesOfMap 8 = .ok (.ireturn, 1) := by decide +kernel
theorem dX8_bits_0 : decode cX8_bits 0 = .ok (.bipush 8, 2) := by decide +kernel
theorem dX8_bits_2 : decode cX8_bits 2 = .ok (.aload_n 0, 1) := by decide +kernel
theorem dX8_bits_3 : decode cX8_bits 3 = .ok (.invokevirtual 86, 3) := by decide +kernel
theorem dX8_bits_6 : decode cX8_bits 6 = .ok (.imul, 1) := by decide +kernel
theorem dX8_bits_7 : decode cX8_bits 7 = .ok (.ireturn, 1) := by decide +kernel
theorem dX8_spot_0 : decode cX8_spot 0 = .ok (.iload_n 2, 1) := by decide +kernel
theorem dX8_spot_1 : decode cX8_spot 1 = .ok (.istore_n 3, 1) := by decide +kernel
theorem dX8_spot_2 : decode cX8_spot 2 = .ok (.aload_n 0, 1) := by decide +kernel
theorem dX8_spot_3 : decode cX8_spot 3 = .ok (.getfield 83, 3) := by decide +kernel
theorem dX8_spot_6 : decode cX8_spot 6 = .ok (.istore 4, 2) := by decide +kernel
theorem dX8_spot_8 : decode cX8_spot 8 = .ok (.iload 4, 2) := by decide +kernel
theorem dX8_spot_10 : decode cX8_spot 10 = .ok (.iload_n 1, 1) := by decide +kernel
theorem dX8_spot_11 : decode cX8_spot 11 = .ok (.if_icmp .le 18, 3) := by decide +kernel
theorem dX8_spot_14 : decode cX8_spot 14 = .ok (.iload_n 3, 1) := by decide +kernel
theorem dX8_spot_15 : decode cX8_spot 15 = .ok (.aload_n 0, 1) := by decide +kernel
theorem dX8_spot_16 : decode cX8_spot 16 = .ok (.iload 4, 2) := by decide +kernel
theorem dX8_spot_18 : decode cX8_spot 18 = .ok (.invokevirtual 90, 3) := by decide +kernel
theorem dX8_spot_21 : decode cX8_spot 21 = .ok (.iadd, 1) := by decide +kernel
theorem dX8_spot_22 : decode cX8_spot 22 = .ok (.istore_n 3, 1) := by decide +kernel
theorem dX8_spot_23 : decode cX8_spot 23 = .ok (.iinc 4 (-1), 3) := by decide +kernel
theorem dX8_spot_26 : decode cX8_spot 26 = .ok (.goto (-18), 3) := by decide +kernel
theorem dX8_spot_29 : decode cX8_spot 29 = .ok (.iload_n 3, 1) := by decide +kernel
theorem dX8_spot_30 : decode cX8_spot 30 = .ok (.ireturn, 1) := by decide +kernel
theorem dX8_span_0 : decode cX8_span 0 = .ok (.iconst 1, 1) := by decide +kernel
theorem dX8_span_1 : decode cX8_span 1 = .ok (.iconst 2, 1) := by decide +kernel
theorem dX8_span_2 : decode cX8_span 2 = .ok (.iload_n 0, 1) := by decide +kernel
theorem dX8_span_3 : decode cX8_span 3 = .ok (.imul, 1) := by decide +kernel
theorem dX8_span_4 : decode cX8_span 4 = .ok (.ishl, 1) := by decide +kernel
theorem dX8_span_5 : decode cX8_span 5 = .ok (.ireturn, 1) := by decide +kernel
theorem dX8_isAll_0 : decode cX8_isAll 0 = .ok (.iconst 0, 1) := by decide +kernel
theorem dX8_isAll_1 : decode cX8_isAll 1 = .ok (.istore 4, 2) := by decide +kernel
theorem dX8_isAll_3 : decode cX8_isAll 3 = .ok (.iload 4, 2) := by decide +kernel
theorem dX8_isAll_5 : decode cX8_isAll 5 = .ok (.iload_n 1, 1) := by decide +kernel
theorem dX8_isAll_6 : decode cX8_isAll 6 = .ok (.invokestatic 94, 3) := by decide +kernel
theorem dX8_isAll_9 : decode cX8_isAll 9 = .ok (.if_icmp .ge 29, 3) := by decide +kernel
theorem dX8_isAll_12 : decode cX8_isAll 12 = .ok (.aload_n 0, 1) := by decide +kernel
theorem dX8_isAll_13 : decode cX8_isAll 13 = .ok (.getfield 23, 3) := by decide +kernel
theorem dX8_isAll_16 : decode cX8_isAll 16 = .ok (.iload_n 1, 1) := by decide +kernel
theorem dX8_isAll_17 : decode cX8_isAll 17 = .ok (.invokestatic 94, 3) := by decide +kernel
theorem dX8_isAll_20 : decode cX8_isAll 20 = .ok (.iload_n 2, 1) := by decide +kernel
theorem dX8_isAll_21 : decode cX8_isAll 21 = .ok (.imul, 1) := by decide +kernel
theorem dX8_isAll_22 : decode cX8_isAll 22 = .ok (.iload 4, 2) := by decide +kernel
theorem dX8_isAll_24 : decode cX8_isAll 24 = .ok (.iadd, 1) := by decide +kernel
theorem dX8_isAll_25 : decode cX8_isAll 25 = .ok (.iaload, 1) := by decide +kernel
theorem dX8_isAll_26 : decode cX8_isAll 26 = .ok (.iload_n 3, 1) := by decide +kernel
theorem dX8_isAll_27 : decode cX8_isAll 27 = .ok (.if_icmp .eq 5, 3) := by decide +kernel
theorem dX8_isAll_30 : decode cX8_isAll 30 = .ok (.iconst 0, 1) := by decide +kernel
theorem dX8_isAll_31 : decode cX8_isAll 31 = .ok (.ireturn, 1) := by decide +kernel
theorem dX8_isAll_32 : decode cX8_isAll 32 = .ok (.iinc 4 1, 3) := by decide +kernel
theorem dX8_isAll_35 : decode cX8_isAll 35 = .ok (.goto (-32), 3) := by decide +kernel
theorem dX8_isAll_38 : decode cX8_isAll 38 = .ok (.iconst 1, 1) := by decide +kernel
theorem dX8_isAll_39 : decode cX8_isAll 39 = .ok (.ireturn, 1) := by decide +kernel
theorem dX8_isSame_0 : decode cX8_isSame 0 = .ok (.iconst 0, 1) := by decide +kernel
theorem dX8_isSame_1 : decode cX8_isSame 1 = .ok (.istore 4, 2) := by decide +kernel
theorem dX8_isSame_3 : decode cX8_isSame 3 = .ok (.iload 4, 2) := by decide +kernel
theorem dX8_isSame_5 : decode cX8_isSame 5 = .ok (.iload_n 1, 1) := by decide +kernel
theorem dX8_isSame_6 : decode cX8_isSame 6 = .ok (.invokestatic 94, 3) := by decide +kernel
theorem dX8_isSame_9 : decode cX8_isSame 9 = .ok (.if_icmp .ge 42, 3) := by decide +kernel
theorem dX8_isSame_12 : decode cX8_isSame 12 = .ok (.aload_n 0, 1) := by decide +kernel
theorem dX8_isSame_13 : decode cX8_isSame 13 = .ok (.getfield 23, 3) := by decide +kernel
theorem dX8_isSame_16 : decode cX8_isSame 16 = .ok (.iload_n 1, 1) := by decide +kernel
theorem dX8_isSame_17 : decode cX8_isSame 17 = .ok (.invokestatic 94, 3) := by decide +kernel
theorem dX8_isSame_20 : decode cX8_isSame 20 = .ok (.iload_n 2, 1) := by decide +kernel
theorem dX8_isSame_21 : decode cX8_isSame 21 = .ok (.imul, 1) := by decide +kernel
theorem dX8_isSame_22 : decode cX8_isSame 22 = .ok (.iload 4, 2) := by decide +kernel
theorem dX8_isSame_24 : decode cX8_isSame 24 = .ok (.iadd, 1) := by decide +kernel
theorem dX8_isSame_25 : decode cX8_isSame 25 = .ok (.iaload, 1) := by decide +kernel
theorem dX8_isSame_26 : decode cX8_isSame 26 = .ok (.aload_n 0, 1) := by decide +kernel
theorem dX8_isSame_27 : decode cX8_isSame 27 = .ok (.getfield 23, 3) := by decide +kernel
theorem dX8_isSame_30 : decode cX8_isSame 30 = .ok (.iload_n 1, 1) := by decide +kernel
theorem dX8_isSame_31 : decode cX8_isSame 31 = .ok (.invokestatic 94, 3) := by decide +kernel
theorem dX8_isSame_34 : decode cX8_isSame 34 = .ok (.iload_n 3, 1) := by decide +kernel
theorem dX8_isSame_35 : decode cX8_isSame 35 = .ok (.imul, 1) := by decide +kernel
theorem dX8_isSame_36 : decode cX8_isSame 36 = .ok (.iload 4, 2) := by decide +kernel
theorem dX8_isSame_38 : decode cX8_isSame 38 = .ok (.iadd, 1) := by decide +kernel
theorem dX8_isSame_39 : decode cX8_isSame 39 = .ok (.iaload, 1) := by decide +kernel
theorem dX8_isSame_40 : decode cX8_isSame 40 = .ok (.if_icmp .eq 5, 3) := by decide +kernel
theorem dX8_isSame_43 : decode cX8_isSame 43 = .ok (.iconst 0, 1) := by decide +kernel
theorem dX8_isSame_44 : decode cX8_isSame 44 = .ok (.ireturn, 1) := by decide +kernel
theorem dX8_isSame_45 : decode cX8_isSame 45 = .ok (.iinc 4 1, 3) := by decide +kernel
theorem dX8_isSame_48 : decode cX8_isSame 48 = .ok (.goto (-45), 3) := by decide +kernel
theorem dX8_isSame_51 : decode cX8_isSame 51 = .ok (.iconst 1, 1) := by decide +kernel
theorem dX8_isSame_52 : decode cX8_isSame 52 = .ok (.ireturn, 1) := by decide +kernel
theorem dX8_lays_0 : decode cX8_lays 0 = .ok (.aload_n 0, 1) := by decide +kernel
theorem dX8_lays_1 : decode cX8_lays 1 = .ok (.iload_n 1, 1) := by decide +kernel
theorem dX8_lays_2 : decode cX8_lays 2 = .ok (.iload_n 2, 1) := by decide +kernel
theorem dX8_lays_3 : decode cX8_lays 3 = .ok (.invokevirtual 97, 3) := by decide +kernel
theorem dX8_lays_6 : decode cX8_lays 6 = .ok (.istore_n 3, 1) := by decide +kernel
theorem dX8_lays_7 : decode cX8_lays 7 = .ok (.aload_n 0, 1) := by decide +kernel
theorem dX8_lays_8 : decode cX8_lays 8 = .ok (.getfield 32, 3) := by decide +kernel
theorem dX8_lays_11 : decode cX8_lays 11 = .ok (.iload_n 3, 1) := by decide +kernel
theorem dX8_lays_12 : decode cX8_lays 12 = .ok (.aload_n 0, 1) := by decide +kernel
theorem dX8_lays_13 : decode cX8_lays 13 = .ok (.getfield 101, 3) := by decide +kernel
theorem dX8_lays_16 : decode cX8_lays 16 = .ok (.iastore, 1) := by decide +kernel
theorem dX8_lays_17 : decode cX8_lays 17 = .ok (.aload_n 0, 1) := by decide +kernel
theorem dX8_lays_18 : decode cX8_lays 18 = .ok (.getfield 101, 3) := by decide +kernel
theorem dX8_lays_21 : decode cX8_lays 21 = .ok (.istore 4, 2) := by decide +kernel
theorem dX8_lays_23 : decode cX8_lays 23 = .ok (.aload_n 0, 1) := by decide +kernel
theorem dX8_lays_24 : decode cX8_lays 24 = .ok (.dup, 1) := by decide +kernel
theorem dX8_lays_25 : decode cX8_lays 25 = .ok (.getfield 101, 3) := by decide +kernel
theorem dX8_lays_28 : decode cX8_lays 28 = .ok (.iconst 1, 1) := by decide +kernel
theorem dX8_lays_29 : decode cX8_lays 29 = .ok (.iadd, 1) := by decide +kernel
theorem dX8_lays_30 : decode cX8_lays 30 = .ok (.putfield 101, 3) := by decide +kernel
theorem dX8_lays_33 : decode cX8_lays 33 = .ok (.aload_n 0, 1) := by decide +kernel
theorem dX8_lays_34 : decode cX8_lays 34 = .ok (.getfield 26, 3) := by decide +kernel
theorem dX8_lays_37 : decode cX8_lays 37 = .ok (.iload 4, 2) := by decide +kernel
theorem dX8_lays_39 : decode cX8_lays 39 = .ok (.iload_n 1, 1) := by decide +kernel
theorem dX8_lays_40 : decode cX8_lays 40 = .ok (.ifCond .ne 12, 3) := by decide +kernel
theorem dX8_lays_43 : decode cX8_lays 43 = .ok (.aload_n 0, 1) := by decide +kernel
theorem dX8_lays_44 : decode cX8_lays 44 = .ok (.getfield 23, 3) := by decide +kernel
theorem dX8_lays_47 : decode cX8_lays 47 = .ok (.iload_n 2, 1) := by decide +kernel
theorem dX8_lays_48 : decode cX8_lays 48 = .ok (.iaload, 1) := by decide +kernel
theorem dX8_lays_49 : decode cX8_lays 49 = .ok (.goto 4, 3) := by decide +kernel
theorem dX8_lays_52 : decode cX8_lays 52 = .ok (.iconst 0, 1) := by decide +kernel
theorem dX8_lays_53 : decode cX8_lays 53 = .ok (.iastore, 1) := by decide +kernel
theorem dX8_lays_54 : decode cX8_lays 54 = .ok (.iconst (-1), 1) := by decide +kernel
theorem dX8_lays_55 : decode cX8_lays 55 = .ok (.istore 5, 2) := by decide +kernel
theorem dX8_lays_57 : decode cX8_lays 57 = .ok (.iconst 0, 1) := by decide +kernel
theorem dX8_lays_58 : decode cX8_lays 58 = .ok (.istore 6, 2) := by decide +kernel
theorem dX8_lays_60 : decode cX8_lays 60 = .ok (.iload 6, 2) := by decide +kernel
theorem dX8_lays_62 : decode cX8_lays 62 = .ok (.iconst 4, 1) := by decide +kernel
theorem dX8_lays_63 : decode cX8_lays 63 = .ok (.if_icmp .ge 147, 3) := by decide +kernel
theorem dX8_lays_66 : decode cX8_lays 66 = .ok (.iload_n 1, 1) := by decide +kernel
theorem dX8_lays_67 : decode cX8_lays 67 = .ok (.ifCond .le 143, 3) := by decide +kernel
theorem dX8_lays_70 : decode cX8_lays 70 = .ok (.iconst 4, 1) := by decide +kernel
theorem dX8_lays_71 : decode cX8_lays 71 = .ok (.iload_n 2, 1) := by decide +kernel
theorem dX8_lays_72 : decode cX8_lays 72 = .ok (.imul, 1) := by decide +kernel
theorem dX8_lays_73 : decode cX8_lays 73 = .ok (.iload 6, 2) := by decide +kernel
theorem dX8_lays_75 : decode cX8_lays 75 = .ok (.iadd, 1) := by decide +kernel
theorem dX8_lays_76 : decode cX8_lays 76 = .ok (.istore 7, 2) := by decide +kernel
theorem dX8_lays_78 : decode cX8_lays 78 = .ok (.aload_n 0, 1) := by decide +kernel
theorem dX8_lays_79 : decode cX8_lays 79 = .ok (.iload_n 1, 1) := by decide +kernel
theorem dX8_lays_80 : decode cX8_lays 80 = .ok (.iconst 1, 1) := by decide +kernel
theorem dX8_lays_81 : decode cX8_lays 81 = .ok (.isub, 1) := by decide +kernel
theorem dX8_lays_82 : decode cX8_lays 82 = .ok (.iload 7, 2) := by decide +kernel
theorem dX8_lays_84 : decode cX8_lays 84 = .ok (.iconst 0, 1) := by decide +kernel
theorem dX8_lays_85 : decode cX8_lays 85 = .ok (.invokevirtual 104, 3) := by decide +kernel
theorem dX8_lays_88 : decode cX8_lays 88 = .ok (.ifCond .eq 7, 3) := by decide +kernel
theorem dX8_lays_91 : decode cX8_lays 91 = .ok (.iconst 0, 1) := by decide +kernel
theorem dX8_lays_92 : decode cX8_lays 92 = .ok (.goto 47, 3) := by decide +kernel
theorem dX8_lays_95 : decode cX8_lays 95 = .ok (.aload_n 0, 1) := by decide +kernel
theorem dX8_lays_96 : decode cX8_lays 96 = .ok (.iload_n 1, 1) := by decide +kernel
theorem dX8_lays_97 : decode cX8_lays 97 = .ok (.iconst 1, 1) := by decide +kernel
theorem dX8_lays_98 : decode cX8_lays 98 = .ok (.isub, 1) := by decide +kernel
theorem dX8_lays_99 : decode cX8_lays 99 = .ok (.iload 7, 2) := by decide +kernel
theorem dX8_lays_101 : decode cX8_lays 101 = .ok (.sipush 255, 3) := by decide +kernel
theorem dX8_lays_104 : decode cX8_lays 104 = .ok (.invokevirtual 104, 3) := by decide +kernel
theorem dX8_lays_107 : decode cX8_lays 107 = .ok (.ifCond .eq 7, 3) := by decide +kernel
theorem dX8_lays_110 : decode cX8_lays 110 = .ok (.iconst 1, 1) := by decide +kernel
theorem dX8_lays_111 : decode cX8_lays 111 = .ok (.goto 28, 3) := by decide +kernel
theorem dX8_lays_114 : decode cX8_lays 114 = .ok (.iload 5, 2) := by decide +kernel
theorem dX8_lays_116 : decode cX8_lays 116 = .ok (.iconst (-1), 1) := by decide +kernel
theorem dX8_lays_117 : decode cX8_lays 117 = .ok (.if_icmp .eq 21, 3) := by decide +kernel
theorem dX8_lays_120 : decode cX8_lays 120 = .ok (.aload_n 0, 1) := by decide +kernel
theorem dX8_lays_121 : decode cX8_lays 121 = .ok (.iload_n 1, 1) := by decide +kernel
theorem dX8_lays_122 : decode cX8_lays 122 = .ok (.iconst 1, 1) := by decide +kernel
theorem dX8_lays_123 : decode cX8_lays 123 = .ok (.isub, 1) := by decide +kernel
theorem dX8_lays_124 : decode cX8_lays 124 = .ok (.iload 5, 2) := by decide +kernel
theorem dX8_lays_126 : decode cX8_lays 126 = .ok (.iload 7, 2) := by decide +kernel
theorem dX8_lays_128 : decode cX8_lays 128 = .ok (.invokevirtual 107, 3) := by decide +kernel
theorem dX8_lays_131 : decode cX8_lays 131 = .ok (.ifCond .eq 7, 3) := by decide +kernel
theorem dX8_lays_134 : decode cX8_lays 134 = .ok (.iconst 3, 1) := by decide +kernel
theorem dX8_lays_135 : decode cX8_lays 135 = .ok (.goto 4, 3) := by decide +kernel
theorem dX8_lays_138 : decode cX8_lays 138 = .ok (.iconst 2, 1) := by decide +kernel
theorem dX8_lays_139 : decode cX8_lays 139 = .ok (.istore 8, 2) := by decide +kernel
theorem dX8_lays_141 : decode cX8_lays 141 = .ok (.iload 8, 2) := by decide +kernel
theorem dX8_lays_143 : decode cX8_lays 143 = .ok (.iconst 2, 1) := by decide +kernel
theorem dX8_lays_144 : decode cX8_lays 144 = .ok (.if_icmp .ne 8, 3) := by decide +kernel
theorem dX8_lays_147 : decode cX8_lays 147 = .ok (.iload 7, 2) := by decide +kernel
theorem dX8_lays_149 : decode cX8_lays 149 = .ok (.goto 5, 3) := by decide +kernel
theorem dX8_lays_152 : decode cX8_lays 152 = .ok (.iload 5, 2) := by decide +kernel
theorem dX8_lays_154 : decode cX8_lays 154 = .ok (.istore 5, 2) := by decide +kernel
theorem dX8_lays_156 : decode cX8_lays 156 = .ok (.aload_n 0, 1) := by decide +kernel
theorem dX8_lays_157 : decode cX8_lays 157 = .ok (.getfield 29, 3) := by decide +kernel
theorem dX8_lays_160 : decode cX8_lays 160 = .ok (.aload_n 0, 1) := by decide +kernel
theorem dX8_lays_161 : decode cX8_lays 161 = .ok (.iload_n 1, 1) := by decide +kernel
theorem dX8_lays_162 : decode cX8_lays 162 = .ok (.iconst 1, 1) := by decide +kernel
theorem dX8_lays_163 : decode cX8_lays 163 = .ok (.isub, 1) := by decide +kernel
theorem dX8_lays_164 : decode cX8_lays 164 = .ok (.iload 7, 2) := by decide +kernel
theorem dX8_lays_166 : decode cX8_lays 166 = .ok (.invokevirtual 97, 3) := by decide +kernel
theorem dX8_lays_169 : decode cX8_lays 169 = .ok (.iload 8, 2) := by decide +kernel
theorem dX8_lays_171 : decode cX8_lays 171 = .ok (.iastore, 1) := by decide +kernel
theorem dX8_lays_172 : decode cX8_lays 172 = .ok (.aload_n 0, 1) := by decide +kernel
theorem dX8_lays_173 : decode cX8_lays 173 = .ok (.getfield 26, 3) := by decide +kernel
theorem dX8_lays_176 : decode cX8_lays 176 = .ok (.iload 4, 2) := by decide +kernel
theorem dX8_lays_178 : decode cX8_lays 178 = .ok (.dup2, 1) := by decide +kernel
theorem dX8_lays_179 : decode cX8_lays 179 = .ok (.iaload, 1) := by decide +kernel
theorem dX8_lays_180 : decode cX8_lays 180 = .ok (.iload 8, 2) := by decide +kernel
theorem dX8_lays_182 : decode cX8_lays 182 = .ok (.iconst 2, 1) := by decide +kernel
theorem dX8_lays_183 : decode cX8_lays 183 = .ok (.iload 6, 2) := by decide +kernel
theorem dX8_lays_185 : decode cX8_lays 185 = .ok (.imul, 1) := by decide +kernel
theorem dX8_lays_186 : decode cX8_lays 186 = .ok (.ishl, 1) := by decide +kernel
theorem dX8_lays_187 : decode cX8_lays 187 = .ok (.ior, 1) := by decide +kernel
theorem dX8_lays_188 : decode cX8_lays 188 = .ok (.iastore, 1) := by decide +kernel
theorem dX8_lays_189 : decode cX8_lays 189 = .ok (.iload 8, 2) := by decide +kernel
theorem dX8_lays_191 : decode cX8_lays 191 = .ok (.iconst 2, 1) := by decide +kernel
theorem dX8_lays_192 : decode cX8_lays 192 = .ok (.if_icmp .ne 12, 3) := by decide +kernel
theorem dX8_lays_195 : decode cX8_lays 195 = .ok (.aload_n 0, 1) := by decide +kernel
theorem dX8_lays_196 : decode cX8_lays 196 = .ok (.iload_n 1, 1) := by decide +kernel
theorem dX8_lays_197 : decode cX8_lays 197 = .ok (.iconst 1, 1) := by decide +kernel
theorem dX8_lays_198 : decode cX8_lays 198 = .ok (.isub, 1) := by decide +kernel
theorem dX8_lays_199 : decode cX8_lays 199 = .ok (.iload 7, 2) := by decide +kernel
theorem dX8_lays_201 : decode cX8_lays 201 = .ok (.invokevirtual 110, 3) := by decide +kernel
theorem dX8_lays_204 : decode cX8_lays 204 = .ok (.iinc 6 1, 3) := by decide +kernel
theorem dX8_lays_207 : decode cX8_lays 207 = .ok (.goto (-147), 3) := by decide +kernel
theorem dX8_lays_210 : decode cX8_lays 210 = .ok (.aload_n 0, 1) := by decide +kernel
theorem dX8_lays_211 : decode cX8_lays 211 = .ok (.getfield 35, 3) := by decide +kernel
theorem dX8_lays_214 : decode cX8_lays 214 = .ok (.iload_n 3, 1) := by decide +kernel
theorem dX8_lays_215 : decode cX8_lays 215 = .ok (.aload_n 0, 1) := by decide +kernel
theorem dX8_lays_216 : decode cX8_lays 216 = .ok (.getfield 101, 3) := by decide +kernel
theorem dX8_lays_219 : decode cX8_lays 219 = .ok (.iload 4, 2) := by decide +kernel
theorem dX8_lays_221 : decode cX8_lays 221 = .ok (.isub, 1) := by decide +kernel
theorem dX8_lays_222 : decode cX8_lays 222 = .ok (.iastore, 1) := by decide +kernel
theorem dX8_lays_223 : decode cX8_lays 223 = .ok (.return_, 1) := by decide +kernel
theorem dX8_laysTree_0 : decode cX8_laysTree 0 = .ok (.iconst 0, 1) := by decide +kernel
theorem dX8_laysTree_1 : decode cX8_laysTree 1 = .ok (.istore_n 1, 1) := by decide +kernel
theorem dX8_laysTree_2 : decode cX8_laysTree 2 = .ok (.iload_n 1, 1) := by decide +kernel
theorem dX8_laysTree_3 : decode cX8_laysTree 3 = .ok (.sipush 341, 3) := by decide +kernel
theorem dX8_laysTree_6 : decode cX8_laysTree 6 = .ok (.if_icmp .ge 30, 3) := by decide +kernel
theorem dX8_laysTree_9 : decode cX8_laysTree 9 = .ok (.aload_n 0, 1) := by decide +kernel
theorem dX8_laysTree_10 : decode cX8_laysTree 10 = .ok (.getfield 29, 3) := by decide +kernel
theorem dX8_laysTree_13 : decode cX8_laysTree 13 = .ok (.iload_n 1, 1) := by decide +kernel
theorem dX8_laysTree_14 : decode cX8_laysTree 14 = .ok (.iconst (-1), 1) := by decide +kernel
theorem dX8_laysTree_15 : decode cX8_laysTree 15 = .ok (.iastore, 1) := by decide +kernel
theorem dX8_laysTree_16 : decode cX8_laysTree 16 = .ok (.aload_n 0, 1) := by decide +kernel
theorem dX8_laysTree_17 : decode cX8_laysTree 17 = .ok (.getfield 32, 3) := by decide +kernel
theorem dX8_laysTree_20 : decode cX8_laysTree 20 = .ok (.iload_n 1, 1) := by decide +kernel
theorem dX8_laysTree_21 : decode cX8_laysTree 21 = .ok (.iconst (-1), 1) := by decide +kernel
theorem dX8_laysTree_22 : decode cX8_laysTree 22 = .ok (.iastore, 1) := by decide +kernel
theorem dX8_laysTree_23 : decode cX8_laysTree 23 = .ok (.aload_n 0, 1) := by decide +kernel
theorem dX8_laysTree_24 : decode cX8_laysTree 24 = .ok (.getfield 35, 3) := by decide +kernel
theorem dX8_laysTree_27 : decode cX8_laysTree 27 = .ok (.iload_n 1, 1) := by decide +kernel
theorem dX8_laysTree_28 : decode cX8_laysTree 28 = .ok (.iconst (-1), 1) := by decide +kernel
theorem dX8_laysTree_29 : decode cX8_laysTree 29 = .ok (.iastore, 1) := by decide +kernel
theorem dX8_laysTree_30 : decode cX8_laysTree 30 = .ok (.iinc 1 1, 3) := by decide +kernel
theorem dX8_laysTree_33 : decode cX8_laysTree 33 = .ok (.goto (-31), 3) := by decide +kernel
theorem dX8_laysTree_36 : decode cX8_laysTree 36 = .ok (.aload_n 0, 1) := by decide +kernel
theorem dX8_laysTree_37 : decode cX8_laysTree 37 = .ok (.iconst 0, 1) := by decide +kernel
theorem dX8_laysTree_38 : decode cX8_laysTree 38 = .ok (.putfield 101, 3) := by decide +kernel
theorem dX8_laysTree_41 : decode cX8_laysTree 41 = .ok (.aload_n 0, 1) := by decide +kernel
theorem dX8_laysTree_42 : decode cX8_laysTree 42 = .ok (.aload_n 0, 1) := by decide +kernel
theorem dX8_laysTree_43 : decode cX8_laysTree 43 = .ok (.getfield 83, 3) := by decide +kernel
theorem dX8_laysTree_46 : decode cX8_laysTree 46 = .ok (.iconst 0, 1) := by decide +kernel
theorem dX8_laysTree_47 : decode cX8_laysTree 47 = .ok (.invokevirtual 110, 3) := by decide +kernel
theorem dX8_laysTree_50 : decode cX8_laysTree 50 = .ok (.return_, 1) := by decide +kernel
theorem dX8_fetches_0 : decode cX8_fetches 0 = .ok (.aload_n 0, 1) := by decide +kernel
theorem dX8_fetches_1 : decode cX8_fetches 1 = .ok (.aload_n 0, 1) := by decide +kernel
theorem dX8_fetches_2 : decode cX8_fetches 2 = .ok (.getfield 114, 3) := by decide +kernel
theorem dX8_fetches_5 : decode cX8_fetches 5 = .ok (.putfield 83, 3) := by decide +kernel
theorem dX8_fetches_8 : decode cX8_fetches 8 = .ok (.iconst 0, 1) := by decide +kernel
theorem dX8_fetches_9 : decode cX8_fetches 9 = .ok (.istore_n 2, 1) := by decide +kernel
theorem dX8_fetches_10 : decode cX8_fetches 10 = .ok (.iload_n 2, 1) := by decide +kernel
theorem dX8_fetches_11 : decode cX8_fetches 11 = .ok (.aload_n 0, 1) := by decide +kernel
theorem dX8_fetches_12 : decode cX8_fetches 12 = .ok (.invokevirtual 86, 3) := by decide +kernel
theorem dX8_fetches_15 : decode cX8_fetches 15 = .ok (.if_icmp .ge 27, 3) := by decide +kernel
theorem dX8_fetches_18 : decode cX8_fetches 18 = .ok (.aload_n 0, 1) := by decide +kernel
theorem dX8_fetches_19 : decode cX8_fetches 19 = .ok (.getfield 23, 3) := by decide +kernel
theorem dX8_fetches_22 : decode cX8_fetches 22 = .ok (.iload_n 2, 1) := by decide +kernel
theorem dX8_fetches_23 : decode cX8_fetches 23 = .ok (.aload_n 0, 1) := by decide +kernel
theorem dX8_fetches_24 : decode cX8_fetches 24 = .ok (.getfield 13, 3) := by decide +kernel
theorem dX8_fetches_27 : decode cX8_fetches 27 = .ok (.sipush 256, 3) := by decide +kernel
theorem dX8_fetches_30 : decode cX8_fetches 30 = .ok (.iload_n 1, 1) := by decide +kernel
theorem dX8_fetches_31 : decode cX8_fetches 31 = .ok (.imul, 1) := by decide +kernel
theorem dX8_fetches_32 : decode cX8_fetches 32 = .ok (.iload_n 2, 1) := by decide +kernel
theorem dX8_fetches_33 : decode cX8_fetches 33 = .ok (.iadd, 1) := by decide +kernel
theorem dX8_fetches_34 : decode cX8_fetches 34 = .ok (.iaload, 1) := by decide +kernel
theorem dX8_fetches_35 : decode cX8_fetches 35 = .ok (.iastore, 1) := by decide +kernel
theorem dX8_fetches_36 : decode cX8_fetches 36 = .ok (.iinc 2 1, 3) := by decide +kernel
theorem dX8_fetches_39 : decode cX8_fetches 39 = .ok (.goto (-29), 3) := by decide +kernel
theorem dX8_fetches_42 : decode cX8_fetches 42 = .ok (.return_, 1) := by decide +kernel
theorem dX8_fetchesTree_0 : decode cX8_fetchesTree 0 = .ok (.aload_n 0, 1) := by decide +kernel
theorem dX8_fetchesTree_1 : decode cX8_fetchesTree 1 = .ok (.iload_n 1, 1) := by decide +kernel
theorem dX8_fetchesTree_2 : decode cX8_fetchesTree 2 = .ok (.invokevirtual 117, 3) := by decide +kernel
theorem dX8_fetchesTree_5 : decode cX8_fetchesTree 5 = .ok (.aload_n 0, 1) := by decide +kernel
theorem dX8_fetchesTree_6 : decode cX8_fetchesTree 6 = .ok (.invokevirtual 121, 3) := by decide +kernel
theorem dX8_fetchesTree_9 : decode cX8_fetchesTree 9 = .ok (.return_, 1) := by decide +kernel
theorem dX8_puts_0 : decode cX8_puts 0 = .ok (.iconst 0, 1) := by decide +kernel
theorem dX8_puts_1 : decode cX8_puts 1 = .ok (.istore_n 2, 1) := by decide +kernel
theorem dX8_puts_2 : decode cX8_puts 2 = .ok (.iload_n 2, 1) := by decide +kernel
theorem dX8_puts_3 : decode cX8_puts 3 = .ok (.aload_n 0, 1) := by decide +kernel
theorem dX8_puts_4 : decode cX8_puts 4 = .ok (.invokevirtual 86, 3) := by decide +kernel
theorem dX8_puts_7 : decode cX8_puts 7 = .ok (.if_icmp .ge 27, 3) := by decide +kernel
theorem dX8_puts_10 : decode cX8_puts 10 = .ok (.aload_n 0, 1) := by decide +kernel
theorem dX8_puts_11 : decode cX8_puts 11 = .ok (.getfield 13, 3) := by decide +kernel
theorem dX8_puts_14 : decode cX8_puts 14 = .ok (.sipush 256, 3) := by decide +kernel
theorem dX8_puts_17 : decode cX8_puts 17 = .ok (.iload_n 1, 1) := by decide +kernel
theorem dX8_puts_18 : decode cX8_puts 18 = .ok (.imul, 1) := by decide +kernel
theorem dX8_puts_19 : decode cX8_puts 19 = .ok (.iload_n 2, 1) := by decide +kernel
theorem dX8_puts_20 : decode cX8_puts 20 = .ok (.iadd, 1) := by decide +kernel
theorem dX8_puts_21 : decode cX8_puts 21 = .ok (.aload_n 0, 1) := by decide +kernel
theorem dX8_puts_22 : decode cX8_puts 22 = .ok (.getfield 23, 3) := by decide +kernel
theorem dX8_puts_25 : decode cX8_puts 25 = .ok (.iload_n 2, 1) := by decide +kernel
theorem dX8_puts_26 : decode cX8_puts 26 = .ok (.iaload, 1) := by decide +kernel
theorem dX8_puts_27 : decode cX8_puts 27 = .ok (.iastore, 1) := by decide +kernel
theorem dX8_puts_28 : decode cX8_puts 28 = .ok (.iinc 2 1, 3) := by decide +kernel
theorem dX8_puts_31 : decode cX8_puts 31 = .ok (.goto (-29), 3) := by decide +kernel
theorem dX8_puts_34 : decode cX8_puts 34 = .ok (.return_, 1) := by decide +kernel
theorem dX8_bitOf_0 : decode cX8_bitOf 0 = .ok (.aload_n 0, 1) := by decide +kernel
theorem dX8_bitOf_1 : decode cX8_bitOf 1 = .ok (.getfield 23, 3) := by decide +kernel
theorem dX8_bitOf_4 : decode cX8_bitOf 4 = .ok (.iload_n 1, 1) := by decide +kernel
theorem dX8_bitOf_5 : decode cX8_bitOf 5 = .ok (.bipush 8, 2) := by decide +kernel
theorem dX8_bitOf_7 : decode cX8_bitOf 7 = .ok (.idiv, 1) := by decide +kernel
theorem dX8_bitOf_8 : decode cX8_bitOf 8 = .ok (.iaload, 1) := by decide +kernel
theorem dX8_bitOf_9 : decode cX8_bitOf 9 = .ok (.iload_n 1, 1) := by decide +kernel
theorem dX8_bitOf_10 : decode cX8_bitOf 10 = .ok (.bipush 8, 2) := by decide +kernel
theorem dX8_bitOf_12 : decode cX8_bitOf 12 = .ok (.irem, 1) := by decide +kernel
theorem dX8_bitOf_13 : decode cX8_bitOf 13 = .ok (.ishr, 1) := by decide +kernel
theorem dX8_bitOf_14 : decode cX8_bitOf 14 = .ok (.iconst 1, 1) := by decide +kernel
theorem dX8_bitOf_15 : decode cX8_bitOf 15 = .ok (.iand, 1) := by decide +kernel
theorem dX8_bitOf_16 : decode cX8_bitOf 16 = .ok (.ireturn, 1) := by decide +kernel
theorem dX8_laysBit_0 : decode cX8_laysBit 0 = .ok (.aload_n 0, 1) := by decide +kernel
theorem dX8_laysBit_1 : decode cX8_laysBit 1 = .ok (.getfield 23, 3) := by decide +kernel
theorem dX8_laysBit_4 : decode cX8_laysBit 4 = .ok (.iload_n 1, 1) := by decide +kernel
theorem dX8_laysBit_5 : decode cX8_laysBit 5 = .ok (.bipush 8, 2) := by decide +kernel
theorem dX8_laysBit_7 : decode cX8_laysBit 7 = .ok (.idiv, 1) := by decide +kernel
theorem dX8_laysBit_8 : decode cX8_laysBit 8 = .ok (.iaload, 1) := by decide +kernel
theorem dX8_laysBit_9 : decode cX8_laysBit 9 = .ok (.iconst 1, 1) := by decide +kernel
theorem dX8_laysBit_10 : decode cX8_laysBit 10 = .ok (.iload_n 1, 1) := by decide +kernel
theorem dX8_laysBit_11 : decode cX8_laysBit 11 = .ok (.bipush 8, 2) := by decide +kernel
theorem dX8_laysBit_13 : decode cX8_laysBit 13 = .ok (.irem, 1) := by decide +kernel
theorem dX8_laysBit_14 : decode cX8_laysBit 14 = .ok (.ishl, 1) := by decide +kernel
theorem dX8_laysBit_15 : decode cX8_laysBit 15 = .ok (.iconst (-1), 1) := by decide +kernel
theorem dX8_laysBit_16 : decode cX8_laysBit 16 = .ok (.ixor, 1) := by decide +kernel
theorem dX8_laysBit_17 : decode cX8_laysBit 17 = .ok (.iand, 1) := by decide +kernel
theorem dX8_laysBit_18 : decode cX8_laysBit 18 = .ok (.istore_n 3, 1) := by decide +kernel
theorem dX8_laysBit_19 : decode cX8_laysBit 19 = .ok (.aload_n 0, 1) := by decide +kernel
theorem dX8_laysBit_20 : decode cX8_laysBit 20 = .ok (.getfield 23, 3) := by decide +kernel
theorem dX8_laysBit_23 : decode cX8_laysBit 23 = .ok (.iload_n 1, 1) := by decide +kernel
theorem dX8_laysBit_24 : decode cX8_laysBit 24 = .ok (.bipush 8, 2) := by decide +kernel
theorem dX8_laysBit_26 : decode cX8_laysBit 26 = .ok (.idiv, 1) := by decide +kernel
theorem dX8_laysBit_27 : decode cX8_laysBit 27 = .ok (.iload_n 3, 1) := by decide +kernel
theorem dX8_laysBit_28 : decode cX8_laysBit 28 = .ok (.iload_n 2, 1) := by decide +kernel
theorem dX8_laysBit_29 : decode cX8_laysBit 29 = .ok (.iload_n 1, 1) := by decide +kernel
theorem dX8_laysBit_30 : decode cX8_laysBit 30 = .ok (.bipush 8, 2) := by decide +kernel
theorem dX8_laysBit_32 : decode cX8_laysBit 32 = .ok (.irem, 1) := by decide +kernel
theorem dX8_laysBit_33 : decode cX8_laysBit 33 = .ok (.ishl, 1) := by decide +kernel
theorem dX8_laysBit_34 : decode cX8_laysBit 34 = .ok (.ior, 1) := by decide +kernel
theorem dX8_laysBit_35 : decode cX8_laysBit 35 = .ok (.iastore, 1) := by decide +kernel
theorem dX8_laysBit_36 : decode cX8_laysBit 36 = .ok (.return_, 1) := by decide +kernel
theorem dX8_isWrongAt_0 : decode cX8_isWrongAt 0 = .ok (.aload_n 0, 1) := by decide +kernel
theorem dX8_isWrongAt_1 : decode cX8_isWrongAt 1 = .ok (.getfield 124, 3) := by decide +kernel
theorem dX8_isWrongAt_4 : decode cX8_isWrongAt 4 = .ok (.iconst (-1), 1) := by decide +kernel
theorem dX8_isWrongAt_5 : decode cX8_isWrongAt 5 = .ok (.if_icmp .ne 8, 3) := by decide +kernel
theorem dX8_isWrongAt_8 : decode cX8_isWrongAt 8 = .ok (.aload_n 0, 1) := by decide +kernel
theorem dX8_isWrongAt_9 : decode cX8_isWrongAt 9 = .ok (.iload_n 1, 1) := by decide +kernel
theorem dX8_isWrongAt_10 : decode cX8_isWrongAt 10 = .ok (.putfield 124, 3) := by decide +kernel
theorem dX8_isWrongAt_13 : decode cX8_isWrongAt 13 = .ok (.return_, 1) := by decide +kernel
theorem dX8_makesAll_0 : decode cX8_makesAll 0 = .ok (.iconst 0, 1) := by decide +kernel
theorem dX8_makesAll_1 : decode cX8_makesAll 1 = .ok (.istore 4, 2) := by decide +kernel
theorem dX8_makesAll_3 : decode cX8_makesAll 3 = .ok (.iload 4, 2) := by decide +kernel
theorem dX8_makesAll_5 : decode cX8_makesAll 5 = .ok (.iload_n 1, 1) := by decide +kernel
theorem dX8_makesAll_6 : decode cX8_makesAll 6 = .ok (.invokestatic 94, 3) := by decide +kernel
theorem dX8_makesAll_9 : decode cX8_makesAll 9 = .ok (.if_icmp .ge 24, 3) := by decide +kernel
theorem dX8_makesAll_12 : decode cX8_makesAll 12 = .ok (.aload_n 0, 1) := by decide +kernel
theorem dX8_makesAll_13 : decode cX8_makesAll 13 = .ok (.getfield 23, 3) := by decide +kernel
theorem dX8_makesAll_16 : decode cX8_makesAll 16 = .ok (.iload_n 1, 1) := by decide +kernel
theorem dX8_makesAll_17 : decode cX8_makesAll 17 = .ok (.invokestatic 94, 3) := by decide +kernel
theorem dX8_makesAll_20 : decode cX8_makesAll 20 = .ok (.iload_n 2, 1) := by decide +kernel
theorem dX8_makesAll_21 : decode cX8_makesAll 21 = .ok (.imul, 1) := by decide +kernel
theorem dX8_makesAll_22 : decode cX8_makesAll 22 = .ok (.iload 4, 2) := by decide +kernel
theorem dX8_makesAll_24 : decode cX8_makesAll 24 = .ok (.iadd, 1) := by decide +kernel
theorem dX8_makesAll_25 : decode cX8_makesAll 25 = .ok (.iload_n 3, 1) := by decide +kernel
theorem dX8_makesAll_26 : decode cX8_makesAll 26 = .ok (.iastore, 1) := by decide +kernel
theorem dX8_makesAll_27 : decode cX8_makesAll 27 = .ok (.iinc 4 1, 3) := by decide +kernel
theorem dX8_makesAll_30 : decode cX8_makesAll 30 = .ok (.goto (-27), 3) := by decide +kernel
theorem dX8_makesAll_33 : decode cX8_makesAll 33 = .ok (.return_, 1) := by decide +kernel
theorem dX8_copiesBlock_0 : decode cX8_copiesBlock 0 = .ok (.iconst 0, 1) := by decide +kernel
theorem dX8_copiesBlock_1 : decode cX8_copiesBlock 1 = .ok (.istore 4, 2) := by decide +kernel
theorem dX8_copiesBlock_3 : decode cX8_copiesBlock 3 = .ok (.iload 4, 2) := by decide +kernel
theorem dX8_copiesBlock_5 : decode cX8_copiesBlock 5 = .ok (.iload_n 1, 1) := by decide +kernel
theorem dX8_copiesBlock_6 : decode cX8_copiesBlock 6 = .ok (.invokestatic 94, 3) := by decide +kernel
theorem dX8_copiesBlock_9 : decode cX8_copiesBlock 9 = .ok (.if_icmp .ge 37, 3) := by decide +kernel
theorem dX8_copiesBlock_12 : decode cX8_copiesBlock 12 = .ok (.aload_n 0, 1) := by decide +kernel
theorem dX8_copiesBlock_13 : decode cX8_copiesBlock 13 = .ok (.getfield 23, 3) := by decide +kernel
theorem dX8_copiesBlock_16 : decode cX8_copiesBlock 16 = .ok (.iload_n 1, 1) := by decide +kernel
theorem dX8_copiesBlock_17 : decode cX8_copiesBlock 17 = .ok (.invokestatic 94, 3) := by decide +kernel
theorem dX8_copiesBlock_20 : decode cX8_copiesBlock 20 = .ok (.iload_n 3, 1) := by decide +kernel
theorem dX8_copiesBlock_21 : decode cX8_copiesBlock 21 = .ok (.imul, 1) := by decide +kernel
theorem dX8_copiesBlock_22 : decode cX8_copiesBlock 22 = .ok (.iload 4, 2) := by decide +kernel
theorem dX8_copiesBlock_24 : decode cX8_copiesBlock 24 = .ok (.iadd, 1) := by decide +kernel
theorem dX8_copiesBlock_25 : decode cX8_copiesBlock 25 = .ok (.aload_n 0, 1) := by decide +kernel
theorem dX8_copiesBlock_26 : decode cX8_copiesBlock 26 = .ok (.getfield 23, 3) := by decide +kernel
theorem dX8_copiesBlock_29 : decode cX8_copiesBlock 29 = .ok (.iload_n 1, 1) := by decide +kernel
theorem dX8_copiesBlock_30 : decode cX8_copiesBlock 30 = .ok (.invokestatic 94, 3) := by decide +kernel
theorem dX8_copiesBlock_33 : decode cX8_copiesBlock 33 = .ok (.iload_n 2, 1) := by decide +kernel
theorem dX8_copiesBlock_34 : decode cX8_copiesBlock 34 = .ok (.imul, 1) := by decide +kernel
theorem dX8_copiesBlock_35 : decode cX8_copiesBlock 35 = .ok (.iload 4, 2) := by decide +kernel
theorem dX8_copiesBlock_37 : decode cX8_copiesBlock 37 = .ok (.iadd, 1) := by decide +kernel
theorem dX8_copiesBlock_38 : decode cX8_copiesBlock 38 = .ok (.iaload, 1) := by decide +kernel
theorem dX8_copiesBlock_39 : decode cX8_copiesBlock 39 = .ok (.iastore, 1) := by decide +kernel
theorem dX8_copiesBlock_40 : decode cX8_copiesBlock 40 = .ok (.iinc 4 1, 3) := by decide +kernel
theorem dX8_copiesBlock_43 : decode cX8_copiesBlock 43 = .ok (.goto (-40), 3) := by decide +kernel
theorem dX8_copiesBlock_46 : decode cX8_copiesBlock 46 = .ok (.return_, 1) := by decide +kernel
theorem dX8_isHead_0 : decode cX8_isHead 0 = .ok (.iconst 0, 1) := by decide +kernel
theorem dX8_isHead_1 : decode cX8_isHead 1 = .ok (.istore_n 1, 1) := by decide +kernel
theorem dX8_isHead_2 : decode cX8_isHead 2 = .ok (.iconst 0, 1) := by decide +kernel
theorem dX8_isHead_3 : decode cX8_isHead 3 = .ok (.istore_n 2, 1) := by decide +kernel
theorem dX8_isHead_4 : decode cX8_isHead 4 = .ok (.iload_n 2, 1) := by decide +kernel
theorem dX8_isHead_5 : decode cX8_isHead 5 = .ok (.iconst 4, 1) := by decide +kernel
theorem dX8_isHead_6 : decode cX8_isHead 6 = .ok (.if_icmp .ge 43, 3) := by decide +kernel
theorem dX8_isHead_9 : decode cX8_isHead 9 = .ok (.iload_n 0, 1) := by decide +kernel
theorem dX8_isHead_10 : decode cX8_isHead 10 = .ok (.iconst 2, 1) := by decide +kernel
theorem dX8_isHead_11 : decode cX8_isHead 11 = .ok (.iload_n 2, 1) := by decide +kernel
theorem dX8_isHead_12 : decode cX8_isHead 12 = .ok (.imul, 1) := by decide +kernel
theorem dX8_isHead_13 : decode cX8_isHead 13 = .ok (.ishr, 1) := by decide +kernel
theorem dX8_isHead_14 : decode cX8_isHead 14 = .ok (.iconst 3, 1) := by decide +kernel
theorem dX8_isHead_15 : decode cX8_isHead 15 = .ok (.iand, 1) := by decide +kernel
theorem dX8_isHead_16 : decode cX8_isHead 16 = .ok (.istore_n 3, 1) := by decide +kernel
theorem dX8_isHead_17 : decode cX8_isHead 17 = .ok (.iload_n 3, 1) := by decide +kernel
theorem dX8_isHead_18 : decode cX8_isHead 18 = .ok (.iconst 3, 1) := by decide +kernel
theorem dX8_isHead_19 : decode cX8_isHead 19 = .ok (.if_icmp .ne 9, 3) := by decide +kernel
theorem dX8_isHead_22 : decode cX8_isHead 22 = .ok (.iload_n 1, 1) := by decide +kernel
theorem dX8_isHead_23 : decode cX8_isHead 23 = .ok (.ifCond .ne 5, 3) := by decide +kernel
theorem dX8_isHead_26 : decode cX8_isHead 26 = .ok (.iconst 0, 1) := by decide +kernel
theorem dX8_isHead_27 : decode cX8_isHead 27 = .ok (.ireturn, 1) := by decide +kernel
theorem dX8_isHead_28 : decode cX8_isHead 28 = .ok (.iload_n 1, 1) := by decide +kernel
theorem dX8_isHead_29 : decode cX8_isHead 29 = .ok (.ifCond .ne 8, 3) := by decide +kernel
theorem dX8_isHead_32 : decode cX8_isHead 32 = .ok (.iload_n 3, 1) := by decide +kernel
theorem dX8_isHead_33 : decode cX8_isHead 33 = .ok (.iconst 2, 1) := by decide +kernel
theorem dX8_isHead_34 : decode cX8_isHead 34 = .ok (.if_icmp .ne 7, 3) := by decide +kernel
theorem dX8_isHead_37 : decode cX8_isHead 37 = .ok (.iconst 1, 1) := by decide +kernel
theorem dX8_isHead_38 : decode cX8_isHead 38 = .ok (.goto 4, 3) := by decide +kernel
theorem dX8_isHead_41 : decode cX8_isHead 41 = .ok (.iconst 0, 1) := by decide +kernel
theorem dX8_isHead_42 : decode cX8_isHead 42 = .ok (.istore_n 1, 1) := by decide +kernel
theorem dX8_isHead_43 : decode cX8_isHead 43 = .ok (.iinc 2 1, 3) := by decide +kernel
theorem dX8_isHead_46 : decode cX8_isHead 46 = .ok (.goto (-42), 3) := by decide +kernel
theorem dX8_isHead_49 : decode cX8_isHead 49 = .ok (.iconst 1, 1) := by decide +kernel
theorem dX8_isHead_50 : decode cX8_isHead 50 = .ok (.ireturn, 1) := by decide +kernel
theorem dX8_readsBlock_0 : decode cX8_readsBlock 0 = .ok (.aload_n 0, 1) := by decide +kernel
theorem dX8_readsBlock_1 : decode cX8_readsBlock 1 = .ok (.getfield 127, 3) := by decide +kernel
theorem dX8_readsBlock_4 : decode cX8_readsBlock 4 = .ok (.aload_n 0, 1) := by decide +kernel
theorem dX8_readsBlock_5 : decode cX8_readsBlock 5 = .ok (.getfield 130, 3) := by decide +kernel
theorem dX8_readsBlock_8 : decode cX8_readsBlock 8 = .ok (.if_icmp .ne 12, 3) := by decide +kernel
theorem dX8_readsBlock_11 : decode cX8_readsBlock 11 = .ok (.aload_n 0, 1) := by decide +kernel
theorem dX8_readsBlock_12 : decode cX8_readsBlock 12 = .ok (.aload_n 0, 1) := by decide +kernel
theorem dX8_readsBlock_13 : decode cX8_readsBlock 13 = .ok (.getfield 127, 3) := by decide +kernel
theorem dX8_readsBlock_16 : decode cX8_readsBlock 16 = .ok (.invokevirtual 133, 3) := by decide +kernel
theorem dX8_readsBlock_19 : decode cX8_readsBlock 19 = .ok (.return_, 1) := by decide +kernel
theorem dX8_readsBlock_20 : decode cX8_readsBlock 20 = .ok (.aload_n 0, 1) := by decide +kernel
theorem dX8_readsBlock_21 : decode cX8_readsBlock 21 = .ok (.getfield 38, 3) := by decide +kernel
theorem dX8_readsBlock_24 : decode cX8_readsBlock 24 = .ok (.aload_n 0, 1) := by decide +kernel
theorem dX8_readsBlock_25 : decode cX8_readsBlock 25 = .ok (.getfield 127, 3) := by decide +kernel
theorem dX8_readsBlock_28 : decode cX8_readsBlock 28 = .ok (.iaload, 1) := by decide +kernel
theorem dX8_readsBlock_29 : decode cX8_readsBlock 29 = .ok (.istore_n 3, 1) := by decide +kernel
theorem dX8_readsBlock_30 : decode cX8_readsBlock 30 = .ok (.aload_n 0, 1) := by decide +kernel
theorem dX8_readsBlock_31 : decode cX8_readsBlock 31 = .ok (.dup, 1) := by decide +kernel
theorem dX8_readsBlock_32 : decode cX8_readsBlock 32 = .ok (.getfield 127, 3) := by decide +kernel
theorem dX8_readsBlock_35 : decode cX8_readsBlock 35 = .ok (.iconst 1, 1) := by decide +kernel
theorem dX8_readsBlock_36 : decode cX8_readsBlock 36 = .ok (.iadd, 1) := by decide +kernel
theorem dX8_readsBlock_37 : decode cX8_readsBlock 37 = .ok (.putfield 127, 3) := by decide +kernel
theorem dX8_readsBlock_40 : decode cX8_readsBlock 40 = .ok (.iload_n 1, 1) := by decide +kernel
theorem dX8_readsBlock_41 : decode cX8_readsBlock 41 = .ok (.ifCond .ne 11, 3) := by decide +kernel
theorem dX8_readsBlock_44 : decode cX8_readsBlock 44 = .ok (.aload_n 0, 1) := by decide +kernel
theorem dX8_readsBlock_45 : decode cX8_readsBlock 45 = .ok (.getfield 23, 3) := by decide +kernel
theorem dX8_readsBlock_48 : decode cX8_readsBlock 48 = .ok (.iload_n 2, 1) := by decide +kernel
theorem dX8_readsBlock_49 : decode cX8_readsBlock 49 = .ok (.iload_n 3, 1) := by decide +kernel
theorem dX8_readsBlock_50 : decode cX8_readsBlock 50 = .ok (.iastore, 1) := by decide +kernel
theorem dX8_readsBlock_51 : decode cX8_readsBlock 51 = .ok (.return_, 1) := by decide +kernel
theorem dX8_readsBlock_52 : decode cX8_readsBlock 52 = .ok (.iload_n 3, 1) := by decide +kernel
theorem dX8_readsBlock_53 : decode cX8_readsBlock 53 = .ok (.invokestatic 136, 3) := by decide +kernel
theorem dX8_readsBlock_56 : decode cX8_readsBlock 56 = .ok (.ifCond .ne 14, 3) := by decide +kernel
theorem dX8_readsBlock_59 : decode cX8_readsBlock 59 = .ok (.aload_n 0, 1) := by decide +kernel
theorem dX8_readsBlock_60 : decode cX8_readsBlock 60 = .ok (.aload_n 0, 1) := by decide +kernel
theorem dX8_readsBlock_61 : decode cX8_readsBlock 61 = .ok (.getfield 127, 3) := by decide +kernel
theorem dX8_readsBlock_64 : decode cX8_readsBlock 64 = .ok (.iconst 1, 1) := by decide +kernel
theorem dX8_readsBlock_65 : decode cX8_readsBlock 65 = .ok (.isub, 1) := by decide +kernel
theorem dX8_readsBlock_66 : decode cX8_readsBlock 66 = .ok (.invokevirtual 133, 3) := by decide +kernel
theorem dX8_readsBlock_69 : decode cX8_readsBlock 69 = .ok (.return_, 1) := by decide +kernel
theorem dX8_readsBlock_70 : decode cX8_readsBlock 70 = .ok (.iconst (-1), 1) := by decide +kernel
theorem dX8_readsBlock_71 : decode cX8_readsBlock 71 = .ok (.istore 4, 2) := by decide +kernel
theorem dX8_readsBlock_73 : decode cX8_readsBlock 73 = .ok (.iconst 0, 1) := by decide +kernel
theorem dX8_readsBlock_74 : decode cX8_readsBlock 74 = .ok (.istore 5, 2) := by decide +kernel
theorem dX8_readsBlock_76 : decode cX8_readsBlock 76 = .ok (.iload 5, 2) := by decide +kernel
theorem dX8_readsBlock_78 : decode cX8_readsBlock 78 = .ok (.iconst 4, 1) := by decide +kernel
theorem dX8_readsBlock_79 : decode cX8_readsBlock 79 = .ok (.if_icmp .ge 94, 3) := by decide +kernel
theorem dX8_readsBlock_82 : decode cX8_readsBlock 82 = .ok (.aload_n 0, 1) := by decide +kernel
theorem dX8_readsBlock_83 : decode cX8_readsBlock 83 = .ok (.getfield 124, 3) := by decide +kernel
theorem dX8_readsBlock_86 : decode cX8_readsBlock 86 = .ok (.iconst (-1), 1) := by decide +kernel
theorem dX8_readsBlock_87 : decode cX8_readsBlock 87 = .ok (.if_icmp .ne 86, 3) := by decide +kernel
theorem dX8_readsBlock_90 : decode cX8_readsBlock 90 = .ok (.iconst 4, 1) := by decide +kernel
theorem dX8_readsBlock_91 : decode cX8_readsBlock 91 = .ok (.iload_n 2, 1) := by decide +kernel
theorem dX8_readsBlock_92 : decode cX8_readsBlock 92 = .ok (.imul, 1) := by decide +kernel
theorem dX8_readsBlock_93 : decode cX8_readsBlock 93 = .ok (.iload 5, 2) := by decide +kernel
theorem dX8_readsBlock_95 : decode cX8_readsBlock 95 = .ok (.iadd, 1) := by decide +kernel
theorem dX8_readsBlock_96 : decode cX8_readsBlock 96 = .ok (.istore 6, 2) := by decide +kernel
theorem dX8_readsBlock_98 : decode cX8_readsBlock 98 = .ok (.iload_n 3, 1) := by decide +kernel
theorem dX8_readsBlock_99 : decode cX8_readsBlock 99 = .ok (.iconst 2, 1) := by decide +kernel
theorem dX8_readsBlock_100 : decode cX8_readsBlock 100 = .ok (.iload 5, 2) := by decide +kernel
theorem dX8_readsBlock_102 : decode cX8_readsBlock 102 = .ok (.imul, 1) := by decide +kernel
theorem dX8_readsBlock_103 : decode cX8_readsBlock 103 = .ok (.ishr, 1) := by decide +kernel
theorem dX8_readsBlock_104 : decode cX8_readsBlock 104 = .ok (.iconst 3, 1) := by decide +kernel
theorem dX8_readsBlock_105 : decode cX8_readsBlock 105 = .ok (.iand, 1) := by decide +kernel
theorem dX8_readsBlock_106 : decode cX8_readsBlock 106 = .ok (.istore 7, 2) := by decide +kernel
theorem dX8_readsBlock_108 : decode cX8_readsBlock 108 = .ok (.iload 7, 2) := by decide +kernel
theorem dX8_readsBlock_110 : decode cX8_readsBlock 110 = .ok (.iconst 2, 1) := by decide +kernel
theorem dX8_readsBlock_111 : decode cX8_readsBlock 111 = .ok (.if_icmp .ge 21, 3) := by decide +kernel
theorem dX8_readsBlock_114 : decode cX8_readsBlock 114 = .ok (.aload_n 0, 1) := by decide +kernel
theorem dX8_readsBlock_115 : decode cX8_readsBlock 115 = .ok (.iload_n 1, 1) := by decide +kernel
theorem dX8_readsBlock_116 : decode cX8_readsBlock 116 = .ok (.iconst 1, 1) := by decide +kernel
theorem dX8_readsBlock_117 : decode cX8_readsBlock 117 = .ok (.isub, 1) := by decide +kernel
theorem dX8_readsBlock_118 : decode cX8_readsBlock 118 = .ok (.iload 6, 2) := by decide +kernel
theorem dX8_readsBlock_120 : decode cX8_readsBlock 120 = .ok (.sipush 255, 3) := by decide +kernel
theorem dX8_readsBlock_123 : decode cX8_readsBlock 123 = .ok (.iload 7, 2) := by decide +kernel
theorem dX8_readsBlock_125 : decode cX8_readsBlock 125 = .ok (.imul, 1) := by decide +kernel
theorem dX8_readsBlock_126 : decode cX8_readsBlock 126 = .ok (.invokevirtual 139, 3) := by decide +kernel
theorem dX8_readsBlock_129 : decode cX8_readsBlock 129 = .ok (.goto 38, 3) := by decide +kernel
theorem dX8_readsBlock_132 : decode cX8_readsBlock 132 = .ok (.iload 7, 2) := by decide +kernel
theorem dX8_readsBlock_134 : decode cX8_readsBlock 134 = .ok (.iconst 3, 1) := by decide +kernel
theorem dX8_readsBlock_135 : decode cX8_readsBlock 135 = .ok (.if_icmp .ne 17, 3) := by decide +kernel
theorem dX8_readsBlock_138 : decode cX8_readsBlock 138 = .ok (.aload_n 0, 1) := by decide +kernel
theorem dX8_readsBlock_139 : decode cX8_readsBlock 139 = .ok (.iload_n 1, 1) := by decide +kernel
theorem dX8_readsBlock_140 : decode cX8_readsBlock 140 = .ok (.iconst 1, 1) := by decide +kernel
theorem dX8_readsBlock_141 : decode cX8_readsBlock 141 = .ok (.isub, 1) := by decide +kernel
theorem dX8_readsBlock_142 : decode cX8_readsBlock 142 = .ok (.iload 4, 2) := by decide +kernel
theorem dX8_readsBlock_144 : decode cX8_readsBlock 144 = .ok (.iload 6, 2) := by decide +kernel
theorem dX8_readsBlock_146 : decode cX8_readsBlock 146 = .ok (.invokevirtual 143, 3) := by decide +kernel
theorem dX8_readsBlock_149 : decode cX8_readsBlock 149 = .ok (.goto 18, 3) := by decide +kernel
theorem dX8_readsBlock_152 : decode cX8_readsBlock 152 = .ok (.aload_n 0, 1) := by decide +kernel
theorem dX8_readsBlock_153 : decode cX8_readsBlock 153 = .ok (.iload_n 1, 1) := by decide +kernel
theorem dX8_readsBlock_154 : decode cX8_readsBlock 154 = .ok (.iconst 1, 1) := by decide +kernel
theorem dX8_readsBlock_155 : decode cX8_readsBlock 155 = .ok (.isub, 1) := by decide +kernel
theorem dX8_readsBlock_156 : decode cX8_readsBlock 156 = .ok (.iload 6, 2) := by decide +kernel
theorem dX8_readsBlock_158 : decode cX8_readsBlock 158 = .ok (.iload 4, 2) := by decide +kernel
theorem dX8_readsBlock_160 : decode cX8_readsBlock 160 = .ok (.invokevirtual 146, 3) := by decide +kernel
theorem dX8_readsBlock_163 : decode cX8_readsBlock 163 = .ok (.iload 6, 2) := by decide +kernel
theorem dX8_readsBlock_165 : decode cX8_readsBlock 165 = .ok (.istore 4, 2) := by decide +kernel
theorem dX8_readsBlock_167 : decode cX8_readsBlock 167 = .ok (.iinc 5 1, 3) := by decide +kernel
theorem dX8_readsBlock_170 : decode cX8_readsBlock 170 = .ok (.goto (-94), 3) := by decide +kernel
theorem dX8_readsBlock_173 : decode cX8_readsBlock 173 = .ok (.return_, 1) := by decide +kernel
theorem dX8_readsQuarter_0 : decode cX8_readsQuarter 0 = .ok (.aload_n 0, 1) := by decide +kernel
theorem dX8_readsQuarter_1 : decode cX8_readsQuarter 1 = .ok (.iload_n 1, 1) := by decide +kernel
theorem dX8_readsQuarter_2 : decode cX8_readsQuarter 2 = .ok (.iload_n 2, 1) := by decide +kernel
theorem dX8_readsQuarter_3 : decode cX8_readsQuarter 3 = .ok (.invokevirtual 149, 3) := by decide +kernel
theorem dX8_readsQuarter_6 : decode cX8_readsQuarter 6 = .ok (.aload_n 0, 1) := by decide +kernel
theorem dX8_readsQuarter_7 : decode cX8_readsQuarter 7 = .ok (.getfield 124, 3) := by decide +kernel
theorem dX8_readsQuarter_10 : decode cX8_readsQuarter 10 = .ok (.iconst (-1), 1) := by decide +kernel
theorem dX8_readsQuarter_11 : decode cX8_readsQuarter 11 = .ok (.if_icmp .eq 4, 3) := by decide +kernel
theorem dX8_readsQuarter_14 : decode cX8_readsQuarter 14 = .ok (.return_, 1) := by decide +kernel
theorem dX8_readsQuarter_15 : decode cX8_readsQuarter 15 = .ok (.aload_n 0, 1) := by decide +kernel
theorem dX8_readsQuarter_16 : decode cX8_readsQuarter 16 = .ok (.iload_n 1, 1) := by decide +kernel
theorem dX8_readsQuarter_17 : decode cX8_readsQuarter 17 = .ok (.iload_n 2, 1) := by decide +kernel
theorem dX8_readsQuarter_18 : decode cX8_readsQuarter 18 = .ok (.iconst 0, 1) := by decide +kernel
theorem dX8_readsQuarter_19 : decode cX8_readsQuarter 19 = .ok (.invokevirtual 104, 3) := by decide +kernel
theorem dX8_readsQuarter_22 : decode cX8_readsQuarter 22 = .ok (.ifCond .ne 30, 3) := by decide +kernel
theorem dX8_readsQuarter_25 : decode cX8_readsQuarter 25 = .ok (.aload_n 0, 1) := by decide +kernel
theorem dX8_readsQuarter_26 : decode cX8_readsQuarter 26 = .ok (.iload_n 1, 1) := by decide +kernel
theorem dX8_readsQuarter_27 : decode cX8_readsQuarter 27 = .ok (.iload_n 2, 1) := by decide +kernel
theorem dX8_readsQuarter_28 : decode cX8_readsQuarter 28 = .ok (.sipush 255, 3) := by decide +kernel
theorem dX8_readsQuarter_31 : decode cX8_readsQuarter 31 = .ok (.invokevirtual 104, 3) := by decide +kernel
theorem dX8_readsQuarter_34 : decode cX8_readsQuarter 34 = .ok (.ifCond .ne 18, 3) := by decide +kernel
theorem dX8_readsQuarter_37 : decode cX8_readsQuarter 37 = .ok (.iload_n 3, 1) := by decide +kernel
theorem dX8_readsQuarter_38 : decode cX8_readsQuarter 38 = .ok (.iconst (-1), 1) := by decide +kernel
theorem dX8_readsQuarter_39 : decode cX8_readsQuarter 39 = .ok (.if_icmp .eq 23, 3) := by decide +kernel
theorem dX8_readsQuarter_42 : decode cX8_readsQuarter 42 = .ok (.aload_n 0, 1) := by decide +kernel
theorem dX8_readsQuarter_43 : decode cX8_readsQuarter 43 = .ok (.iload_n 1, 1) := by decide +kernel
theorem dX8_readsQuarter_44 : decode cX8_readsQuarter 44 = .ok (.iload_n 2, 1) := by decide +kernel
theorem dX8_readsQuarter_45 : decode cX8_readsQuarter 45 = .ok (.iload_n 3, 1) := by decide +kernel
theorem dX8_readsQuarter_46 : decode cX8_readsQuarter 46 = .ok (.invokevirtual 107, 3) := by decide +kernel
theorem dX8_readsQuarter_49 : decode cX8_readsQuarter 49 = .ok (.ifCond .eq 13, 3) := by decide +kernel
theorem dX8_readsQuarter_52 : decode cX8_readsQuarter 52 = .ok (.aload_n 0, 1) := by decide +kernel
theorem dX8_readsQuarter_53 : decode cX8_readsQuarter 53 = .ok (.aload_n 0, 1) := by decide +kernel
theorem dX8_readsQuarter_54 : decode cX8_readsQuarter 54 = .ok (.getfield 127, 3) := by decide +kernel
theorem dX8_readsQuarter_57 : decode cX8_readsQuarter 57 = .ok (.iconst 1, 1) := by decide +kernel
theorem dX8_readsQuarter_58 : decode cX8_readsQuarter 58 = .ok (.isub, 1) := by decide +kernel
theorem dX8_readsQuarter_59 : decode cX8_readsQuarter 59 = .ok (.invokevirtual 133, 3) := by decide +kernel
theorem dX8_readsQuarter_62 : decode cX8_readsQuarter 62 = .ok (.return_, 1) := by decide +kernel
theorem dX8_readsTree_0 : decode cX8_readsTree 0 = .ok (.aload_n 0, 1) := by decide +kernel
theorem dX8_readsTree_1 : decode cX8_readsTree 1 = .ok (.iconst 0, 1) := by decide +kernel
theorem dX8_readsTree_2 : decode cX8_readsTree 2 = .ok (.putfield 127, 3) := by decide +kernel
theorem dX8_readsTree_5 : decode cX8_readsTree 5 = .ok (.aload_n 0, 1) := by decide +kernel
theorem dX8_readsTree_6 : decode cX8_readsTree 6 = .ok (.iconst (-1), 1) := by decide +kernel
theorem dX8_readsTree_7 : decode cX8_readsTree 7 = .ok (.putfield 124, 3) := by decide +kernel
theorem dX8_readsTree_10 : decode cX8_readsTree 10 = .ok (.aload_n 0, 1) := by decide +kernel
theorem dX8_readsTree_11 : decode cX8_readsTree 11 = .ok (.aload_n 0, 1) := by decide +kernel
theorem dX8_readsTree_12 : decode cX8_readsTree 12 = .ok (.getfield 83, 3) := by decide +kernel
theorem dX8_readsTree_15 : decode cX8_readsTree 15 = .ok (.iconst 0, 1) := by decide +kernel
theorem dX8_readsTree_16 : decode cX8_readsTree 16 = .ok (.invokevirtual 149, 3) := by decide +kernel
theorem dX8_readsTree_19 : decode cX8_readsTree 19 = .ok (.aload_n 0, 1) := by decide +kernel
theorem dX8_readsTree_20 : decode cX8_readsTree 20 = .ok (.getfield 127, 3) := by decide +kernel
theorem dX8_readsTree_23 : decode cX8_readsTree 23 = .ok (.aload_n 0, 1) := by decide +kernel
theorem dX8_readsTree_24 : decode cX8_readsTree 24 = .ok (.getfield 130, 3) := by decide +kernel
theorem dX8_readsTree_27 : decode cX8_readsTree 27 = .ok (.if_icmp .ge 11, 3) := by decide +kernel
theorem dX8_readsTree_30 : decode cX8_readsTree 30 = .ok (.aload_n 0, 1) := by decide +kernel
theorem dX8_readsTree_31 : decode cX8_readsTree 31 = .ok (.aload_n 0, 1) := by decide +kernel
theorem dX8_readsTree_32 : decode cX8_readsTree 32 = .ok (.getfield 127, 3) := by decide +kernel
theorem dX8_readsTree_35 : decode cX8_readsTree 35 = .ok (.invokevirtual 133, 3) := by decide +kernel
theorem dX8_readsTree_38 : decode cX8_readsTree 38 = .ok (.aload_n 0, 1) := by decide +kernel
theorem dX8_readsTree_39 : decode cX8_readsTree 39 = .ok (.getfield 124, 3) := by decide +kernel
theorem dX8_readsTree_42 : decode cX8_readsTree 42 = .ok (.ireturn, 1) := by decide +kernel
theorem dX8_append_0 : decode cX8_append 0 = .ok (.aload_n 0, 1) := by decide +kernel
theorem dX8_append_1 : decode cX8_append 1 = .ok (.iconst 0, 1) := by decide +kernel
theorem dX8_append_2 : decode cX8_append 2 = .ok (.putfield 57, 3) := by decide +kernel
theorem dX8_append_5 : decode cX8_append 5 = .ok (.aload_n 0, 1) := by decide +kernel
theorem dX8_append_6 : decode cX8_append 6 = .ok (.getfield 152, 3) := by decide +kernel
theorem dX8_append_9 : decode cX8_append 9 = .ok (.bipush 20, 2) := by decide +kernel
theorem dX8_append_11 : decode cX8_append 11 = .ok (.iadd, 1) := by decide +kernel
theorem dX8_append_12 : decode cX8_append 12 = .ok (.sipush 700, 3) := by decide +kernel
theorem dX8_append_15 : decode cX8_append 15 = .ok (.if_icmp .le 5, 3) := by decide +kernel
theorem dX8_append_18 : decode cX8_append 18 = .ok (.iconst (-1), 1) := by decide +kernel
theorem dX8_append_19 : decode cX8_append 19 = .ok (.ireturn, 1) := by decide +kernel
theorem dX8_append_20 : decode cX8_append 20 = .ok (.iconst 0, 1) := by decide +kernel
theorem dX8_append_21 : decode cX8_append 21 = .ok (.istore 6, 2) := by decide +kernel
theorem dX8_append_23 : decode cX8_append 23 = .ok (.iload 6, 2) := by decide +kernel
theorem dX8_append_25 : decode cX8_append 25 = .ok (.bipush 20, 2) := by decide +kernel
theorem dX8_append_27 : decode cX8_append 27 = .ok (.if_icmp .ge 86, 3) := by decide +kernel
theorem dX8_append_30 : decode cX8_append 30 = .ok (.iload 6, 2) := by decide +kernel
theorem dX8_append_32 : decode cX8_append 32 = .ok (.iconst 4, 1) := by decide +kernel
theorem dX8_append_33 : decode cX8_append 33 = .ok (.if_icmp .ge 7, 3) := by decide +kernel
theorem dX8_append_36 : decode cX8_append 36 = .ok (.iload_n 1, 1) := by decide +kernel
theorem dX8_append_37 : decode cX8_append 37 = .ok (.goto 39, 3) := by decide +kernel
theorem dX8_append_40 : decode cX8_append 40 = .ok (.iload 6, 2) := by decide +kernel
theorem dX8_append_42 : decode cX8_append 42 = .ok (.bipush 8, 2) := by decide +kernel
theorem dX8_append_44 : decode cX8_append 44 = .ok (.if_icmp .ge 7, 3) := by decide +kernel
theorem dX8_append_47 : decode cX8_append 47 = .ok (.iload_n 2, 1) := by decide +kernel
theorem dX8_append_48 : decode cX8_append 48 = .ok (.goto 28, 3) := by decide +kernel
theorem dX8_append_51 : decode cX8_append 51 = .ok (.iload 6, 2) := by decide +kernel
theorem dX8_append_53 : decode cX8_append 53 = .ok (.bipush 12, 2) := by decide +kernel
theorem dX8_append_55 : decode cX8_append 55 = .ok (.if_icmp .ge 7, 3) := by decide +kernel
theorem dX8_append_58 : decode cX8_append 58 = .ok (.iload_n 3, 1) := by decide +kernel
theorem dX8_append_59 : decode cX8_append 59 = .ok (.goto 17, 3) := by decide +kernel
theorem dX8_append_62 : decode cX8_append 62 = .ok (.iload 6, 2) := by decide +kernel
theorem dX8_append_64 : decode cX8_append 64 = .ok (.bipush 16, 2) := by decide +kernel
theorem dX8_append_66 : decode cX8_append 66 = .ok (.if_icmp .ge 8, 3) := by decide +kernel
theorem dX8_append_69 : decode cX8_append 69 = .ok (.iload 4, 2) := by decide +kernel
theorem dX8_append_71 : decode cX8_append 71 = .ok (.goto 5, 3) := by decide +kernel
theorem dX8_append_74 : decode cX8_append 74 = .ok (.iload 5, 2) := by decide +kernel
theorem dX8_append_76 : decode cX8_append 76 = .ok (.istore 7, 2) := by decide +kernel
theorem dX8_append_78 : decode cX8_append 78 = .ok (.aload_n 0, 1) := by decide +kernel
theorem dX8_append_79 : decode cX8_append 79 = .ok (.getfield 41, 3) := by decide +kernel
theorem dX8_append_82 : decode cX8_append 82 = .ok (.aload_n 0, 1) := by decide +kernel
theorem dX8_append_83 : decode cX8_append 83 = .ok (.getfield 152, 3) := by decide +kernel
theorem dX8_append_86 : decode cX8_append 86 = .ok (.iload 6, 2) := by decide +kernel
theorem dX8_append_88 : decode cX8_append 88 = .ok (.iadd, 1) := by decide +kernel
theorem dX8_append_89 : decode cX8_append 89 = .ok (.iload 7, 2) := by decide +kernel
theorem dX8_append_91 : decode cX8_append 91 = .ok (.bipush 24, 2) := by decide +kernel
theorem dX8_append_93 : decode cX8_append 93 = .ok (.bipush 8, 2) := by decide +kernel
theorem dX8_append_95 : decode cX8_append 95 = .ok (.iload 6, 2) := by decide +kernel
theorem dX8_append_97 : decode cX8_append 97 = .ok (.iconst 4, 1) := by decide +kernel
theorem dX8_append_98 : decode cX8_append 98 = .ok (.irem, 1) := by decide +kernel
theorem dX8_append_99 : decode cX8_append 99 = .ok (.imul, 1) := by decide +kernel
theorem dX8_append_100 : decode cX8_append 100 = .ok (.isub, 1) := by decide +kernel
theorem dX8_append_101 : decode cX8_append 101 = .ok (.ishr, 1) := by decide +kernel
theorem dX8_append_102 : decode cX8_append 102 = .ok (.sipush 255, 3) := by decide +kernel
theorem dX8_append_105 : decode cX8_append 105 = .ok (.iand, 1) := by decide +kernel
theorem dX8_append_106 : decode cX8_append 106 = .ok (.iastore, 1) := by decide +kernel
theorem dX8_append_107 : decode cX8_append 107 = .ok (.iinc 6 1, 3) := by decide +kernel
theorem dX8_append_110 : decode cX8_append 110 = .ok (.goto (-87), 3) := by decide +kernel
theorem dX8_append_113 : decode cX8_append 113 = .ok (.aload_n 0, 1) := by decide +kernel
theorem dX8_append_114 : decode cX8_append 114 = .ok (.dup, 1) := by decide +kernel
theorem dX8_append_115 : decode cX8_append 115 = .ok (.getfield 152, 3) := by decide +kernel
theorem dX8_append_118 : decode cX8_append 118 = .ok (.bipush 20, 2) := by decide +kernel
theorem dX8_append_120 : decode cX8_append 120 = .ok (.iadd, 1) := by decide +kernel
theorem dX8_append_121 : decode cX8_append 121 = .ok (.putfield 152, 3) := by decide +kernel
theorem dX8_append_124 : decode cX8_append 124 = .ok (.aload_n 0, 1) := by decide +kernel
theorem dX8_append_125 : decode cX8_append 125 = .ok (.getfield 152, 3) := by decide +kernel
theorem dX8_append_128 : decode cX8_append 128 = .ok (.ireturn, 1) := by decide +kernel
theorem dX8_buffered_0 : decode cX8_buffered 0 = .ok (.aload_n 0, 1) := by decide +kernel
theorem dX8_buffered_1 : decode cX8_buffered 1 = .ok (.iconst 0, 1) := by decide +kernel
theorem dX8_buffered_2 : decode cX8_buffered 2 = .ok (.putfield 57, 3) := by decide +kernel
theorem dX8_buffered_5 : decode cX8_buffered 5 = .ok (.aload_n 0, 1) := by decide +kernel
theorem dX8_buffered_6 : decode cX8_buffered 6 = .ok (.getfield 152, 3) := by decide +kernel
theorem dX8_buffered_9 : decode cX8_buffered 9 = .ok (.ireturn, 1) := by decide +kernel
theorem dX8_parseError_0 : decode cX8_parseError 0 = .ok (.aload_n 0, 1) := by decide +kernel
theorem dX8_parseError_1 : decode cX8_parseError 1 = .ok (.iconst 0, 1) := by decide +kernel
theorem dX8_parseError_2 : decode cX8_parseError 2 = .ok (.putfield 57, 3) := by decide +kernel
theorem dX8_parseError_5 : decode cX8_parseError 5 = .ok (.aload_n 0, 1) := by decide +kernel
theorem dX8_parseError_6 : decode cX8_parseError 6 = .ok (.getfield 155, 3) := by decide +kernel
theorem dX8_parseError_9 : decode cX8_parseError 9 = .ok (.ireturn, 1) := by decide +kernel
theorem dX8_errorPosition_0 : decode cX8_errorPosition 0 = .ok (.aload_n 0, 1) := by decide +kernel
theorem dX8_errorPosition_1 : decode cX8_errorPosition 1 = .ok (.iconst 0, 1) := by decide +kernel
theorem dX8_errorPosition_2 : decode cX8_errorPosition 2 = .ok (.putfield 57, 3) := by decide +kernel
theorem dX8_errorPosition_5 : decode cX8_errorPosition 5 = .ok (.aload_n 0, 1) := by decide +kernel
theorem dX8_errorPosition_6 : decode cX8_errorPosition 6 = .ok (.getfield 44, 3) := by decide +kernel
theorem dX8_errorPosition_9 : decode cX8_errorPosition 9 = .ok (.ireturn, 1) := by decide +kernel
theorem dX8_seen_0 : decode cX8_seen 0 = .ok (.iload_n 1, 1) := by decide +kernel
theorem dX8_seen_1 : decode cX8_seen 1 = .ok (.aload_n 0, 1) := by decide +kernel
theorem dX8_seen_2 : decode cX8_seen 2 = .ok (.getfield 158, 3) := by decide +kernel
theorem dX8_seen_5 : decode cX8_seen 5 = .ok (.if_icmp .ge 12, 3) := by decide +kernel
theorem dX8_seen_8 : decode cX8_seen 8 = .ok (.aload_n 0, 1) := by decide +kernel
theorem dX8_seen_9 : decode cX8_seen 9 = .ok (.getfield 41, 3) := by decide +kernel
theorem dX8_seen_12 : decode cX8_seen 12 = .ok (.iload_n 1, 1) := by decide +kernel
theorem dX8_seen_13 : decode cX8_seen 13 = .ok (.iaload, 1) := by decide +kernel
theorem dX8_seen_14 : decode cX8_seen 14 = .ok (.goto 4, 3) := by decide +kernel
theorem dX8_seen_17 : decode cX8_seen 17 = .ok (.iconst (-1), 1) := by decide +kernel
theorem dX8_seen_18 : decode cX8_seen 18 = .ok (.ireturn, 1) := by decide +kernel
theorem dX8_isLetter_0 : decode cX8_isLetter 0 = .ok (.iload_n 0, 1) := by decide +kernel
theorem dX8_isLetter_1 : decode cX8_isLetter 1 = .ok (.bipush 97, 2) := by decide +kernel
theorem dX8_isLetter_3 : decode cX8_isLetter 3 = .ok (.if_icmp .lt 13, 3) := by decide +kernel
theorem dX8_isLetter_6 : decode cX8_isLetter 6 = .ok (.iload_n 0, 1) := by decide +kernel
theorem dX8_isLetter_7 : decode cX8_isLetter 7 = .ok (.bipush 122, 2) := by decide +kernel
theorem dX8_isLetter_9 : decode cX8_isLetter 9 = .ok (.if_icmp .gt 7, 3) := by decide +kernel
theorem dX8_isLetter_12 : decode cX8_isLetter 12 = .ok (.iconst 1, 1) := by decide +kernel
theorem dX8_isLetter_13 : decode cX8_isLetter 13 = .ok (.goto 4, 3) := by decide +kernel
theorem dX8_isLetter_16 : decode cX8_isLetter 16 = .ok (.iconst 0, 1) := by decide +kernel
theorem dX8_isLetter_17 : decode cX8_isLetter 17 = .ok (.ireturn, 1) := by decide +kernel
theorem dX8_isDigit_0 : decode cX8_isDigit 0 = .ok (.iload_n 0, 1) := by decide +kernel
theorem dX8_isDigit_1 : decode cX8_isDigit 1 = .ok (.bipush 48, 2) := by decide +kernel
theorem dX8_isDigit_3 : decode cX8_isDigit 3 = .ok (.if_icmp .lt 13, 3) := by decide +kernel
theorem dX8_isDigit_6 : decode cX8_isDigit 6 = .ok (.iload_n 0, 1) := by decide +kernel
theorem dX8_isDigit_7 : decode cX8_isDigit 7 = .ok (.bipush 57, 2) := by decide +kernel
theorem dX8_isDigit_9 : decode cX8_isDigit 9 = .ok (.if_icmp .gt 7, 3) := by decide +kernel
theorem dX8_isDigit_12 : decode cX8_isDigit 12 = .ok (.iconst 1, 1) := by decide +kernel
theorem dX8_isDigit_13 : decode cX8_isDigit 13 = .ok (.goto 4, 3) := by decide +kernel
theorem dX8_isDigit_16 : decode cX8_isDigit 16 = .ok (.iconst 0, 1) := by decide +kernel
theorem dX8_isDigit_17 : decode cX8_isDigit 17 = .ok (.ireturn, 1) := by decide +kernel
theorem dX8_token_0 : decode cX8_token 0 = .ok (.aload_n 0, 1) := by decide +kernel
theorem dX8_token_1 : decode cX8_token 1 = .ok (.aload_n 0, 1) := by decide +kernel
theorem dX8_token_2 : decode cX8_token 2 = .ok (.getfield 161, 3) := by decide +kernel
theorem dX8_token_5 : decode cX8_token 5 = .ok (.invokevirtual 164, 3) := by decide +kernel
theorem dX8_token_8 : decode cX8_token 8 = .ok (.bipush 32, 2) := by decide +kernel
theorem dX8_token_10 : decode cX8_token 10 = .ok (.if_icmp .ne 16, 3) := by decide +kernel
theorem dX8_token_13 : decode cX8_token 13 = .ok (.aload_n 0, 1) := by decide +kernel
theorem dX8_token_14 : decode cX8_token 14 = .ok (.dup, 1) := by decide +kernel
theorem dX8_token_15 : decode cX8_token 15 = .ok (.getfield 161, 3) := by decide +kernel
theorem dX8_token_18 : decode cX8_token 18 = .ok (.iconst 1, 1) := by decide +kernel
theorem dX8_token_19 : decode cX8_token 19 = .ok (.iadd, 1) := by decide +kernel
theorem dX8_token_20 : decode cX8_token 20 = .ok (.putfield 161, 3) := by decide +kernel
theorem dX8_token_23 : decode cX8_token 23 = .ok (.goto (-23), 3) := by decide +kernel
theorem dX8_token_26 : decode cX8_token 26 = .ok (.aload_n 0, 1) := by decide +kernel
theorem dX8_token_27 : decode cX8_token 27 = .ok (.aload_n 0, 1) := by decide +kernel
theorem dX8_token_28 : decode cX8_token 28 = .ok (.getfield 161, 3) := by decide +kernel
theorem dX8_token_31 : decode cX8_token 31 = .ok (.putfield 167, 3) := by decide +kernel
theorem dX8_token_34 : decode cX8_token 34 = .ok (.aload_n 0, 1) := by decide +kernel
theorem dX8_token_35 : decode cX8_token 35 = .ok (.aload_n 0, 1) := by decide +kernel
theorem dX8_token_36 : decode cX8_token 36 = .ok (.getfield 161, 3) := by decide +kernel
theorem dX8_token_39 : decode cX8_token 39 = .ok (.invokevirtual 164, 3) := by decide +kernel
theorem dX8_token_42 : decode cX8_token 42 = .ok (.istore_n 1, 1) := by decide +kernel
theorem dX8_token_43 : decode cX8_token 43 = .ok (.iload_n 1, 1) := by decide +kernel
theorem dX8_token_44 : decode cX8_token 44 = .ok (.iconst (-1), 1) := by decide +kernel
theorem dX8_token_45 : decode cX8_token 45 = .ok (.if_icmp .ne 11, 3) := by decide +kernel
theorem dX8_token_48 : decode cX8_token 48 = .ok (.aload_n 0, 1) := by decide +kernel
theorem dX8_token_49 : decode cX8_token 49 = .ok (.iconst 0, 1) := by decide +kernel
theorem dX8_token_50 : decode cX8_token 50 = .ok (.putfield 170, 3) := by decide +kernel
theorem dX8_token_53 : decode cX8_token 53 = .ok (.goto 192, 3) := by decide +kernel
theorem dX8_token_56 : decode cX8_token 56 = .ok (.iload_n 1, 1) := by decide +kernel
theorem dX8_token_57 : decode cX8_token 57 = .ok (.invokestatic 173, 3) := by decide +kernel
theorem dX8_token_60 : decode cX8_token 60 = .ok (.ifCond .eq 56, 3) := by decide +kernel
theorem dX8_token_63 : decode cX8_token 63 = .ok (.aload_n 0, 1) := by decide +kernel
theorem dX8_token_64 : decode cX8_token 64 = .ok (.aload_n 0, 1) := by decide +kernel
theorem dX8_token_65 : decode cX8_token 65 = .ok (.getfield 161, 3) := by decide +kernel
theorem dX8_token_68 : decode cX8_token 68 = .ok (.invokevirtual 164, 3) := by decide +kernel
theorem dX8_token_71 : decode cX8_token 71 = .ok (.invokestatic 173, 3) := by decide +kernel
theorem dX8_token_74 : decode cX8_token 74 = .ok (.ifCond .eq 16, 3) := by decide +kernel
theorem dX8_token_77 : decode cX8_token 77 = .ok (.aload_n 0, 1) := by decide +kernel
theorem dX8_token_78 : decode cX8_token 78 = .ok (.dup, 1) := by decide +kernel
theorem dX8_token_79 : decode cX8_token 79 = .ok (.getfield 161, 3) := by decide +kernel
theorem dX8_token_82 : decode cX8_token 82 = .ok (.iconst 1, 1) := by decide +kernel
theorem dX8_token_83 : decode cX8_token 83 = .ok (.iadd, 1) := by decide +kernel
theorem dX8_token_84 : decode cX8_token 84 = .ok (.putfield 161, 3) := by decide +kernel
theorem dX8_token_87 : decode cX8_token 87 = .ok (.goto (-24), 3) := by decide +kernel
theorem dX8_token_90 : decode cX8_token 90 = .ok (.aload_n 0, 1) := by decide +kernel
theorem dX8_token_91 : decode cX8_token 91 = .ok (.aload_n 0, 1) := by decide +kernel
theorem dX8_token_92 : decode cX8_token 92 = .ok (.getfield 161, 3) := by decide +kernel
theorem dX8_token_95 : decode cX8_token 95 = .ok (.aload_n 0, 1) := by decide +kernel
theorem dX8_token_96 : decode cX8_token 96 = .ok (.getfield 167, 3) := by decide +kernel
theorem dX8_token_99 : decode cX8_token 99 = .ok (.isub, 1) := by decide +kernel
theorem dX8_token_100 : decode cX8_token 100 = .ok (.bipush 6, 2) := by decide +kernel
theorem dX8_token_102 : decode cX8_token 102 = .ok (.if_icmp .le 7, 3) := by decide +kernel
theorem dX8_token_105 : decode cX8_token 105 = .ok (.iconst 4, 1) := by decide +kernel
theorem dX8_token_106 : decode cX8_token 106 = .ok (.goto 4, 3) := by decide +kernel
theorem dX8_token_109 : decode cX8_token 109 = .ok (.iconst 1, 1) := by decide +kernel
theorem dX8_token_110 : decode cX8_token 110 = .ok (.putfield 170, 3) := by decide +kernel
theorem dX8_token_113 : decode cX8_token 113 = .ok (.goto 132, 3) := by decide +kernel
theorem dX8_token_116 : decode cX8_token 116 = .ok (.iload_n 1, 1) := by decide +kernel
theorem dX8_token_117 : decode cX8_token 117 = .ok (.invokestatic 176, 3) := by decide +kernel
theorem dX8_token_120 : decode cX8_token 120 = .ok (.ifCond .eq 100, 3) := by decide +kernel
theorem dX8_token_123 : decode cX8_token 123 = .ok (.aload_n 0, 1) := by decide +kernel
theorem dX8_token_124 : decode cX8_token 124 = .ok (.iconst 0, 1) := by decide +kernel
theorem dX8_token_125 : decode cX8_token 125 = .ok (.putfield 179, 3) := by decide +kernel
theorem dX8_token_128 : decode cX8_token 128 = .ok (.aload_n 0, 1) := by decide +kernel
theorem dX8_token_129 : decode cX8_token 129 = .ok (.aload_n 0, 1) := by decide +kernel
theorem dX8_token_130 : decode cX8_token 130 = .ok (.getfield 161, 3) := by decide +kernel
theorem dX8_token_133 : decode cX8_token 133 = .ok (.invokevirtual 164, 3) := by decide +kernel
theorem dX8_token_136 : decode cX8_token 136 = .ok (.invokestatic 176, 3) := by decide +kernel
theorem dX8_token_139 : decode cX8_token 139 = .ok (.ifCond .eq 56, 3) := by decide +kernel
theorem dX8_token_142 : decode cX8_token 142 = .ok (.aload_n 0, 1) := by decide +kernel
theorem dX8_token_143 : decode cX8_token 143 = .ok (.aload_n 0, 1) := by decide +kernel
theorem dX8_token_144 : decode cX8_token 144 = .ok (.getfield 161, 3) := by decide +kernel
theorem dX8_token_147 : decode cX8_token 147 = .ok (.aload_n 0, 1) := by decide +kernel
theorem dX8_token_148 : decode cX8_token 148 = .ok (.getfield 167, 3) := by decide +kernel
theorem dX8_token_151 : decode cX8_token 151 = .ok (.isub, 1) := by decide +kernel
theorem dX8_token_152 : decode cX8_token 152 = .ok (.iconst 4, 1) := by decide +kernel
theorem dX8_token_153 : decode cX8_token 153 = .ok (.if_icmp .ge 25, 3) := by decide +kernel
theorem dX8_token_156 : decode cX8_token 156 = .ok (.bipush 10, 2) := by decide +kernel
theorem dX8_token_158 : decode cX8_token 158 = .ok (.aload_n 0, 1) := by decide +kernel
theorem dX8_token_159 : decode cX8_token 159 = .ok (.getfield 179, 3) := by decide +kernel
theorem dX8_token_162 : decode cX8_token 162 = .ok (.imul, 1) := by decide +kernel
theorem dX8_token_163 : decode cX8_token 163 = .ok (.aload_n 0, 1) := by decide +kernel
theorem dX8_token_164 : decode cX8_token 164 = .ok (.aload_n 0, 1) := by decide +kernel
theorem dX8_token_165 : decode cX8_token 165 = .ok (.getfield 161, 3) := by decide +kernel
theorem dX8_token_168 : decode cX8_token 168 = .ok (.invokevirtual 164, 3) := by decide +kernel
theorem dX8_token_171 : decode cX8_token 171 = .ok (.iadd, 1) := by decide +kernel
theorem dX8_token_172 : decode cX8_token 172 = .ok (.bipush 48, 2) := by decide +kernel
theorem dX8_token_174 : decode cX8_token 174 = .ok (.isub, 1) := by decide +kernel
theorem dX8_token_175 : decode cX8_token 175 = .ok (.goto 4, 3) := by decide +kernel
theorem dX8_token_178 : decode cX8_token 178 = .ok (.iconst 0, 1) := by decide +kernel
theorem dX8_token_179 : decode cX8_token 179 = .ok (.putfield 179, 3) := by decide +kernel
theorem dX8_token_182 : decode cX8_token 182 = .ok (.aload_n 0, 1) := by decide +kernel
theorem dX8_token_183 : decode cX8_token 183 = .ok (.dup, 1) := by decide +kernel
theorem dX8_token_184 : decode cX8_token 184 = .ok (.getfield 161, 3) := by decide +kernel
theorem dX8_token_187 : decode cX8_token 187 = .ok (.iconst 1, 1) := by decide +kernel
theorem dX8_token_188 : decode cX8_token 188 = .ok (.iadd, 1) := by decide +kernel
theorem dX8_token_189 : decode cX8_token 189 = .ok (.putfield 161, 3) := by decide +kernel
theorem dX8_token_192 : decode cX8_token 192 = .ok (.goto (-64), 3) := by decide +kernel
theorem dX8_token_195 : decode cX8_token 195 = .ok (.aload_n 0, 1) := by decide +kernel
theorem dX8_token_196 : decode cX8_token 196 = .ok (.aload_n 0, 1) := by decide +kernel
theorem dX8_token_197 : decode cX8_token 197 = .ok (.getfield 161, 3) := by decide +kernel
theorem dX8_token_200 : decode cX8_token 200 = .ok (.aload_n 0, 1) := by decide +kernel
theorem dX8_token_201 : decode cX8_token 201 = .ok (.getfield 167, 3) := by decide +kernel
theorem dX8_token_204 : decode cX8_token 204 = .ok (.isub, 1) := by decide +kernel
theorem dX8_token_205 : decode cX8_token 205 = .ok (.iconst 4, 1) := by decide +kernel
theorem dX8_token_206 : decode cX8_token 206 = .ok (.if_icmp .le 7, 3) := by decide +kernel
theorem dX8_token_209 : decode cX8_token 209 = .ok (.iconst 4, 1) := by decide +kernel
theorem dX8_token_210 : decode cX8_token 210 = .ok (.goto 4, 3) := by decide +kernel
theorem dX8_token_213 : decode cX8_token 213 = .ok (.iconst 2, 1) := by decide +kernel
theorem dX8_token_214 : decode cX8_token 214 = .ok (.putfield 170, 3) := by decide +kernel
theorem dX8_token_217 : decode cX8_token 217 = .ok (.goto 28, 3) := by decide +kernel
theorem dX8_token_220 : decode cX8_token 220 = .ok (.aload_n 0, 1) := by decide +kernel
theorem dX8_token_221 : decode cX8_token 221 = .ok (.iload_n 1, 1) := by decide +kernel
theorem dX8_token_222 : decode cX8_token 222 = .ok (.bipush 59, 2) := by decide +kernel
theorem dX8_token_224 : decode cX8_token 224 = .ok (.if_icmp .ne 7, 3) := by decide +kernel
theorem dX8_token_227 : decode cX8_token 227 = .ok (.iconst 3, 1) := by decide +kernel
theorem dX8_token_228 : decode cX8_token 228 = .ok (.goto 4, 3) := by decide +kernel
theorem dX8_token_231 : decode cX8_token 231 = .ok (.iconst 4, 1) := by decide +kernel
theorem dX8_token_232 : decode cX8_token 232 = .ok (.putfield 170, 3) := by decide +kernel
theorem dX8_token_235 : decode cX8_token 235 = .ok (.aload_n 0, 1) := by decide +kernel
theorem dX8_token_236 : decode cX8_token 236 = .ok (.dup, 1) := by decide +kernel
theorem dX8_token_237 : decode cX8_token 237 = .ok (.getfield 161, 3) := by decide +kernel
theorem dX8_token_240 : decode cX8_token 240 = .ok (.iconst 1, 1) := by decide +kernel
theorem dX8_token_241 : decode cX8_token 241 = .ok (.iadd, 1) := by decide +kernel
theorem dX8_token_242 : decode cX8_token 242 = .ok (.putfield 161, 3) := by decide +kernel
theorem dX8_token_245 : decode cX8_token 245 = .ok (.return_, 1) := by decide +kernel
theorem dX8_fails_0 : decode cX8_fails 0 = .ok (.aload_n 0, 1) := by decide +kernel
theorem dX8_fails_1 : decode cX8_fails 1 = .ok (.getfield 182, 3) := by decide +kernel
theorem dX8_fails_4 : decode cX8_fails 4 = .ok (.ifCond .ne 16, 3) := by decide +kernel
theorem dX8_fails_7 : decode cX8_fails 7 = .ok (.aload_n 0, 1) := by decide +kernel
theorem dX8_fails_8 : decode cX8_fails 8 = .ok (.iload_n 1, 1) := by decide +kernel
theorem dX8_fails_9 : decode cX8_fails 9 = .ok (.putfield 182, 3) := by decide +kernel
theorem dX8_fails_12 : decode cX8_fails 12 = .ok (.aload_n 0, 1) := by decide +kernel
theorem dX8_fails_13 : decode cX8_fails 13 = .ok (.aload_n 0, 1) := by decide +kernel
theorem dX8_fails_14 : decode cX8_fails 14 = .ok (.getfield 167, 3) := by decide +kernel
theorem dX8_fails_17 : decode cX8_fails 17 = .ok (.putfield 185, 3) := by decide +kernel
theorem dX8_fails_20 : decode cX8_fails 20 = .ok (.return_, 1) := by decide +kernel
theorem dX8_failsIf_0 : decode cX8_failsIf 0 = .ok (.iload_n 1, 1) := by decide +kernel
theorem dX8_failsIf_1 : decode cX8_failsIf 1 = .ok (.ifCond .eq 8, 3) := by decide +kernel
theorem dX8_failsIf_4 : decode cX8_failsIf 4 = .ok (.aload_n 0, 1) := by decide +kernel
theorem dX8_failsIf_5 : decode cX8_failsIf 5 = .ok (.iload_n 2, 1) := by decide +kernel
theorem dX8_failsIf_6 : decode cX8_failsIf 6 = .ok (.invokevirtual 188, 3) := by decide +kernel
theorem dX8_failsIf_9 : decode cX8_failsIf 9 = .ok (.return_, 1) := by decide +kernel
theorem dX8_goesOn_0 : decode cX8_goesOn 0 = .ok (.aload_n 0, 1) := by decide +kernel
theorem dX8_goesOn_1 : decode cX8_goesOn 1 = .ok (.getfield 182, 3) := by decide +kernel
theorem dX8_goesOn_4 : decode cX8_goesOn 4 = .ok (.ifCond .ne 7, 3) := by decide +kernel
theorem dX8_goesOn_7 : decode cX8_goesOn 7 = .ok (.aload_n 0, 1) := by decide +kernel
theorem dX8_goesOn_8 : decode cX8_goesOn 8 = .ok (.invokevirtual 191, 3) := by decide +kernel
theorem dX8_goesOn_11 : decode cX8_goesOn 11 = .ok (.return_, 1) := by decide +kernel
theorem dX8_isWord_0 : decode cX8_isWord 0 = .ok (.aload_n 0, 1) := by decide +kernel
theorem dX8_isWord_1 : decode cX8_isWord 1 = .ok (.getfield 182, 3) := by decide +kernel
theorem dX8_isWord_4 : decode cX8_isWord 4 = .ok (.ifCond .ne 27, 3) := by decide +kernel
theorem dX8_isWord_7 : decode cX8_isWord 7 = .ok (.aload_n 0, 1) := by decide +kernel
theorem dX8_isWord_8 : decode cX8_isWord 8 = .ok (.getfield 170, 3) := by decide +kernel
theorem dX8_isWord_11 : decode cX8_isWord 11 = .ok (.iconst 1, 1) := by decide +kernel
theorem dX8_isWord_12 : decode cX8_isWord 12 = .ok (.if_icmp .ne 19, 3) := by decide +kernel
theorem dX8_isWord_15 : decode cX8_isWord 15 = .ok (.aload_n 0, 1) := by decide +kernel
theorem dX8_isWord_16 : decode cX8_isWord 16 = .ok (.getfield 161, 3) := by decide +kernel
theorem dX8_isWord_19 : decode cX8_isWord 19 = .ok (.aload_n 0, 1) := by decide +kernel
theorem dX8_isWord_20 : decode cX8_isWord 20 = .ok (.getfield 167, 3) := by decide +kernel
theorem dX8_isWord_23 : decode cX8_isWord 23 = .ok (.isub, 1) := by decide +kernel
theorem dX8_isWord_24 : decode cX8_isWord 24 = .ok (.aload_n 1, 1) := by decide +kernel
theorem dX8_isWord_25 : decode cX8_isWord 25 = .ok (.invokevirtual 194, 3) := by decide +kernel
theorem dX8_isWord_28 : decode cX8_isWord 28 = .ok (.if_icmp .eq 5, 3) := by decide +kernel
theorem dX8_isWord_31 : decode cX8_isWord 31 = .ok (.iconst 0, 1) := by decide +kernel
theorem dX8_isWord_32 : decode cX8_isWord 32 = .ok (.ireturn, 1) := by decide +kernel
theorem dX8_isWord_33 : decode cX8_isWord 33 = .ok (.iconst 0, 1) := by decide +kernel
theorem dX8_isWord_34 : decode cX8_isWord 34 = .ok (.istore_n 2, 1) := by decide +kernel
theorem dX8_isWord_35 : decode cX8_isWord 35 = .ok (.iload_n 2, 1) := by decide +kernel
theorem dX8_isWord_36 : decode cX8_isWord 36 = .ok (.aload_n 1, 1) := by decide +kernel
theorem dX8_isWord_37 : decode cX8_isWord 37 = .ok (.invokevirtual 194, 3) := by decide +kernel
theorem dX8_isWord_40 : decode cX8_isWord 40 = .ok (.if_icmp .ge 29, 3) := by decide +kernel
theorem dX8_isWord_43 : decode cX8_isWord 43 = .ok (.aload_n 0, 1) := by decide +kernel
theorem dX8_isWord_44 : decode cX8_isWord 44 = .ok (.aload_n 0, 1) := by decide +kernel
theorem dX8_isWord_45 : decode cX8_isWord 45 = .ok (.getfield 167, 3) := by decide +kernel
theorem dX8_isWord_48 : decode cX8_isWord 48 = .ok (.iload_n 2, 1) := by decide +kernel
theorem dX8_isWord_49 : decode cX8_isWord 49 = .ok (.iadd, 1) := by decide +kernel
theorem dX8_isWord_50 : decode cX8_isWord 50 = .ok (.invokevirtual 164, 3) := by decide +kernel
theorem dX8_isWord_53 : decode cX8_isWord 53 = .ok (.aload_n 1, 1) := by decide +kernel
theorem dX8_isWord_54 : decode cX8_isWord 54 = .ok (.iload_n 2, 1) := by decide +kernel
theorem dX8_isWord_55 : decode cX8_isWord 55 = .ok (.invokevirtual 198, 3) := by decide +kernel
theorem dX8_isWord_58 : decode cX8_isWord 58 = .ok (.if_icmp .eq 5, 3) := by decide +kernel
theorem dX8_isWord_61 : decode cX8_isWord 61 = .ok (.iconst 0, 1) := by decide +kernel
theorem dX8_isWord_62 : decode cX8_isWord 62 = .ok (.ireturn, 1) := by decide +kernel
theorem dX8_isWord_63 : decode cX8_isWord 63 = .ok (.iinc 2 1, 3) := by decide +kernel
theorem dX8_isWord_66 : decode cX8_isWord 66 = .ok (.goto (-31), 3) := by decide +kernel
theorem dX8_isWord_69 : decode cX8_isWord 69 = .ok (.iconst 1, 1) := by decide +kernel
theorem dX8_isWord_70 : decode cX8_isWord 70 = .ok (.ireturn, 1) := by decide +kernel
theorem dX8_numberHere_0 : decode cX8_numberHere 0 = .ok (.aload_n 0, 1) := by decide +kernel
theorem dX8_numberHere_1 : decode cX8_numberHere 1 = .ok (.getfield 170, 3) := by decide +kernel
theorem dX8_numberHere_4 : decode cX8_numberHere 4 = .ok (.iconst 2, 1) := by decide +kernel
theorem dX8_numberHere_5 : decode cX8_numberHere 5 = .ok (.if_icmp .eq 11, 3) := by decide +kernel
theorem dX8_numberHere_8 : decode cX8_numberHere 8 = .ok (.aload_n 0, 1) := by decide +kernel
theorem dX8_numberHere_9 : decode cX8_numberHere 9 = .ok (.iconst 1, 1) := by decide +kernel
theorem dX8_numberHere_10 : decode cX8_numberHere 10 = .ok (.invokevirtual 188, 3) := by decide +kernel
theorem dX8_numberHere_13 : decode cX8_numberHere 13 = .ok (.goto 20, 3) := by decide +kernel
theorem dX8_numberHere_16 : decode cX8_numberHere 16 = .ok (.aload_n 0, 1) := by decide +kernel
theorem dX8_numberHere_17 : decode cX8_numberHere 17 = .ok (.getfield 179, 3) := by decide +kernel
theorem dX8_numberHere_20 : decode cX8_numberHere 20 = .ok (.iload_n 1, 1) := by decide +kernel
theorem dX8_numberHere_21 : decode cX8_numberHere 21 = .ok (.iload_n 2, 1) := by decide +kernel
theorem dX8_numberHere_22 : decode cX8_numberHere 22 = .ok (.invokestatic 71, 3) := by decide +kernel
theorem dX8_numberHere_25 : decode cX8_numberHere 25 = .ok (.ifCond .ne 8, 3) := by decide +kernel
theorem dX8_numberHere_28 : decode cX8_numberHere 28 = .ok (.aload_n 0, 1) := by decide +kernel
theorem dX8_numberHere_29 : decode cX8_numberHere 29 = .ok (.iconst 2, 1) := by decide +kernel
theorem dX8_numberHere_30 : decode cX8_numberHere 30 = .ok (.invokevirtual 188, 3) := by decide +kernel
theorem dX8_numberHere_33 : decode cX8_numberHere 33 = .ok (.aload_n 0, 1) := by decide +kernel
theorem dX8_numberHere_34 : decode cX8_numberHere 34 = .ok (.getfield 182, 3) := by decide +kernel
theorem dX8_numberHere_37 : decode cX8_numberHere 37 = .ok (.ifCond .eq 7, 3) := by decide +kernel
theorem dX8_numberHere_40 : decode cX8_numberHere 40 = .ok (.iload_n 1, 1) := by decide +kernel
theorem dX8_numberHere_41 : decode cX8_numberHere 41 = .ok (.goto 7, 3) := by decide +kernel
theorem dX8_numberHere_44 : decode cX8_numberHere 44 = .ok (.aload_n 0, 1) := by decide +kernel
theorem dX8_numberHere_45 : decode cX8_numberHere 45 = .ok (.getfield 179, 3) := by decide +kernel
theorem dX8_numberHere_48 : decode cX8_numberHere 48 = .ok (.ireturn, 1) := by decide +kernel
theorem dX8_takes_0 : decode cX8_takes 0 = .ok (.aload_n 0, 1) := by decide +kernel
theorem dX8_takes_1 : decode cX8_takes 1 = .ok (.iload_n 1, 1) := by decide +kernel
theorem dX8_takes_2 : decode cX8_takes 2 = .ok (.iload_n 2, 1) := by decide +kernel
theorem dX8_takes_3 : decode cX8_takes 3 = .ok (.invokevirtual 202, 3) := by decide +kernel
theorem dX8_takes_6 : decode cX8_takes 6 = .ok (.istore_n 3, 1) := by decide +kernel
theorem dX8_takes_7 : decode cX8_takes 7 = .ok (.aload_n 0, 1) := by decide +kernel
theorem dX8_takes_8 : decode cX8_takes 8 = .ok (.invokevirtual 205, 3) := by decide +kernel
theorem dX8_takes_11 : decode cX8_takes 11 = .ok (.iload_n 3, 1) := by decide +kernel
theorem dX8_takes_12 : decode cX8_takes 12 = .ok (.ireturn, 1) := by decide +kernel
theorem dX8_isName_0 : decode cX8_isName 0 = .ok (.iload 4, 2) := by decide +kernel
theorem dX8_isName_2 : decode cX8_isName 2 = .ok (.iload_n 3, 1) := by decide +kernel
theorem dX8_isName_3 : decode cX8_isName 3 = .ok (.isub, 1) := by decide +kernel
theorem dX8_isName_4 : decode cX8_isName 4 = .ok (.iconst 1, 1) := by decide +kernel
theorem dX8_isName_5 : decode cX8_isName 5 = .ok (.bipush 6, 2) := by decide +kernel
theorem dX8_isName_7 : decode cX8_isName 7 = .ok (.invokestatic 71, 3) := by decide +kernel
theorem dX8_isName_10 : decode cX8_isName 10 = .ok (.istore 5, 2) := by decide +kernel
theorem dX8_isName_12 : decode cX8_isName 12 = .ok (.iconst 0, 1) := by decide +kernel
theorem dX8_isName_13 : decode cX8_isName 13 = .ok (.istore 6, 2) := by decide +kernel
theorem dX8_isName_15 : decode cX8_isName 15 = .ok (.iload 6, 2) := by decide +kernel
theorem dX8_isName_17 : decode cX8_isName 17 = .ok (.bipush 6, 2) := by decide +kernel
theorem dX8_isName_19 : decode cX8_isName 19 = .ok (.if_icmp .ge 70, 3) := by decide +kernel
theorem dX8_isName_22 : decode cX8_isName 22 = .ok (.iload 5, 2) := by decide +kernel
theorem dX8_isName_24 : decode cX8_isName 24 = .ok (.ifCond .eq 65, 3) := by decide +kernel
theorem dX8_isName_27 : decode cX8_isName 27 = .ok (.iload_n 3, 1) := by decide +kernel
theorem dX8_isName_28 : decode cX8_isName 28 = .ok (.iload 6, 2) := by decide +kernel
theorem dX8_isName_30 : decode cX8_isName 30 = .ok (.iadd, 1) := by decide +kernel
theorem dX8_isName_31 : decode cX8_isName 31 = .ok (.iload 4, 2) := by decide +kernel
theorem dX8_isName_33 : decode cX8_isName 33 = .ok (.if_icmp .ge 12, 3) := by decide +kernel
theorem dX8_isName_36 : decode cX8_isName 36 = .ok (.aload_n 2, 1) := by decide +kernel
theorem dX8_isName_37 : decode cX8_isName 37 = .ok (.iload_n 3, 1) := by decide +kernel
theorem dX8_isName_38 : decode cX8_isName 38 = .ok (.iload 6, 2) := by decide +kernel
theorem dX8_isName_40 : decode cX8_isName 40 = .ok (.iadd, 1) := by decide +kernel
theorem dX8_isName_41 : decode cX8_isName 41 = .ok (.iaload, 1) := by decide +kernel
theorem dX8_isName_42 : decode cX8_isName 42 = .ok (.goto 4, 3) := by decide +kernel
theorem dX8_isName_45 : decode cX8_isName 45 = .ok (.iconst 0, 1) := by decide +kernel
theorem dX8_isName_46 : decode cX8_isName 46 = .ok (.istore 7, 2) := by decide +kernel
theorem dX8_isName_48 : decode cX8_isName 48 = .ok (.aload_n 0, 1) := by decide +kernel
theorem dX8_isName_49 : decode cX8_isName 49 = .ok (.bipush 6, 2) := by decide +kernel
theorem dX8_isName_51 : decode cX8_isName 51 = .ok (.iload_n 1, 1) := by decide +kernel
theorem dX8_isName_52 : decode cX8_isName 52 = .ok (.imul, 1) := by decide +kernel
theorem dX8_isName_53 : decode cX8_isName 53 = .ok (.iload 6, 2) := by decide +kernel
theorem dX8_isName_55 : decode cX8_isName 55 = .ok (.iadd, 1) := by decide +kernel
theorem dX8_isName_56 : decode cX8_isName 56 = .ok (.iaload, 1) := by decide +kernel
theorem dX8_isName_57 : decode cX8_isName 57 = .ok (.iload 7, 2) := by decide +kernel
theorem dX8_isName_59 : decode cX8_isName 59 = .ok (.if_icmp .ne 21, 3) := by decide +kernel
theorem dX8_isName_62 : decode cX8_isName 62 = .ok (.iload 7, 2) := by decide +kernel
theorem dX8_isName_64 : decode cX8_isName 64 = .ok (.ifCond .ne 12, 3) := by decide +kernel
theorem dX8_isName_67 : decode cX8_isName 67 = .ok (.iload_n 3, 1) := by decide +kernel
theorem dX8_isName_68 : decode cX8_isName 68 = .ok (.iload 6, 2) := by decide +kernel
theorem dX8_isName_70 : decode cX8_isName 70 = .ok (.iadd, 1) := by decide +kernel
theorem dX8_isName_71 : decode cX8_isName 71 = .ok (.iload 4, 2) := by decide +kernel
theorem dX8_isName_73 : decode cX8_isName 73 = .ok (.if_icmp .lt 7, 3) := by decide +kernel
theorem dX8_isName_76 : decode cX8_isName 76 = .ok (.iconst 1, 1) := by decide +kernel
theorem dX8_isName_77 : decode cX8_isName 77 = .ok (.goto 4, 3) := by decide +kernel
theorem dX8_isName_80 : decode cX8_isName 80 = .ok (.iconst 0, 1) := by decide +kernel
theorem dX8_isName_81 : decode cX8_isName 81 = .ok (.istore 5, 2) := by decide +kernel
theorem dX8_isName_83 : decode cX8_isName 83 = .ok (.iinc 6 1, 3) := by decide +kernel
theorem dX8_isName_86 : decode cX8_isName 86 = .ok (.goto (-71), 3) := by decide +kernel
theorem dX8_isName_89 : decode cX8_isName 89 = .ok (.iload 5, 2) := by decide +kernel
theorem dX8_isName_91 : decode cX8_isName 91 = .ok (.ireturn, 1) := by decide +kernel
theorem dX8_named_0 : decode cX8_named 0 = .ok (.iconst 0, 1) := by decide +kernel
theorem dX8_named_1 : decode cX8_named 1 = .ok (.istore_n 1, 1) := by decide +kernel
theorem dX8_named_2 : decode cX8_named 2 = .ok (.iload_n 1, 1) := by decide +kernel
theorem dX8_named_3 : decode cX8_named 3 = .ok (.aload_n 0, 1) := by decide +kernel
theorem dX8_named_4 : decode cX8_named 4 = .ok (.getfield 208, 3) := by decide +kernel
theorem dX8_named_7 : decode cX8_named 7 = .ok (.if_icmp .ge 34, 3) := by decide +kernel
theorem dX8_named_10 : decode cX8_named 10 = .ok (.aload_n 0, 1) := by decide +kernel
theorem dX8_named_11 : decode cX8_named 11 = .ok (.getfield 48, 3) := by decide +kernel
theorem dX8_named_14 : decode cX8_named 14 = .ok (.iload_n 1, 1) := by decide +kernel
theorem dX8_named_15 : decode cX8_named 15 = .ok (.aload_n 0, 1) := by decide +kernel
theorem dX8_named_16 : decode cX8_named 16 = .ok (.getfield 41, 3) := by decide +kernel
theorem dX8_named_19 : decode cX8_named 19 = .ok (.aload_n 0, 1) := by decide +kernel
theorem dX8_named_20 : decode cX8_named 20 = .ok (.getfield 167, 3) := by decide +kernel
theorem dX8_named_23 : decode cX8_named 23 = .ok (.aload_n 0, 1) := by decide +kernel
theorem dX8_named_24 : decode cX8_named 24 = .ok (.getfield 161, 3) := by decide +kernel
theorem dX8_named_27 : decode cX8_named 27 = .ok (.invokestatic 211, 3) := by decide +kernel
theorem dX8_named_30 : decode cX8_named 30 = .ok (.ifCond .eq 5, 3) := by decide +kernel
theorem dX8_named_33 : decode cX8_named 33 = .ok (.iload_n 1, 1) := by decide +kernel
theorem dX8_named_34 : decode cX8_named 34 = .ok (.ireturn, 1) := by decide +kernel
theorem dX8_named_35 : decode cX8_named 35 = .ok (.iinc 1 1, 3) := by decide +kernel
theorem dX8_named_38 : decode cX8_named 38 = .ok (.goto (-36), 3) := by decide +kernel
theorem dX8_named_41 : decode cX8_named 41 = .ok (.iconst (-1), 1) := by decide +kernel
theorem dX8_named_42 : decode cX8_named 42 = .ok (.ireturn, 1) := by decide +kernel
theorem dX8_mapLine_0 : decode cX8_mapLine 0 = .ok (.aload_n 0, 1) := by decide +kernel
theorem dX8_mapLine_1 : decode cX8_mapLine 1 = .ok (.aload_n 0, 1) := by decide +kernel
theorem dX8_mapLine_2 : decode cX8_mapLine 2 = .ok (.getfield 208, 3) := by decide +kernel
theorem dX8_mapLine_5 : decode cX8_mapLine 5 = .ok (.bipush 6, 2) := by decide +kernel
theorem dX8_mapLine_7 : decode cX8_mapLine 7 = .ok (.if_icmp .ne 7, 3) := by decide +kernel
theorem dX8_mapLine_10 : decode cX8_mapLine 10 = .ok (.iconst 1, 1) := by decide +kernel
theorem dX8_mapLine_11 : decode cX8_mapLine 11 = .ok (.goto 4, 3) := by decide +kernel
theorem dX8_mapLine_14 : decode cX8_mapLine 14 = .ok (.iconst 0, 1) := by decide +kernel
theorem dX8_mapLine_15 : decode cX8_mapLine 15 = .ok (.iconst 4, 1) := by decide +kernel
theorem dX8_mapLine_16 : decode cX8_mapLine 16 = .ok (.invokevirtual 215, 3) := by decide +kernel
theorem dX8_mapLine_19 : decode cX8_mapLine 19 = .ok (.aload_n 0, 1) := by decide +kernel
theorem dX8_mapLine_20 : decode cX8_mapLine 20 = .ok (.invokevirtual 205, 3) := by decide +kernel
theorem dX8_mapLine_23 : decode cX8_mapLine 23 = .ok (.aload_n 0, 1) := by decide +kernel
theorem dX8_mapLine_24 : decode cX8_mapLine 24 = .ok (.aload_n 0, 1) := by decide +kernel
theorem dX8_mapLine_25 : decode cX8_mapLine 25 = .ok (.getfield 170, 3) := by decide +kernel
theorem dX8_mapLine_28 : decode cX8_mapLine 28 = .ok (.iconst 1, 1) := by decide +kernel
theorem dX8_mapLine_29 : decode cX8_mapLine 29 = .ok (.if_icmp .eq 7, 3) := by decide +kernel
theorem dX8_mapLine_32 : decode cX8_mapLine 32 = .ok (.iconst 1, 1) := by decide +kernel
theorem dX8_mapLine_33 : decode cX8_mapLine 33 = .ok (.goto 4, 3) := by decide +kernel
theorem dX8_mapLine_36 : decode cX8_mapLine 36 = .ok (.iconst 0, 1) := by decide +kernel
theorem dX8_mapLine_37 : decode cX8_mapLine 37 = .ok (.iconst 1, 1) := by decide +kernel
theorem dX8_mapLine_38 : decode cX8_mapLine 38 = .ok (.invokevirtual 215, 3) := by decide +kernel
theorem dX8_mapLine_41 : decode cX8_mapLine 41 = .ok (.aload_n 0, 1) := by decide +kernel
theorem dX8_mapLine_42 : decode cX8_mapLine 42 = .ok (.aload_n 0, 1) := by decide +kernel
theorem dX8_mapLine_43 : decode cX8_mapLine 43 = .ok (.getfield 182, 3) := by decide +kernel
theorem dX8_mapLine_46 : decode cX8_mapLine 46 = .ok (.ifCond .ne 15, 3) := by decide +kernel
theorem dX8_mapLine_49 : decode cX8_mapLine 49 = .ok (.aload_n 0, 1) := by decide +kernel
theorem dX8_mapLine_50 : decode cX8_mapLine 50 = .ok (.invokevirtual 219, 3) := by decide +kernel
theorem dX8_mapLine_53 : decode cX8_mapLine 53 = .ok (.iconst (-1), 1) := by decide +kernel
theorem dX8_mapLine_54 : decode cX8_mapLine 54 = .ok (.if_icmp .eq 7, 3) := by decide +kernel
theorem dX8_mapLine_57 : decode cX8_mapLine 57 = .ok (.iconst 1, 1) := by decide +kernel
theorem dX8_mapLine_58 : decode cX8_mapLine 58 = .ok (.goto 4, 3) := by decide +kernel
theorem dX8_mapLine_61 : decode cX8_mapLine 61 = .ok (.iconst 0, 1) := by decide +kernel
theorem dX8_mapLine_62 : decode cX8_mapLine 62 = .ok (.iconst 3, 1) := by decide +kernel
theorem dX8_mapLine_63 : decode cX8_mapLine 63 = .ok (.invokevirtual 215, 3) := by decide +kernel
theorem dX8_mapLine_66 : decode cX8_mapLine 66 = .ok (.aload_n 0, 1) := by decide +kernel
theorem dX8_mapLine_67 : decode cX8_mapLine 67 = .ok (.getfield 182, 3) := by decide +kernel
theorem dX8_mapLine_70 : decode cX8_mapLine 70 = .ok (.ifCond .ne 99, 3) := by decide +kernel
theorem dX8_mapLine_73 : decode cX8_mapLine 73 = .ok (.iconst 0, 1) := by decide +kernel
theorem dX8_mapLine_74 : decode cX8_mapLine 74 = .ok (.istore_n 1, 1) := by decide +kernel
theorem dX8_mapLine_75 : decode cX8_mapLine 75 = .ok (.iload_n 1, 1) := by decide +kernel
theorem dX8_mapLine_76 : decode cX8_mapLine 76 = .ok (.bipush 6, 2) := by decide +kernel
theorem dX8_mapLine_78 : decode cX8_mapLine 78 = .ok (.if_icmp .ge 50, 3) := by decide +kernel
theorem dX8_mapLine_81 : decode cX8_mapLine 81 = .ok (.aload_n 0, 1) := by decide +kernel
theorem dX8_mapLine_82 : decode cX8_mapLine 82 = .ok (.getfield 48, 3) := by decide +kernel
theorem dX8_mapLine_85 : decode cX8_mapLine 85 = .ok (.bipush 6, 2) := by decide +kernel
theorem dX8_mapLine_87 : decode cX8_mapLine 87 = .ok (.aload_n 0, 1) := by decide +kernel
theorem dX8_mapLine_88 : decode cX8_mapLine 88 = .ok (.getfield 208, 3) := by decide +kernel
theorem dX8_mapLine_91 : decode cX8_mapLine 91 = .ok (.imul, 1) := by decide +kernel
theorem dX8_mapLine_92 : decode cX8_mapLine 92 = .ok (.iload_n 1, 1) := by decide +kernel
theorem dX8_mapLine_93 : decode cX8_mapLine 93 = .ok (.iadd, 1) := by decide +kernel
theorem dX8_mapLine_94 : decode cX8_mapLine 94 = .ok (.aload_n 0, 1) := by decide +kernel
theorem dX8_mapLine_95 : decode cX8_mapLine 95 = .ok (.getfield 167, 3) := by decide +kernel
theorem dX8_mapLine_98 : decode cX8_mapLine 98 = .ok (.iload_n 1, 1) := by decide +kernel
theorem dX8_mapLine_99 : decode cX8_mapLine 99 = .ok (.iadd, 1) := by decide +kernel
theorem dX8_mapLine_100 : decode cX8_mapLine 100 = .ok (.aload_n 0, 1) := by decide +kernel
theorem dX8_mapLine_101 : decode cX8_mapLine 101 = .ok (.getfield 161, 3) := by decide +kernel
theorem dX8_mapLine_104 : decode cX8_mapLine 104 = .ok (.if_icmp .ge 16, 3) := by decide +kernel
theorem dX8_mapLine_107 : decode cX8_mapLine 107 = .ok (.aload_n 0, 1) := by decide +kernel
theorem dX8_mapLine_108 : decode cX8_mapLine 108 = .ok (.aload_n 0, 1) := by decide +kernel
theorem dX8_mapLine_109 : decode cX8_mapLine 109 = .ok (.getfield 167, 3) := by decide +kernel
theorem dX8_mapLine_112 : decode cX8_mapLine 112 = .ok (.iload_n 1, 1) := by decide +kernel
theorem dX8_mapLine_113 : decode cX8_mapLine 113 = .ok (.iadd, 1) := by decide +kernel
theorem dX8_mapLine_114 : decode cX8_mapLine 114 = .ok (.invokevirtual 164, 3) := by decide +kernel
theorem dX8_mapLine_117 : decode cX8_mapLine 117 = .ok (.goto 4, 3) := by decide +kernel
theorem dX8_mapLine_120 : decode cX8_mapLine 120 = .ok (.iconst 0, 1) := by decide +kernel
theorem dX8_mapLine_121 : decode cX8_mapLine 121 = .ok (.iastore, 1) := by decide +kernel
theorem dX8_mapLine_122 : decode cX8_mapLine 122 = .ok (.iinc 1 1, 3) := by decide +kernel
theorem dX8_mapLine_125 : decode cX8_mapLine 125 = .ok (.goto (-50), 3) := by decide +kernel
theorem dX8_mapLine_128 : decode cX8_mapLine 128 = .ok (.iconst 0, 1) := by decide +kernel
theorem dX8_mapLine_129 : decode cX8_mapLine 129 = .ok (.istore_n 1, 1) := by decide +kernel
theorem dX8_mapLine_130 : decode cX8_mapLine 130 = .ok (.iload_n 1, 1) := by decide +kernel
theorem dX8_mapLine_131 : decode cX8_mapLine 131 = .ok (.sipush 256, 3) := by decide +kernel
theorem dX8_mapLine_134 : decode cX8_mapLine 134 = .ok (.if_icmp .ge 25, 3) := by decide +kernel
theorem dX8_mapLine_137 : decode cX8_mapLine 137 = .ok (.aload_n 0, 1) := by decide +kernel
theorem dX8_mapLine_138 : decode cX8_mapLine 138 = .ok (.getfield 51, 3) := by decide +kernel
theorem dX8_mapLine_141 : decode cX8_mapLine 141 = .ok (.sipush 256, 3) := by decide +kernel
theorem dX8_mapLine_144 : decode cX8_mapLine 144 = .ok (.aload_n 0, 1) := by decide +kernel
theorem dX8_mapLine_145 : decode cX8_mapLine 145 = .ok (.getfield 208, 3) := by decide +kernel
theorem dX8_mapLine_148 : decode cX8_mapLine 148 = .ok (.imul, 1) := by decide +kernel
theorem dX8_mapLine_149 : decode cX8_mapLine 149 = .ok (.iload_n 1, 1) := by decide +kernel
theorem dX8_mapLine_150 : decode cX8_mapLine 150 = .ok (.iadd, 1) := by decide +kernel
theorem dX8_mapLine_151 : decode cX8_mapLine 151 = .ok (.iconst 0, 1) := by decide +kernel
theorem dX8_mapLine_152 : decode cX8_mapLine 152 = .ok (.iastore, 1) := by decide +kernel
theorem dX8_mapLine_153 : decode cX8_mapLine 153 = .ok (.iinc 1 1, 3) := by decide +kernel
theorem dX8_mapLine_156 : decode cX8_mapLine 156 = .ok (.goto (-26), 3) := by decide +kernel
theorem dX8_mapLine_159 : decode cX8_mapLine 159 = .ok (.aload_n 0, 1) := by decide +kernel
theorem dX8_mapLine_160 : decode cX8_mapLine 160 = .ok (.dup, 1) := by decide +kernel
theorem dX8_mapLine_161 : decode cX8_mapLine 161 = .ok (.getfield 208, 3) := by decide +kernel
theorem dX8_mapLine_164 : decode cX8_mapLine 164 = .ok (.iconst 1, 1) := by decide +kernel
theorem dX8_mapLine_165 : decode cX8_mapLine 165 = .ok (.iadd, 1) := by decide +kernel
theorem dX8_mapLine_166 : decode cX8_mapLine 166 = .ok (.putfield 208, 3) := by decide +kernel
theorem dX8_mapLine_169 : decode cX8_mapLine 169 = .ok (.aload_n 0, 1) := by decide +kernel
theorem dX8_mapLine_170 : decode cX8_mapLine 170 = .ok (.invokevirtual 205, 3) := by decide +kernel
theorem dX8_mapLine_173 : decode cX8_mapLine 173 = .ok (.return_, 1) := by decide +kernel
theorem dX8_takesMap_0 : decode cX8_takesMap 0 = .ok (.aload_n 0, 1) := by decide +kernel
theorem dX8_takesMap_1 : decode cX8_takesMap 1 = .ok (.aload_n 0, 1) := by decide +kernel
theorem dX8_takesMap_2 : decode cX8_takesMap 2 = .ok (.getfield 170, 3) := by decide +kernel
theorem dX8_takesMap_5 : decode cX8_takesMap 5 = .ok (.iconst 1, 1) := by decide +kernel
theorem dX8_takesMap_6 : decode cX8_takesMap 6 = .ok (.if_icmp .eq 7, 3) := by decide +kernel
theorem dX8_takesMap_9 : decode cX8_takesMap 9 = .ok (.iconst 1, 1) := by decide +kernel
theorem dX8_takesMap_10 : decode cX8_takesMap 10 = .ok (.goto 4, 3) := by decide +kernel
theorem dX8_takesMap_13 : decode cX8_takesMap 13 = .ok (.iconst 0, 1) := by decide +kernel
theorem dX8_takesMap_14 : decode cX8_takesMap 14 = .ok (.iconst 1, 1) := by decide +kernel
theorem dX8_takesMap_15 : decode cX8_takesMap 15 = .ok (.invokevirtual 215, 3) := by decide +kernel
theorem dX8_takesMap_18 : decode cX8_takesMap 18 = .ok (.aload_n 0, 1) := by decide +kernel
theorem dX8_takesMap_19 : decode cX8_takesMap 19 = .ok (.getfield 182, 3) := by decide +kernel
theorem dX8_takesMap_22 : decode cX8_takesMap 22 = .ok (.ifCond .ne 10, 3) := by decide +kernel
theorem dX8_takesMap_25 : decode cX8_takesMap 25 = .ok (.aload_n 0, 1) := by decide +kernel
theorem dX8_takesMap_26 : decode cX8_takesMap 26 = .ok (.invokevirtual 219, 3) := by decide +kernel
theorem dX8_takesMap_29 : decode cX8_takesMap 29 = .ok (.goto 4, 3) := by decide +kernel
theorem dX8_takesMap_32 : decode cX8_takesMap 32 = .ok (.iconst (-1), 1) := by decide +kernel
theorem dX8_takesMap_33 : decode cX8_takesMap 33 = .ok (.istore_n 1, 1) := by decide +kernel
theorem dX8_takesMap_34 : decode cX8_takesMap 34 = .ok (.aload_n 0, 1) := by decide +kernel
theorem dX8_takesMap_35 : decode cX8_takesMap 35 = .ok (.iload_n 1, 1) := by decide +kernel
theorem dX8_takesMap_36 : decode cX8_takesMap 36 = .ok (.iconst (-1), 1) := by decide +kernel
theorem dX8_takesMap_37 : decode cX8_takesMap 37 = .ok (.if_icmp .ne 7, 3) := by decide +kernel
theorem dX8_takesMap_40 : decode cX8_takesMap 40 = .ok (.iconst 1, 1) := by decide +kernel
theorem dX8_takesMap_41 : decode cX8_takesMap 41 = .ok (.goto 4, 3) := by decide +kernel
theorem dX8_takesMap_44 : decode cX8_takesMap 44 = .ok (.iconst 0, 1) := by decide +kernel
theorem dX8_takesMap_45 : decode cX8_takesMap 45 = .ok (.iconst 3, 1) := by decide +kernel
theorem dX8_takesMap_46 : decode cX8_takesMap 46 = .ok (.invokevirtual 215, 3) := by decide +kernel
theorem dX8_takesMap_49 : decode cX8_takesMap 49 = .ok (.aload_n 0, 1) := by decide +kernel
theorem dX8_takesMap_50 : decode cX8_takesMap 50 = .ok (.invokevirtual 205, 3) := by decide +kernel
theorem dX8_takesMap_53 : decode cX8_takesMap 53 = .ok (.aload_n 0, 1) := by decide +kernel
theorem dX8_takesMap_54 : decode cX8_takesMap 54 = .ok (.getfield 182, 3) := by decide +kernel
theorem dX8_takesMap_57 : decode cX8_takesMap 57 = .ok (.ifCond .ne 7, 3) := by decide +kernel
theorem dX8_takesMap_60 : decode cX8_takesMap 60 = .ok (.iload_n 1, 1) := by decide +kernel
theorem dX8_takesMap_61 : decode cX8_takesMap 61 = .ok (.goto 4, 3) := by decide +kernel
theorem dX8_takesMap_64 : decode cX8_takesMap 64 = .ok (.iconst 0, 1) := by decide +kernel
theorem dX8_takesMap_65 : decode cX8_takesMap 65 = .ok (.ireturn, 1) := by decide +kernel
theorem dX8_takesRow_0 : decode cX8_takesRow 0 = .ok (.iconst 0, 1) := by decide +kernel
theorem dX8_takesRow_1 : decode cX8_takesRow 1 = .ok (.istore_n 2, 1) := by decide +kernel
theorem dX8_takesRow_2 : decode cX8_takesRow 2 = .ok (.iload_n 2, 1) := by decide +kernel
theorem dX8_takesRow_3 : decode cX8_takesRow 3 = .ok (.aload_n 0, 1) := by decide +kernel
theorem dX8_takesRow_4 : decode cX8_takesRow 4 = .ok (.invokevirtual 86, 3) := by decide +kernel
theorem dX8_takesRow_7 : decode cX8_takesRow 7 = .ok (.if_icmp .ge 27, 3) := by decide +kernel
theorem dX8_takesRow_10 : decode cX8_takesRow 10 = .ok (.aload_n 0, 1) := by decide +kernel
theorem dX8_takesRow_11 : decode cX8_takesRow 11 = .ok (.getfield 23, 3) := by decide +kernel
theorem dX8_takesRow_14 : decode cX8_takesRow 14 = .ok (.iload_n 2, 1) := by decide +kernel
theorem dX8_takesRow_15 : decode cX8_takesRow 15 = .ok (.aload_n 0, 1) := by decide +kernel
theorem dX8_takesRow_16 : decode cX8_takesRow 16 = .ok (.getfield 51, 3) := by decide +kernel
theorem dX8_takesRow_19 : decode cX8_takesRow 19 = .ok (.sipush 256, 3) := by decide +kernel
theorem dX8_takesRow_22 : decode cX8_takesRow 22 = .ok (.iload_n 1, 1) := by decide +kernel
theorem dX8_takesRow_23 : decode cX8_takesRow 23 = .ok (.imul, 1) := by decide +kernel
theorem dX8_takesRow_24 : decode cX8_takesRow 24 = .ok (.iload_n 2, 1) := by decide +kernel
theorem dX8_takesRow_25 : decode cX8_takesRow 25 = .ok (.iadd, 1) := by decide +kernel
theorem dX8_takesRow_26 : decode cX8_takesRow 26 = .ok (.iaload, 1) := by decide +kernel
theorem dX8_takesRow_27 : decode cX8_takesRow 27 = .ok (.iastore, 1) := by decide +kernel
theorem dX8_takesRow_28 : decode cX8_takesRow 28 = .ok (.iinc 2 1, 3) := by decide +kernel
theorem dX8_takesRow_31 : decode cX8_takesRow 31 = .ok (.goto (-29), 3) := by decide +kernel
theorem dX8_takesRow_34 : decode cX8_takesRow 34 = .ok (.return_, 1) := by decide +kernel
theorem dX8_leavesRow_0 : decode cX8_leavesRow 0 = .ok (.iconst 0, 1) := by decide +kernel
theorem dX8_leavesRow_1 : decode cX8_leavesRow 1 = .ok (.istore_n 2, 1) := by decide +kernel
theorem dX8_leavesRow_2 : decode cX8_leavesRow 2 = .ok (.iload_n 2, 1) := by decide +kernel
theorem dX8_leavesRow_3 : decode cX8_leavesRow 3 = .ok (.aload_n 0, 1) := by decide +kernel
theorem dX8_leavesRow_4 : decode cX8_leavesRow 4 = .ok (.invokevirtual 86, 3) := by decide +kernel
theorem dX8_leavesRow_7 : decode cX8_leavesRow 7 = .ok (.if_icmp .ge 27, 3) := by decide +kernel
theorem dX8_leavesRow_10 : decode cX8_leavesRow 10 = .ok (.aload_n 0, 1) := by decide +kernel
theorem dX8_leavesRow_11 : decode cX8_leavesRow 11 = .ok (.getfield 51, 3) := by decide +kernel
theorem dX8_leavesRow_14 : decode cX8_leavesRow 14 = .ok (.sipush 256, 3) := by decide +kernel
theorem dX8_leavesRow_17 : decode cX8_leavesRow 17 = .ok (.iload_n 1, 1) := by decide +kernel
theorem dX8_leavesRow_18 : decode cX8_leavesRow 18 = .ok (.imul, 1) := by decide +kernel
theorem dX8_leavesRow_19 : decode cX8_leavesRow 19 = .ok (.iload_n 2, 1) := by decide +kernel
theorem dX8_leavesRow_20 : decode cX8_leavesRow 20 = .ok (.iadd, 1) := by decide +kernel
theorem dX8_leavesRow_21 : decode cX8_leavesRow 21 = .ok (.aload_n 0, 1) := by decide +kernel
theorem dX8_leavesRow_22 : decode cX8_leavesRow 22 = .ok (.getfield 23, 3) := by decide +kernel
theorem dX8_leavesRow_25 : decode cX8_leavesRow 25 = .ok (.iload_n 2, 1) := by decide +kernel
theorem dX8_leavesRow_26 : decode cX8_leavesRow 26 = .ok (.iaload, 1) := by decide +kernel
theorem dX8_leavesRow_27 : decode cX8_leavesRow 27 = .ok (.iastore, 1) := by decide +kernel
theorem dX8_leavesRow_28 : decode cX8_leavesRow 28 = .ok (.iinc 2 1, 3) := by decide +kernel
theorem dX8_leavesRow_31 : decode cX8_leavesRow 31 = .ok (.goto (-29), 3) := by decide +kernel
theorem dX8_leavesRow_34 : decode cX8_leavesRow 34 = .ok (.return_, 1) := by decide +kernel
theorem dX8_rangeLine_0 : decode cX8_rangeLine 0 = .ok (.aload_n 0, 1) := by decide +kernel
theorem dX8_rangeLine_1 : decode cX8_rangeLine 1 = .ok (.invokevirtual 205, 3) := by decide +kernel
theorem dX8_rangeLine_4 : decode cX8_rangeLine 4 = .ok (.aload_n 0, 1) := by decide +kernel
theorem dX8_rangeLine_5 : decode cX8_rangeLine 5 = .ok (.invokevirtual 222, 3) := by decide +kernel
theorem dX8_rangeLine_8 : decode cX8_rangeLine 8 = .ok (.istore_n 2, 1) := by decide +kernel
theorem dX8_rangeLine_9 : decode cX8_rangeLine 9 = .ok (.aload_n 0, 1) := by decide +kernel
theorem dX8_rangeLine_10 : decode cX8_rangeLine 10 = .ok (.iconst 0, 1) := by decide +kernel
theorem dX8_rangeLine_11 : decode cX8_rangeLine 11 = .ok (.aload_n 0, 1) := by decide +kernel
theorem dX8_rangeLine_12 : decode cX8_rangeLine 12 = .ok (.invokevirtual 225, 3) := by decide +kernel
theorem dX8_rangeLine_15 : decode cX8_rangeLine 15 = .ok (.iconst 1, 1) := by decide +kernel
theorem dX8_rangeLine_16 : decode cX8_rangeLine 16 = .ok (.isub, 1) := by decide +kernel
theorem dX8_rangeLine_17 : decode cX8_rangeLine 17 = .ok (.invokevirtual 228, 3) := by decide +kernel
theorem dX8_rangeLine_20 : decode cX8_rangeLine 20 = .ok (.istore_n 3, 1) := by decide +kernel
theorem dX8_rangeLine_21 : decode cX8_rangeLine 21 = .ok (.aload_n 0, 1) := by decide +kernel
theorem dX8_rangeLine_22 : decode cX8_rangeLine 22 = .ok (.iload_n 3, 1) := by decide +kernel
theorem dX8_rangeLine_23 : decode cX8_rangeLine 23 = .ok (.aload_n 0, 1) := by decide +kernel
theorem dX8_rangeLine_24 : decode cX8_rangeLine 24 = .ok (.invokevirtual 225, 3) := by decide +kernel
theorem dX8_rangeLine_27 : decode cX8_rangeLine 27 = .ok (.iconst 1, 1) := by decide +kernel
theorem dX8_rangeLine_28 : decode cX8_rangeLine 28 = .ok (.isub, 1) := by decide +kernel
theorem dX8_rangeLine_29 : decode cX8_rangeLine 29 = .ok (.invokevirtual 228, 3) := by decide +kernel
theorem dX8_rangeLine_32 : decode cX8_rangeLine 32 = .ok (.istore 4, 2) := by decide +kernel
theorem dX8_rangeLine_34 : decode cX8_rangeLine 34 = .ok (.aload_n 0, 1) := by decide +kernel
theorem dX8_rangeLine_35 : decode cX8_rangeLine 35 = .ok (.getfield 182, 3) := by decide +kernel
theorem dX8_rangeLine_38 : decode cX8_rangeLine 38 = .ok (.ifCond .eq 4, 3) := by decide +kernel
theorem dX8_rangeLine_41 : decode cX8_rangeLine 41 = .ok (.return_, 1) := by decide +kernel
theorem dX8_rangeLine_42 : decode cX8_rangeLine 42 = .ok (.aload_n 0, 1) := by decide +kernel
theorem dX8_rangeLine_43 : decode cX8_rangeLine 43 = .ok (.iload_n 2, 1) := by decide +kernel
theorem dX8_rangeLine_44 : decode cX8_rangeLine 44 = .ok (.invokevirtual 231, 3) := by decide +kernel
theorem dX8_rangeLine_47 : decode cX8_rangeLine 47 = .ok (.iload_n 3, 1) := by decide +kernel
theorem dX8_rangeLine_48 : decode cX8_rangeLine 48 = .ok (.istore 5, 2) := by decide +kernel
theorem dX8_rangeLine_50 : decode cX8_rangeLine 50 = .ok (.iload 5, 2) := by decide +kernel
theorem dX8_rangeLine_52 : decode cX8_rangeLine 52 = .ok (.iload 4, 2) := by decide +kernel
theorem dX8_rangeLine_54 : decode cX8_rangeLine 54 = .ok (.if_icmp .gt 32, 3) := by decide +kernel
theorem dX8_rangeLine_57 : decode cX8_rangeLine 57 = .ok (.aload_n 0, 1) := by decide +kernel
theorem dX8_rangeLine_58 : decode cX8_rangeLine 58 = .ok (.iload 5, 2) := by decide +kernel
theorem dX8_rangeLine_60 : decode cX8_rangeLine 60 = .ok (.iload_n 1, 1) := by decide +kernel
theorem dX8_rangeLine_61 : decode cX8_rangeLine 61 = .ok (.iconst 2, 1) := by decide +kernel
theorem dX8_rangeLine_62 : decode cX8_rangeLine 62 = .ok (.if_icmp .ne 14, 3) := by decide +kernel
theorem dX8_rangeLine_65 : decode cX8_rangeLine 65 = .ok (.iconst 1, 1) := by decide +kernel
theorem dX8_rangeLine_66 : decode cX8_rangeLine 66 = .ok (.aload_n 0, 1) := by decide +kernel
theorem dX8_rangeLine_67 : decode cX8_rangeLine 67 = .ok (.iload 5, 2) := by decide +kernel
theorem dX8_rangeLine_69 : decode cX8_rangeLine 69 = .ok (.invokevirtual 234, 3) := by decide +kernel
theorem dX8_rangeLine_72 : decode cX8_rangeLine 72 = .ok (.isub, 1) := by decide +kernel
theorem dX8_rangeLine_73 : decode cX8_rangeLine 73 = .ok (.goto 4, 3) := by decide +kernel
theorem dX8_rangeLine_76 : decode cX8_rangeLine 76 = .ok (.iload_n 1, 1) := by decide +kernel
theorem dX8_rangeLine_77 : decode cX8_rangeLine 77 = .ok (.invokevirtual 237, 3) := by decide +kernel
theorem dX8_rangeLine_80 : decode cX8_rangeLine 80 = .ok (.iinc 5 1, 3) := by decide +kernel
theorem dX8_rangeLine_83 : decode cX8_rangeLine 83 = .ok (.goto (-33), 3) := by decide +kernel
theorem dX8_rangeLine_86 : decode cX8_rangeLine 86 = .ok (.aload_n 0, 1) := by decide +kernel
theorem dX8_rangeLine_87 : decode cX8_rangeLine 87 = .ok (.iload_n 2, 1) := by decide +kernel
theorem dX8_rangeLine_88 : decode cX8_rangeLine 88 = .ok (.invokevirtual 240, 3) := by decide +kernel
theorem dX8_rangeLine_91 : decode cX8_rangeLine 91 = .ok (.return_, 1) := by decide +kernel
theorem dX8_orLine_0 : decode cX8_orLine 0 = .ok (.aload_n 0, 1) := by decide +kernel
theorem dX8_orLine_1 : decode cX8_orLine 1 = .ok (.invokevirtual 205, 3) := by decide +kernel
theorem dX8_orLine_4 : decode cX8_orLine 4 = .ok (.aload_n 0, 1) := by decide +kernel
theorem dX8_orLine_5 : decode cX8_orLine 5 = .ok (.invokevirtual 222, 3) := by decide +kernel
theorem dX8_orLine_8 : decode cX8_orLine 8 = .ok (.istore_n 1, 1) := by decide +kernel
theorem dX8_orLine_9 : decode cX8_orLine 9 = .ok (.aload_n 0, 1) := by decide +kernel
theorem dX8_orLine_10 : decode cX8_orLine 10 = .ok (.invokevirtual 222, 3) := by decide +kernel
theorem dX8_orLine_13 : decode cX8_orLine 13 = .ok (.istore_n 2, 1) := by decide +kernel
theorem dX8_orLine_14 : decode cX8_orLine 14 = .ok (.iconst 0, 1) := by decide +kernel
theorem dX8_orLine_15 : decode cX8_orLine 15 = .ok (.istore_n 3, 1) := by decide +kernel
theorem dX8_orLine_16 : decode cX8_orLine 16 = .ok (.iload_n 3, 1) := by decide +kernel
theorem dX8_orLine_17 : decode cX8_orLine 17 = .ok (.sipush 256, 3) := by decide +kernel
theorem dX8_orLine_20 : decode cX8_orLine 20 = .ok (.if_icmp .ge 43, 3) := by decide +kernel
theorem dX8_orLine_23 : decode cX8_orLine 23 = .ok (.aload_n 0, 1) := by decide +kernel
theorem dX8_orLine_24 : decode cX8_orLine 24 = .ok (.getfield 182, 3) := by decide +kernel
theorem dX8_orLine_27 : decode cX8_orLine 27 = .ok (.ifCond .ne 36, 3) := by decide +kernel
theorem dX8_orLine_30 : decode cX8_orLine 30 = .ok (.aload_n 0, 1) := by decide +kernel
theorem dX8_orLine_31 : decode cX8_orLine 31 = .ok (.getfield 51, 3) := by decide +kernel
theorem dX8_orLine_34 : decode cX8_orLine 34 = .ok (.sipush 256, 3) := by decide +kernel
theorem dX8_orLine_37 : decode cX8_orLine 37 = .ok (.iload_n 1, 1) := by decide +kernel
theorem dX8_orLine_38 : decode cX8_orLine 38 = .ok (.imul, 1) := by decide +kernel
theorem dX8_orLine_39 : decode cX8_orLine 39 = .ok (.iload_n 3, 1) := by decide +kernel
theorem dX8_orLine_40 : decode cX8_orLine 40 = .ok (.iadd, 1) := by decide +kernel
theorem dX8_orLine_41 : decode cX8_orLine 41 = .ok (.dup2, 1) := by decide +kernel
theorem dX8_orLine_42 : decode cX8_orLine 42 = .ok (.iaload, 1) := by decide +kernel
theorem dX8_orLine_43 : decode cX8_orLine 43 = .ok (.aload_n 0, 1) := by decide +kernel
theorem dX8_orLine_44 : decode cX8_orLine 44 = .ok (.getfield 51, 3) := by decide +kernel
theorem dX8_orLine_47 : decode cX8_orLine 47 = .ok (.sipush 256, 3) := by decide +kernel
theorem dX8_orLine_50 : decode cX8_orLine 50 = .ok (.iload_n 2, 1) := by decide +kernel
theorem dX8_orLine_51 : decode cX8_orLine 51 = .ok (.imul, 1) := by decide +kernel
theorem dX8_orLine_52 : decode cX8_orLine 52 = .ok (.iload_n 3, 1) := by decide +kernel
theorem dX8_orLine_53 : decode cX8_orLine 53 = .ok (.iadd, 1) := by decide +kernel
theorem dX8_orLine_54 : decode cX8_orLine 54 = .ok (.iaload, 1) := by decide +kernel
theorem dX8_orLine_55 : decode cX8_orLine 55 = .ok (.ior, 1) := by decide +kernel
theorem dX8_orLine_56 : decode cX8_orLine 56 = .ok (.iastore, 1) := by decide +kernel
theorem dX8_orLine_57 : decode cX8_orLine 57 = .ok (.iinc 3 1, 3) := by decide +kernel
theorem dX8_orLine_60 : decode cX8_orLine 60 = .ok (.goto (-44), 3) := by decide +kernel
theorem dX8_orLine_63 : decode cX8_orLine 63 = .ok (.return_, 1) := by decide +kernel
theorem dX8_treeLine_0 : decode cX8_treeLine 0 = .ok (.aload_n 0, 1) := by decide +kernel
theorem dX8_treeLine_1 : decode cX8_treeLine 1 = .ok (.invokevirtual 205, 3) := by decide +kernel
theorem dX8_treeLine_4 : decode cX8_treeLine 4 = .ok (.aload_n 0, 1) := by decide +kernel
theorem dX8_treeLine_5 : decode cX8_treeLine 5 = .ok (.invokevirtual 222, 3) := by decide +kernel
theorem dX8_treeLine_8 : decode cX8_treeLine 8 = .ok (.istore_n 1, 1) := by decide +kernel
theorem dX8_treeLine_9 : decode cX8_treeLine 9 = .ok (.aload_n 0, 1) := by decide +kernel
theorem dX8_treeLine_10 : decode cX8_treeLine 10 = .ok (.iconst 0, 1) := by decide +kernel
theorem dX8_treeLine_11 : decode cX8_treeLine 11 = .ok (.putfield 130, 3) := by decide +kernel
theorem dX8_treeLine_14 : decode cX8_treeLine 14 = .ok (.iconst 0, 1) := by decide +kernel
theorem dX8_treeLine_15 : decode cX8_treeLine 15 = .ok (.istore_n 2, 1) := by decide +kernel
theorem dX8_treeLine_16 : decode cX8_treeLine 16 = .ok (.aload_n 0, 1) := by decide +kernel
theorem dX8_treeLine_17 : decode cX8_treeLine 17 = .ok (.aload_n 0, 1) := by decide +kernel
theorem dX8_treeLine_18 : decode cX8_treeLine 18 = .ok (.getfield 170, 3) := by decide +kernel
theorem dX8_treeLine_21 : decode cX8_treeLine 21 = .ok (.iconst 2, 1) := by decide +kernel
theorem dX8_treeLine_22 : decode cX8_treeLine 22 = .ok (.if_icmp .eq 7, 3) := by decide +kernel
theorem dX8_treeLine_25 : decode cX8_treeLine 25 = .ok (.iconst 1, 1) := by decide +kernel
theorem dX8_treeLine_26 : decode cX8_treeLine 26 = .ok (.goto 4, 3) := by decide +kernel
theorem dX8_treeLine_29 : decode cX8_treeLine 29 = .ok (.iconst 0, 1) := by decide +kernel
theorem dX8_treeLine_30 : decode cX8_treeLine 30 = .ok (.iconst 1, 1) := by decide +kernel
theorem dX8_treeLine_31 : decode cX8_treeLine 31 = .ok (.invokevirtual 215, 3) := by decide +kernel
theorem dX8_treeLine_34 : decode cX8_treeLine 34 = .ok (.aload_n 0, 1) := by decide +kernel
theorem dX8_treeLine_35 : decode cX8_treeLine 35 = .ok (.getfield 182, 3) := by decide +kernel
theorem dX8_treeLine_38 : decode cX8_treeLine 38 = .ok (.ifCond .ne 75, 3) := by decide +kernel
theorem dX8_treeLine_41 : decode cX8_treeLine 41 = .ok (.aload_n 0, 1) := by decide +kernel
theorem dX8_treeLine_42 : decode cX8_treeLine 42 = .ok (.getfield 170, 3) := by decide +kernel
theorem dX8_treeLine_45 : decode cX8_treeLine 45 = .ok (.iconst 2, 1) := by decide +kernel
theorem dX8_treeLine_46 : decode cX8_treeLine 46 = .ok (.if_icmp .ne 67, 3) := by decide +kernel
theorem dX8_treeLine_49 : decode cX8_treeLine 49 = .ok (.aload_n 0, 1) := by decide +kernel
theorem dX8_treeLine_50 : decode cX8_treeLine 50 = .ok (.iconst 0, 1) := by decide +kernel
theorem dX8_treeLine_51 : decode cX8_treeLine 51 = .ok (.sipush 255, 3) := by decide +kernel
theorem dX8_treeLine_54 : decode cX8_treeLine 54 = .ok (.invokevirtual 202, 3) := by decide +kernel
theorem dX8_treeLine_57 : decode cX8_treeLine 57 = .ok (.istore_n 3, 1) := by decide +kernel
theorem dX8_treeLine_58 : decode cX8_treeLine 58 = .ok (.aload_n 0, 1) := by decide +kernel
theorem dX8_treeLine_59 : decode cX8_treeLine 59 = .ok (.getfield 38, 3) := by decide +kernel
theorem dX8_treeLine_62 : decode cX8_treeLine 62 = .ok (.aload_n 0, 1) := by decide +kernel
theorem dX8_treeLine_63 : decode cX8_treeLine 63 = .ok (.getfield 130, 3) := by decide +kernel
theorem dX8_treeLine_66 : decode cX8_treeLine 66 = .ok (.iload_n 3, 1) := by decide +kernel
theorem dX8_treeLine_67 : decode cX8_treeLine 67 = .ok (.iastore, 1) := by decide +kernel
theorem dX8_treeLine_68 : decode cX8_treeLine 68 = .ok (.aload_n 0, 1) := by decide +kernel
theorem dX8_treeLine_69 : decode cX8_treeLine 69 = .ok (.dup, 1) := by decide +kernel
theorem dX8_treeLine_70 : decode cX8_treeLine 70 = .ok (.getfield 130, 3) := by decide +kernel
theorem dX8_treeLine_73 : decode cX8_treeLine 73 = .ok (.iconst 1, 1) := by decide +kernel
theorem dX8_treeLine_74 : decode cX8_treeLine 74 = .ok (.iadd, 1) := by decide +kernel
theorem dX8_treeLine_75 : decode cX8_treeLine 75 = .ok (.putfield 130, 3) := by decide +kernel
theorem dX8_treeLine_78 : decode cX8_treeLine 78 = .ok (.aload_n 0, 1) := by decide +kernel
theorem dX8_treeLine_79 : decode cX8_treeLine 79 = .ok (.invokevirtual 243, 3) := by decide +kernel
theorem dX8_treeLine_82 : decode cX8_treeLine 82 = .ok (.istore_n 2, 1) := by decide +kernel
theorem dX8_treeLine_83 : decode cX8_treeLine 83 = .ok (.aload_n 0, 1) := by decide +kernel
theorem dX8_treeLine_84 : decode cX8_treeLine 84 = .ok (.iload_n 2, 1) := by decide +kernel
theorem dX8_treeLine_85 : decode cX8_treeLine 85 = .ok (.iconst (-1), 1) := by decide +kernel
theorem dX8_treeLine_86 : decode cX8_treeLine 86 = .ok (.if_icmp .eq 15, 3) := by decide +kernel
theorem dX8_treeLine_89 : decode cX8_treeLine 89 = .ok (.iload_n 2, 1) := by decide +kernel
theorem dX8_treeLine_90 : decode cX8_treeLine 90 = .ok (.aload_n 0, 1) := by decide +kernel
theorem dX8_treeLine_91 : decode cX8_treeLine 91 = .ok (.getfield 130, 3) := by decide +kernel
theorem dX8_treeLine_94 : decode cX8_treeLine 94 = .ok (.if_icmp .ge 7, 3) := by decide +kernel
theorem dX8_treeLine_97 : decode cX8_treeLine 97 = .ok (.iconst 1, 1) := by decide +kernel
theorem dX8_treeLine_98 : decode cX8_treeLine 98 = .ok (.goto 4, 3) := by decide +kernel
theorem dX8_treeLine_101 : decode cX8_treeLine 101 = .ok (.iconst 0, 1) := by decide +kernel
theorem dX8_treeLine_102 : decode cX8_treeLine 102 = .ok (.iconst 5, 1) := by decide +kernel
theorem dX8_treeLine_103 : decode cX8_treeLine 103 = .ok (.invokevirtual 215, 3) := by decide +kernel
theorem dX8_treeLine_106 : decode cX8_treeLine 106 = .ok (.aload_n 0, 1) := by decide +kernel
theorem dX8_treeLine_107 : decode cX8_treeLine 107 = .ok (.invokevirtual 205, 3) := by decide +kernel
theorem dX8_treeLine_110 : decode cX8_treeLine 110 = .ok (.goto (-76), 3) := by decide +kernel
theorem dX8_treeLine_113 : decode cX8_treeLine 113 = .ok (.aload_n 0, 1) := by decide +kernel
theorem dX8_treeLine_114 : decode cX8_treeLine 114 = .ok (.aload_n 0, 1) := by decide +kernel
theorem dX8_treeLine_115 : decode cX8_treeLine 115 = .ok (.getfield 182, 3) := by decide +kernel
theorem dX8_treeLine_118 : decode cX8_treeLine 118 = .ok (.ifCond .ne 12, 3) := by decide +kernel
theorem dX8_treeLine_121 : decode cX8_treeLine 121 = .ok (.iload_n 2, 1) := by decide +kernel
theorem dX8_treeLine_122 : decode cX8_treeLine 122 = .ok (.iconst (-1), 1) := by decide +kernel
theorem dX8_treeLine_123 : decode cX8_treeLine 123 = .ok (.if_icmp .eq 7, 3) := by decide +kernel
theorem dX8_treeLine_126 : decode cX8_treeLine 126 = .ok (.iconst 1, 1) := by decide +kernel
theorem dX8_treeLine_127 : decode cX8_treeLine 127 = .ok (.goto 4, 3) := by decide +kernel
theorem dX8_treeLine_130 : decode cX8_treeLine 130 = .ok (.iconst 0, 1) := by decide +kernel
theorem dX8_treeLine_131 : decode cX8_treeLine 131 = .ok (.aload_n 0, 1) := by decide +kernel
theorem dX8_treeLine_132 : decode cX8_treeLine 132 = .ok (.getfield 170, 3) := by decide +kernel
theorem dX8_treeLine_135 : decode cX8_treeLine 135 = .ok (.iconst 3, 1) := by decide +kernel
theorem dX8_treeLine_136 : decode cX8_treeLine 136 = .ok (.if_icmp .eq 10, 3) := by decide +kernel
theorem dX8_treeLine_139 : decode cX8_treeLine 139 = .ok (.aload_n 0, 1) := by decide +kernel
theorem dX8_treeLine_140 : decode cX8_treeLine 140 = .ok (.getfield 170, 3) := by decide +kernel
theorem dX8_treeLine_143 : decode cX8_treeLine 143 = .ok (.ifCond .ne 7, 3) := by decide +kernel
theorem dX8_treeLine_146 : decode cX8_treeLine 146 = .ok (.iconst 5, 1) := by decide +kernel
theorem dX8_treeLine_147 : decode cX8_treeLine 147 = .ok (.goto 4, 3) := by decide +kernel
theorem dX8_treeLine_150 : decode cX8_treeLine 150 = .ok (.iconst 1, 1) := by decide +kernel
theorem dX8_treeLine_151 : decode cX8_treeLine 151 = .ok (.invokevirtual 215, 3) := by decide +kernel
theorem dX8_treeLine_154 : decode cX8_treeLine 154 = .ok (.aload_n 0, 1) := by decide +kernel
theorem dX8_treeLine_155 : decode cX8_treeLine 155 = .ok (.getfield 182, 3) := by decide +kernel
theorem dX8_treeLine_158 : decode cX8_treeLine 158 = .ok (.ifCond .ne 8, 3) := by decide +kernel
theorem dX8_treeLine_161 : decode cX8_treeLine 161 = .ok (.aload_n 0, 1) := by decide +kernel
theorem dX8_treeLine_162 : decode cX8_treeLine 162 = .ok (.iload_n 1, 1) := by decide +kernel
theorem dX8_treeLine_163 : decode cX8_treeLine 163 = .ok (.invokevirtual 240, 3) := by decide +kernel
theorem dX8_treeLine_166 : decode cX8_treeLine 166 = .ok (.return_, 1) := by decide +kernel
theorem dX8_line_0 : decode cX8_line 0 = .ok (.aload_n 0, 1) := by decide +kernel
theorem dX8_line_1 : decode cX8_line 1 = .ok (.ldc 246, 2) := by decide +kernel
theorem dX8_line_3 : decode cX8_line 3 = .ok (.invokevirtual 248, 3) := by decide +kernel
theorem dX8_line_6 : decode cX8_line 6 = .ok (.ifCond .eq 10, 3) := by decide +kernel
theorem dX8_line_9 : decode cX8_line 9 = .ok (.aload_n 0, 1) := by decide +kernel
theorem dX8_line_10 : decode cX8_line 10 = .ok (.invokevirtual 252, 3) := by decide +kernel
theorem dX8_line_13 : decode cX8_line 13 = .ok (.goto 95, 3) := by decide +kernel
theorem dX8_line_16 : decode cX8_line 16 = .ok (.aload_n 0, 1) := by decide +kernel
theorem dX8_line_17 : decode cX8_line 17 = .ok (.ldc 255, 2) := by decide +kernel
theorem dX8_line_19 : decode cX8_line 19 = .ok (.invokevirtual 248, 3) := by decide +kernel
theorem dX8_line_22 : decode cX8_line 22 = .ok (.ifCond .eq 11, 3) := by decide +kernel
theorem dX8_line_25 : decode cX8_line 25 = .ok (.aload_n 0, 1) := by decide +kernel
theorem dX8_line_26 : decode cX8_line 26 = .ok (.iconst 1, 1) := by decide +kernel
theorem dX8_line_27 : decode cX8_line 27 = .ok (.invokevirtual 257, 3) := by decide +kernel
theorem dX8_line_30 : decode cX8_line 30 = .ok (.goto 78, 3) := by decide +kernel
theorem dX8_line_33 : decode cX8_line 33 = .ok (.aload_n 0, 1) := by decide +kernel
theorem dX8_line_34 : decode cX8_line 34 = .ok (.ldc_w 260, 3) := by decide +kernel
theorem dX8_line_37 : decode cX8_line 37 = .ok (.invokevirtual 248, 3) := by decide +kernel
theorem dX8_line_40 : decode cX8_line 40 = .ok (.ifCond .eq 11, 3) := by decide +kernel
theorem dX8_line_43 : decode cX8_line 43 = .ok (.aload_n 0, 1) := by decide +kernel
theorem dX8_line_44 : decode cX8_line 44 = .ok (.iconst 0, 1) := by decide +kernel
theorem dX8_line_45 : decode cX8_line 45 = .ok (.invokevirtual 257, 3) := by decide +kernel
theorem dX8_line_48 : decode cX8_line 48 = .ok (.goto 60, 3) := by decide +kernel
theorem dX8_line_51 : decode cX8_line 51 = .ok (.aload_n 0, 1) := by decide +kernel
theorem dX8_line_52 : decode cX8_line 52 = .ok (.ldc_w 262, 3) := by decide +kernel
theorem dX8_line_55 : decode cX8_line 55 = .ok (.invokevirtual 248, 3) := by decide +kernel
theorem dX8_line_58 : decode cX8_line 58 = .ok (.ifCond .eq 11, 3) := by decide +kernel
theorem dX8_line_61 : decode cX8_line 61 = .ok (.aload_n 0, 1) := by decide +kernel
theorem dX8_line_62 : decode cX8_line 62 = .ok (.iconst 2, 1) := by decide +kernel
theorem dX8_line_63 : decode cX8_line 63 = .ok (.invokevirtual 257, 3) := by decide +kernel
theorem dX8_line_66 : decode cX8_line 66 = .ok (.goto 42, 3) := by decide +kernel
theorem dX8_line_69 : decode cX8_line 69 = .ok (.aload_n 0, 1) := by decide +kernel
theorem dX8_line_70 : decode cX8_line 70 = .ok (.ldc_w 264, 3) := by decide +kernel
theorem dX8_line_73 : decode cX8_line 73 = .ok (.invokevirtual 248, 3) := by decide +kernel
theorem dX8_line_76 : decode cX8_line 76 = .ok (.ifCond .eq 10, 3) := by decide +kernel
theorem dX8_line_79 : decode cX8_line 79 = .ok (.aload_n 0, 1) := by decide +kernel
theorem dX8_line_80 : decode cX8_line 80 = .ok (.invokevirtual 266, 3) := by decide +kernel
theorem dX8_line_83 : decode cX8_line 83 = .ok (.goto 25, 3) := by decide +kernel
theorem dX8_line_86 : decode cX8_line 86 = .ok (.aload_n 0, 1) := by decide +kernel
theorem dX8_line_87 : decode cX8_line 87 = .ok (.ldc_w 269, 3) := by decide +kernel
theorem dX8_line_90 : decode cX8_line 90 = .ok (.invokevirtual 248, 3) := by decide +kernel
theorem dX8_line_93 : decode cX8_line 93 = .ok (.ifCond .eq 10, 3) := by decide +kernel
theorem dX8_line_96 : decode cX8_line 96 = .ok (.aload_n 0, 1) := by decide +kernel
theorem dX8_line_97 : decode cX8_line 97 = .ok (.invokevirtual 270, 3) := by decide +kernel
theorem dX8_line_100 : decode cX8_line 100 = .ok (.goto 8, 3) := by decide +kernel
theorem dX8_line_103 : decode cX8_line 103 = .ok (.aload_n 0, 1) := by decide +kernel
theorem dX8_line_104 : decode cX8_line 104 = .ok (.iconst 1, 1) := by decide +kernel
theorem dX8_line_105 : decode cX8_line 105 = .ok (.invokevirtual 188, 3) := by decide +kernel
theorem dX8_line_108 : decode cX8_line 108 = .ok (.return_, 1) := by decide +kernel
theorem dX8_reads_0 : decode cX8_reads 0 = .ok (.aload_n 0, 1) := by decide +kernel
theorem dX8_reads_1 : decode cX8_reads 1 = .ok (.iload_n 1, 1) := by decide +kernel
theorem dX8_reads_2 : decode cX8_reads 2 = .ok (.putfield 158, 3) := by decide +kernel
theorem dX8_reads_5 : decode cX8_reads 5 = .ok (.aload_n 0, 1) := by decide +kernel
theorem dX8_reads_6 : decode cX8_reads 6 = .ok (.iconst 0, 1) := by decide +kernel
theorem dX8_reads_7 : decode cX8_reads 7 = .ok (.putfield 161, 3) := by decide +kernel
theorem dX8_reads_10 : decode cX8_reads 10 = .ok (.aload_n 0, 1) := by decide +kernel
theorem dX8_reads_11 : decode cX8_reads 11 = .ok (.iconst 0, 1) := by decide +kernel
theorem dX8_reads_12 : decode cX8_reads 12 = .ok (.putfield 182, 3) := by decide +kernel
theorem dX8_reads_15 : decode cX8_reads 15 = .ok (.aload_n 0, 1) := by decide +kernel
theorem dX8_reads_16 : decode cX8_reads 16 = .ok (.iconst (-1), 1) := by decide +kernel
theorem dX8_reads_17 : decode cX8_reads 17 = .ok (.putfield 185, 3) := by decide +kernel
theorem dX8_reads_20 : decode cX8_reads 20 = .ok (.aload_n 0, 1) := by decide +kernel
theorem dX8_reads_21 : decode cX8_reads 21 = .ok (.iconst 0, 1) := by decide +kernel
theorem dX8_reads_22 : decode cX8_reads 22 = .ok (.putfield 208, 3) := by decide +kernel
theorem dX8_reads_25 : decode cX8_reads 25 = .ok (.aload_n 0, 1) := by decide +kernel
theorem dX8_reads_26 : decode cX8_reads 26 = .ok (.invokevirtual 191, 3) := by decide +kernel
theorem dX8_reads_29 : decode cX8_reads 29 = .ok (.aload_n 0, 1) := by decide +kernel
theorem dX8_reads_30 : decode cX8_reads 30 = .ok (.aload_n 0, 1) := by decide +kernel
theorem dX8_reads_31 : decode cX8_reads 31 = .ok (.ldc_w 273, 3) := by decide +kernel
theorem dX8_reads_34 : decode cX8_reads 34 = .ok (.invokevirtual 248, 3) := by decide +kernel
theorem dX8_reads_37 : decode cX8_reads 37 = .ok (.ifCond .ne 7, 3) := by decide +kernel
theorem dX8_reads_40 : decode cX8_reads 40 = .ok (.iconst 1, 1) := by decide +kernel
theorem dX8_reads_41 : decode cX8_reads 41 = .ok (.goto 4, 3) := by decide +kernel
theorem dX8_reads_44 : decode cX8_reads 44 = .ok (.iconst 0, 1) := by decide +kernel
theorem dX8_reads_45 : decode cX8_reads 45 = .ok (.iconst 1, 1) := by decide +kernel
theorem dX8_reads_46 : decode cX8_reads 46 = .ok (.invokevirtual 215, 3) := by decide +kernel
theorem dX8_reads_49 : decode cX8_reads 49 = .ok (.aload_n 0, 1) := by decide +kernel
theorem dX8_reads_50 : decode cX8_reads 50 = .ok (.invokevirtual 205, 3) := by decide +kernel
theorem dX8_reads_53 : decode cX8_reads 53 = .ok (.aload_n 0, 1) := by decide +kernel
theorem dX8_reads_54 : decode cX8_reads 54 = .ok (.aload_n 0, 1) := by decide +kernel
theorem dX8_reads_55 : decode cX8_reads 55 = .ok (.iconst 1, 1) := by decide +kernel
theorem dX8_reads_56 : decode cX8_reads 56 = .ok (.iconst 4, 1) := by decide +kernel
theorem dX8_reads_57 : decode cX8_reads 57 = .ok (.invokevirtual 228, 3) := by decide +kernel
theorem dX8_reads_60 : decode cX8_reads 60 = .ok (.putfield 83, 3) := by decide +kernel
theorem dX8_reads_63 : decode cX8_reads 63 = .ok (.aload_n 0, 1) := by decide +kernel
theorem dX8_reads_64 : decode cX8_reads 64 = .ok (.getfield 182, 3) := by decide +kernel
theorem dX8_reads_67 : decode cX8_reads 67 = .ok (.ifCond .ne 22, 3) := by decide +kernel
theorem dX8_reads_70 : decode cX8_reads 70 = .ok (.aload_n 0, 1) := by decide +kernel
theorem dX8_reads_71 : decode cX8_reads 71 = .ok (.getfield 170, 3) := by decide +kernel
theorem dX8_reads_74 : decode cX8_reads 74 = .ok (.iconst 3, 1) := by decide +kernel
theorem dX8_reads_75 : decode cX8_reads 75 = .ok (.if_icmp .ne 14, 3) := by decide +kernel
theorem dX8_reads_78 : decode cX8_reads 78 = .ok (.aload_n 0, 1) := by decide +kernel
theorem dX8_reads_79 : decode cX8_reads 79 = .ok (.invokevirtual 191, 3) := by decide +kernel
theorem dX8_reads_82 : decode cX8_reads 82 = .ok (.aload_n 0, 1) := by decide +kernel
theorem dX8_reads_83 : decode cX8_reads 83 = .ok (.invokevirtual 274, 3) := by decide +kernel
theorem dX8_reads_86 : decode cX8_reads 86 = .ok (.goto (-23), 3) := by decide +kernel
theorem dX8_reads_89 : decode cX8_reads 89 = .ok (.aload_n 0, 1) := by decide +kernel
theorem dX8_reads_90 : decode cX8_reads 90 = .ok (.aload_n 0, 1) := by decide +kernel
theorem dX8_reads_91 : decode cX8_reads 91 = .ok (.getfield 170, 3) := by decide +kernel
theorem dX8_reads_94 : decode cX8_reads 94 = .ok (.ifCond .eq 7, 3) := by decide +kernel
theorem dX8_reads_97 : decode cX8_reads 97 = .ok (.iconst 1, 1) := by decide +kernel
theorem dX8_reads_98 : decode cX8_reads 98 = .ok (.goto 4, 3) := by decide +kernel
theorem dX8_reads_101 : decode cX8_reads 101 = .ok (.iconst 0, 1) := by decide +kernel
theorem dX8_reads_102 : decode cX8_reads 102 = .ok (.iconst 1, 1) := by decide +kernel
theorem dX8_reads_103 : decode cX8_reads 103 = .ok (.invokevirtual 215, 3) := by decide +kernel
theorem dX8_reads_106 : decode cX8_reads 106 = .ok (.return_, 1) := by decide +kernel
theorem dX8_load_0 : decode cX8_load 0 = .ok (.aload_n 0, 1) := by decide +kernel
theorem dX8_load_1 : decode cX8_load 1 = .ok (.iconst 0, 1) := by decide +kernel
theorem dX8_load_2 : decode cX8_load 2 = .ok (.putfield 57, 3) := by decide +kernel
theorem dX8_load_5 : decode cX8_load 5 = .ok (.aload_n 0, 1) := by decide +kernel
theorem dX8_load_6 : decode cX8_load 6 = .ok (.iload_n 1, 1) := by decide +kernel
theorem dX8_load_7 : decode cX8_load 7 = .ok (.iconst 0, 1) := by decide +kernel
theorem dX8_load_8 : decode cX8_load 8 = .ok (.aload_n 0, 1) := by decide +kernel
theorem dX8_load_9 : decode cX8_load 9 = .ok (.getfield 152, 3) := by decide +kernel
theorem dX8_load_12 : decode cX8_load 12 = .ok (.invokestatic 71, 3) := by decide +kernel
theorem dX8_load_15 : decode cX8_load 15 = .ok (.ifCond .ne 7, 3) := by decide +kernel
theorem dX8_load_18 : decode cX8_load 18 = .ok (.iconst 1, 1) := by decide +kernel
theorem dX8_load_19 : decode cX8_load 19 = .ok (.goto 4, 3) := by decide +kernel
theorem dX8_load_22 : decode cX8_load 22 = .ok (.iconst 0, 1) := by decide +kernel
theorem dX8_load_23 : decode cX8_load 23 = .ok (.iconst 1, 1) := by decide +kernel
theorem dX8_load_24 : decode cX8_load 24 = .ok (.invokevirtual 64, 3) := by decide +kernel
theorem dX8_load_27 : decode cX8_load 27 = .ok (.ifCond .eq 5, 3) := by decide +kernel
theorem dX8_load_30 : decode cX8_load 30 = .ok (.iconst 0, 1) := by decide +kernel
theorem dX8_load_31 : decode cX8_load 31 = .ok (.ireturn, 1) := by decide +kernel
theorem dX8_load_32 : decode cX8_load 32 = .ok (.aload_n 0, 1) := by decide +kernel
theorem dX8_load_33 : decode cX8_load 33 = .ok (.iconst 0, 1) := by decide +kernel
theorem dX8_load_34 : decode cX8_load 34 = .ok (.putfield 152, 3) := by decide +kernel
theorem dX8_load_37 : decode cX8_load 37 = .ok (.aload_n 0, 1) := by decide +kernel
theorem dX8_load_38 : decode cX8_load 38 = .ok (.iload_n 1, 1) := by decide +kernel
theorem dX8_load_39 : decode cX8_load 39 = .ok (.invokevirtual 277, 3) := by decide +kernel
theorem dX8_load_42 : decode cX8_load 42 = .ok (.aload_n 0, 1) := by decide +kernel
theorem dX8_load_43 : decode cX8_load 43 = .ok (.aload_n 0, 1) := by decide +kernel
theorem dX8_load_44 : decode cX8_load 44 = .ok (.getfield 182, 3) := by decide +kernel
theorem dX8_load_47 : decode cX8_load 47 = .ok (.putfield 155, 3) := by decide +kernel
theorem dX8_load_50 : decode cX8_load 50 = .ok (.aload_n 0, 1) := by decide +kernel
theorem dX8_load_51 : decode cX8_load 51 = .ok (.aload_n 0, 1) := by decide +kernel
theorem dX8_load_52 : decode cX8_load 52 = .ok (.getfield 182, 3) := by decide +kernel
theorem dX8_load_55 : decode cX8_load 55 = .ok (.ifCond .ne 7, 3) := by decide +kernel
theorem dX8_load_58 : decode cX8_load 58 = .ok (.iconst (-1), 1) := by decide +kernel
theorem dX8_load_59 : decode cX8_load 59 = .ok (.goto 7, 3) := by decide +kernel
theorem dX8_load_62 : decode cX8_load 62 = .ok (.aload_n 0, 1) := by decide +kernel
theorem dX8_load_63 : decode cX8_load 63 = .ok (.getfield 185, 3) := by decide +kernel
theorem dX8_load_66 : decode cX8_load 66 = .ok (.putfield 44, 3) := by decide +kernel
theorem dX8_load_69 : decode cX8_load 69 = .ok (.aload_n 0, 1) := by decide +kernel
theorem dX8_load_70 : decode cX8_load 70 = .ok (.aload_n 0, 1) := by decide +kernel
theorem dX8_load_71 : decode cX8_load 71 = .ok (.getfield 182, 3) := by decide +kernel
theorem dX8_load_74 : decode cX8_load 74 = .ok (.ifCond .eq 7, 3) := by decide +kernel
theorem dX8_load_77 : decode cX8_load 77 = .ok (.iconst 1, 1) := by decide +kernel
theorem dX8_load_78 : decode cX8_load 78 = .ok (.goto 4, 3) := by decide +kernel
theorem dX8_load_81 : decode cX8_load 81 = .ok (.iconst 0, 1) := by decide +kernel
theorem dX8_load_82 : decode cX8_load 82 = .ok (.iconst 2, 1) := by decide +kernel
theorem dX8_load_83 : decode cX8_load 83 = .ok (.invokevirtual 64, 3) := by decide +kernel
theorem dX8_load_86 : decode cX8_load 86 = .ok (.ifCond .eq 5, 3) := by decide +kernel
theorem dX8_load_89 : decode cX8_load 89 = .ok (.iconst 0, 1) := by decide +kernel
theorem dX8_load_90 : decode cX8_load 90 = .ok (.ireturn, 1) := by decide +kernel
theorem dX8_load_91 : decode cX8_load 91 = .ok (.aload_n 0, 1) := by decide +kernel
theorem dX8_load_92 : decode cX8_load 92 = .ok (.iconst 1, 1) := by decide +kernel
theorem dX8_load_93 : decode cX8_load 93 = .ok (.putfield 60, 3) := by decide +kernel
theorem dX8_load_96 : decode cX8_load 96 = .ok (.aload_n 0, 1) := by decide +kernel
theorem dX8_load_97 : decode cX8_load 97 = .ok (.aload_n 0, 1) := by decide +kernel
theorem dX8_load_98 : decode cX8_load 98 = .ok (.getfield 83, 3) := by decide +kernel
theorem dX8_load_101 : decode cX8_load 101 = .ok (.putfield 114, 3) := by decide +kernel
theorem dX8_load_104 : decode cX8_load 104 = .ok (.aload_n 0, 1) := by decide +kernel
theorem dX8_load_105 : decode cX8_load 105 = .ok (.aload_n 0, 1) := by decide +kernel
theorem dX8_load_106 : decode cX8_load 106 = .ok (.getfield 208, 3) := by decide +kernel
theorem dX8_load_109 : decode cX8_load 109 = .ok (.putfield 68, 3) := by decide +kernel
theorem dX8_load_112 : decode cX8_load 112 = .ok (.iconst 0, 1) := by decide +kernel
theorem dX8_load_113 : decode cX8_load 113 = .ok (.istore_n 2, 1) := by decide +kernel
theorem dX8_load_114 : decode cX8_load 114 = .ok (.iload_n 2, 1) := by decide +kernel
theorem dX8_load_115 : decode cX8_load 115 = .ok (.bipush 36, 2) := by decide +kernel
theorem dX8_load_117 : decode cX8_load 117 = .ok (.if_icmp .ge 21, 3) := by decide +kernel
theorem dX8_load_120 : decode cX8_load 120 = .ok (.aload_n 0, 1) := by decide +kernel
theorem dX8_load_121 : decode cX8_load 121 = .ok (.getfield 7, 3) := by decide +kernel
theorem dX8_load_124 : decode cX8_load 124 = .ok (.iload_n 2, 1) := by decide +kernel
theorem dX8_load_125 : decode cX8_load 125 = .ok (.aload_n 0, 1) := by decide +kernel
theorem dX8_load_126 : decode cX8_load 126 = .ok (.getfield 48, 3) := by decide +kernel
theorem dX8_load_129 : decode cX8_load 129 = .ok (.iload_n 2, 1) := by decide +kernel
theorem dX8_load_130 : decode cX8_load 130 = .ok (.iaload, 1) := by decide +kernel
theorem dX8_load_131 : decode cX8_load 131 = .ok (.iastore, 1) := by decide +kernel
theorem dX8_load_132 : decode cX8_load 132 = .ok (.iinc 2 1, 3) := by decide +kernel
theorem dX8_load_135 : decode cX8_load 135 = .ok (.goto (-21), 3) := by decide +kernel
theorem dX8_load_138 : decode cX8_load 138 = .ok (.iconst 0, 1) := by decide +kernel
theorem dX8_load_139 : decode cX8_load 139 = .ok (.istore_n 2, 1) := by decide +kernel
theorem dX8_load_140 : decode cX8_load 140 = .ok (.iload_n 2, 1) := by decide +kernel
theorem dX8_load_141 : decode cX8_load 141 = .ok (.sipush 1536, 3) := by decide +kernel
theorem dX8_load_144 : decode cX8_load 144 = .ok (.if_icmp .ge 37, 3) := by decide +kernel
theorem dX8_load_147 : decode cX8_load 147 = .ok (.aload_n 0, 1) := by decide +kernel
theorem dX8_load_148 : decode cX8_load 148 = .ok (.getfield 13, 3) := by decide +kernel
theorem dX8_load_151 : decode cX8_load 151 = .ok (.iload_n 2, 1) := by decide +kernel
theorem dX8_load_152 : decode cX8_load 152 = .ok (.iload_n 2, 1) := by decide +kernel
theorem dX8_load_153 : decode cX8_load 153 = .ok (.sipush 256, 3) := by decide +kernel
theorem dX8_load_156 : decode cX8_load 156 = .ok (.aload_n 0, 1) := by decide +kernel
theorem dX8_load_157 : decode cX8_load 157 = .ok (.getfield 68, 3) := by decide +kernel
theorem dX8_load_160 : decode cX8_load 160 = .ok (.imul, 1) := by decide +kernel
theorem dX8_load_161 : decode cX8_load 161 = .ok (.if_icmp .ge 12, 3) := by decide +kernel
theorem dX8_load_164 : decode cX8_load 164 = .ok (.aload_n 0, 1) := by decide +kernel
theorem dX8_load_165 : decode cX8_load 165 = .ok (.getfield 51, 3) := by decide +kernel
theorem dX8_load_168 : decode cX8_load 168 = .ok (.iload_n 2, 1) := by decide +kernel
theorem dX8_load_169 : decode cX8_load 169 = .ok (.iaload, 1) := by decide +kernel
theorem dX8_load_170 : decode cX8_load 170 = .ok (.goto 4, 3) := by decide +kernel
theorem dX8_load_173 : decode cX8_load 173 = .ok (.iconst 0, 1) := by decide +kernel
theorem dX8_load_174 : decode cX8_load 174 = .ok (.iastore, 1) := by decide +kernel
theorem dX8_load_175 : decode cX8_load 175 = .ok (.iinc 2 1, 3) := by decide +kernel
theorem dX8_load_178 : decode cX8_load 178 = .ok (.goto (-38), 3) := by decide +kernel
theorem dX8_load_181 : decode cX8_load 181 = .ok (.aload_n 0, 1) := by decide +kernel
theorem dX8_load_182 : decode cX8_load 182 = .ok (.iconst 0, 1) := by decide +kernel
theorem dX8_load_183 : decode cX8_load 183 = .ok (.putfield 280, 3) := by decide +kernel
theorem dX8_load_186 : decode cX8_load 186 = .ok (.aload_n 0, 1) := by decide +kernel
theorem dX8_load_187 : decode cX8_load 187 = .ok (.getfield 19, 3) := by decide +kernel
theorem dX8_load_190 : decode cX8_load 190 = .ok (.iconst 0, 1) := by decide +kernel
theorem dX8_load_191 : decode cX8_load 191 = .ok (.iconst 0, 1) := by decide +kernel
theorem dX8_load_192 : decode cX8_load 192 = .ok (.bastore, 1) := by decide +kernel
theorem dX8_load_193 : decode cX8_load 193 = .ok (.aload_n 0, 1) := by decide +kernel
theorem dX8_load_194 : decode cX8_load 194 = .ok (.getfield 19, 3) := by decide +kernel
theorem dX8_load_197 : decode cX8_load 197 = .ok (.iconst 1, 1) := by decide +kernel
theorem dX8_load_198 : decode cX8_load 198 = .ok (.iconst 0, 1) := by decide +kernel
theorem dX8_load_199 : decode cX8_load 199 = .ok (.bastore, 1) := by decide +kernel
theorem dX8_load_200 : decode cX8_load 200 = .ok (.aload_n 0, 1) := by decide +kernel
theorem dX8_load_201 : decode cX8_load 201 = .ok (.getfield 68, 3) := by decide +kernel
theorem dX8_load_204 : decode cX8_load 204 = .ok (.ireturn, 1) := by decide +kernel
theorem dX8_find_0 : decode cX8_find 0 = .ok (.aload_n 0, 1) := by decide +kernel
theorem dX8_find_1 : decode cX8_find 1 = .ok (.invokevirtual 75, 3) := by decide +kernel
theorem dX8_find_4 : decode cX8_find 4 = .ok (.ifCond .ne 28, 3) := by decide +kernel
theorem dX8_find_7 : decode cX8_find 7 = .ok (.aload_n 0, 1) := by decide +kernel
theorem dX8_find_8 : decode cX8_find 8 = .ok (.iload_n 1, 1) := by decide +kernel
theorem dX8_find_9 : decode cX8_find 9 = .ok (.iconst 0, 1) := by decide +kernel
theorem dX8_find_10 : decode cX8_find 10 = .ok (.aload_n 0, 1) := by decide +kernel
theorem dX8_find_11 : decode cX8_find 11 = .ok (.getfield 152, 3) := by decide +kernel
theorem dX8_find_14 : decode cX8_find 14 = .ok (.invokestatic 71, 3) := by decide +kernel
theorem dX8_find_17 : decode cX8_find 17 = .ok (.ifCond .ne 7, 3) := by decide +kernel
theorem dX8_find_20 : decode cX8_find 20 = .ok (.iconst 1, 1) := by decide +kernel
theorem dX8_find_21 : decode cX8_find 21 = .ok (.goto 4, 3) := by decide +kernel
theorem dX8_find_24 : decode cX8_find 24 = .ok (.iconst 0, 1) := by decide +kernel
theorem dX8_find_25 : decode cX8_find 25 = .ok (.iconst 2, 1) := by decide +kernel
theorem dX8_find_26 : decode cX8_find 26 = .ok (.invokevirtual 64, 3) := by decide +kernel
theorem dX8_find_29 : decode cX8_find 29 = .ok (.ifCond .eq 5, 3) := by decide +kernel
theorem dX8_find_32 : decode cX8_find 32 = .ok (.iconst 0, 1) := by decide +kernel
theorem dX8_find_33 : decode cX8_find 33 = .ok (.ireturn, 1) := by decide +kernel
theorem dX8_find_34 : decode cX8_find 34 = .ok (.aload_n 0, 1) := by decide +kernel
theorem dX8_find_35 : decode cX8_find 35 = .ok (.iconst 0, 1) := by decide +kernel
theorem dX8_find_36 : decode cX8_find 36 = .ok (.putfield 152, 3) := by decide +kernel
theorem dX8_find_39 : decode cX8_find 39 = .ok (.iconst 0, 1) := by decide +kernel
theorem dX8_find_40 : decode cX8_find 40 = .ok (.istore_n 2, 1) := by decide +kernel
theorem dX8_find_41 : decode cX8_find 41 = .ok (.iload_n 2, 1) := by decide +kernel
theorem dX8_find_42 : decode cX8_find 42 = .ok (.aload_n 0, 1) := by decide +kernel
theorem dX8_find_43 : decode cX8_find 43 = .ok (.getfield 68, 3) := by decide +kernel
theorem dX8_find_46 : decode cX8_find 46 = .ok (.if_icmp .ge 28, 3) := by decide +kernel
theorem dX8_find_49 : decode cX8_find 49 = .ok (.aload_n 0, 1) := by decide +kernel
theorem dX8_find_50 : decode cX8_find 50 = .ok (.getfield 7, 3) := by decide +kernel
theorem dX8_find_53 : decode cX8_find 53 = .ok (.iload_n 2, 1) := by decide +kernel
theorem dX8_find_54 : decode cX8_find 54 = .ok (.aload_n 0, 1) := by decide +kernel
theorem dX8_find_55 : decode cX8_find 55 = .ok (.getfield 41, 3) := by decide +kernel
theorem dX8_find_58 : decode cX8_find 58 = .ok (.iconst 0, 1) := by decide +kernel
theorem dX8_find_59 : decode cX8_find 59 = .ok (.iload_n 1, 1) := by decide +kernel
theorem dX8_find_60 : decode cX8_find 60 = .ok (.invokestatic 211, 3) := by decide +kernel
theorem dX8_find_63 : decode cX8_find 63 = .ok (.ifCond .eq 5, 3) := by decide +kernel
theorem dX8_find_66 : decode cX8_find 66 = .ok (.iload_n 2, 1) := by decide +kernel
theorem dX8_find_67 : decode cX8_find 67 = .ok (.ireturn, 1) := by decide +kernel
theorem dX8_find_68 : decode cX8_find 68 = .ok (.iinc 2 1, 3) := by decide +kernel
theorem dX8_find_71 : decode cX8_find 71 = .ok (.goto (-30), 3) := by decide +kernel
theorem dX8_find_74 : decode cX8_find 74 = .ok (.iconst (-1), 1) := by decide +kernel
theorem dX8_find_75 : decode cX8_find 75 = .ok (.ireturn, 1) := by decide +kernel
theorem dX8_readsBuffer_0 : decode cX8_readsBuffer 0 = .ok (.aload_n 0, 1) := by decide +kernel
theorem dX8_readsBuffer_1 : decode cX8_readsBuffer 1 = .ok (.aload_n 0, 1) := by decide +kernel
theorem dX8_readsBuffer_2 : decode cX8_readsBuffer 2 = .ok (.getfield 114, 3) := by decide +kernel
theorem dX8_readsBuffer_5 : decode cX8_readsBuffer 5 = .ok (.putfield 83, 3) := by decide +kernel
theorem dX8_readsBuffer_8 : decode cX8_readsBuffer 8 = .ok (.aload_n 0, 1) := by decide +kernel
theorem dX8_readsBuffer_9 : decode cX8_readsBuffer 9 = .ok (.iload_n 1, 1) := by decide +kernel
theorem dX8_readsBuffer_10 : decode cX8_readsBuffer 10 = .ok (.putfield 130, 3) := by decide +kernel
theorem dX8_readsBuffer_13 : decode cX8_readsBuffer 13 = .ok (.iconst 0, 1) := by decide +kernel
theorem dX8_readsBuffer_14 : decode cX8_readsBuffer 14 = .ok (.istore_n 2, 1) := by decide +kernel
theorem dX8_readsBuffer_15 : decode cX8_readsBuffer 15 = .ok (.iload_n 2, 1) := by decide +kernel
theorem dX8_readsBuffer_16 : decode cX8_readsBuffer 16 = .ok (.iload_n 1, 1) := by decide +kernel
theorem dX8_readsBuffer_17 : decode cX8_readsBuffer 17 = .ok (.if_icmp .ge 21, 3) := by decide +kernel
theorem dX8_readsBuffer_20 : decode cX8_readsBuffer 20 = .ok (.aload_n 0, 1) := by decide +kernel
theorem dX8_readsBuffer_21 : decode cX8_readsBuffer 21 = .ok (.getfield 38, 3) := by decide +kernel
theorem dX8_readsBuffer_24 : decode cX8_readsBuffer 24 = .ok (.iload_n 2, 1) := by decide +kernel
theorem dX8_readsBuffer_25 : decode cX8_readsBuffer 25 = .ok (.aload_n 0, 1) := by decide +kernel
theorem dX8_readsBuffer_26 : decode cX8_readsBuffer 26 = .ok (.getfield 41, 3) := by decide +kernel
theorem dX8_readsBuffer_29 : decode cX8_readsBuffer 29 = .ok (.iload_n 2, 1) := by decide +kernel
theorem dX8_readsBuffer_30 : decode cX8_readsBuffer 30 = .ok (.iaload, 1) := by decide +kernel
theorem dX8_readsBuffer_31 : decode cX8_readsBuffer 31 = .ok (.iastore, 1) := by decide +kernel
theorem dX8_readsBuffer_32 : decode cX8_readsBuffer 32 = .ok (.iinc 2 1, 3) := by decide +kernel
theorem dX8_readsBuffer_35 : decode cX8_readsBuffer 35 = .ok (.goto (-20), 3) := by decide +kernel
theorem dX8_readsBuffer_38 : decode cX8_readsBuffer 38 = .ok (.aload_n 0, 1) := by decide +kernel
theorem dX8_readsBuffer_39 : decode cX8_readsBuffer 39 = .ok (.iconst 0, 1) := by decide +kernel
theorem dX8_readsBuffer_40 : decode cX8_readsBuffer 40 = .ok (.putfield 152, 3) := by decide +kernel
theorem dX8_readsBuffer_43 : decode cX8_readsBuffer 43 = .ok (.aload_n 0, 1) := by decide +kernel
theorem dX8_readsBuffer_44 : decode cX8_readsBuffer 44 = .ok (.invokevirtual 243, 3) := by decide +kernel
theorem dX8_readsBuffer_47 : decode cX8_readsBuffer 47 = .ok (.ireturn, 1) := by decide +kernel
theorem dX8_checks_0 : decode cX8_checks 0 = .ok (.aload_n 0, 1) := by decide +kernel
theorem dX8_checks_1 : decode cX8_checks 1 = .ok (.invokevirtual 75, 3) := by decide +kernel
theorem dX8_checks_4 : decode cX8_checks 4 = .ok (.ifCond .ne 28, 3) := by decide +kernel
theorem dX8_checks_7 : decode cX8_checks 7 = .ok (.aload_n 0, 1) := by decide +kernel
theorem dX8_checks_8 : decode cX8_checks 8 = .ok (.iload_n 1, 1) := by decide +kernel
theorem dX8_checks_9 : decode cX8_checks 9 = .ok (.iconst 0, 1) := by decide +kernel
theorem dX8_checks_10 : decode cX8_checks 10 = .ok (.aload_n 0, 1) := by decide +kernel
theorem dX8_checks_11 : decode cX8_checks 11 = .ok (.getfield 152, 3) := by decide +kernel
theorem dX8_checks_14 : decode cX8_checks 14 = .ok (.invokestatic 71, 3) := by decide +kernel
theorem dX8_checks_17 : decode cX8_checks 17 = .ok (.ifCond .ne 7, 3) := by decide +kernel
theorem dX8_checks_20 : decode cX8_checks 20 = .ok (.iconst 1, 1) := by decide +kernel
theorem dX8_checks_21 : decode cX8_checks 21 = .ok (.goto 4, 3) := by decide +kernel
theorem dX8_checks_24 : decode cX8_checks 24 = .ok (.iconst 0, 1) := by decide +kernel
theorem dX8_checks_25 : decode cX8_checks 25 = .ok (.iconst 2, 1) := by decide +kernel
theorem dX8_checks_26 : decode cX8_checks 26 = .ok (.invokevirtual 64, 3) := by decide +kernel
theorem dX8_checks_29 : decode cX8_checks 29 = .ok (.ifCond .eq 7, 3) := by decide +kernel
theorem dX8_checks_32 : decode cX8_checks 32 = .ok (.iconst 0, 1) := by decide +kernel
theorem dX8_checks_33 : decode cX8_checks 33 = .ok (.goto 8, 3) := by decide +kernel
theorem dX8_checks_36 : decode cX8_checks 36 = .ok (.aload_n 0, 1) := by decide +kernel
theorem dX8_checks_37 : decode cX8_checks 37 = .ok (.iload_n 1, 1) := by decide +kernel
theorem dX8_checks_38 : decode cX8_checks 38 = .ok (.invokevirtual 283, 3) := by decide +kernel
theorem dX8_checks_41 : decode cX8_checks 41 = .ok (.ireturn, 1) := by decide +kernel
theorem dX8_allBytes_0 : decode cX8_allBytes 0 = .ok (.iconst 0, 1) := by decide +kernel
theorem dX8_allBytes_1 : decode cX8_allBytes 1 = .ok (.istore_n 1, 1) := by decide +kernel
theorem dX8_allBytes_2 : decode cX8_allBytes 2 = .ok (.iconst 0, 1) := by decide +kernel
theorem dX8_allBytes_3 : decode cX8_allBytes 3 = .ok (.istore_n 2, 1) := by decide +kernel
theorem dX8_allBytes_4 : decode cX8_allBytes 4 = .ok (.iload_n 2, 1) := by decide +kernel
theorem dX8_allBytes_5 : decode cX8_allBytes 5 = .ok (.aload_n 0, 1) := by decide +kernel
theorem dX8_allBytes_6 : decode cX8_allBytes 6 = .ok (.getfield 68, 3) := by decide +kernel
theorem dX8_allBytes_9 : decode cX8_allBytes 9 = .ok (.if_icmp .ge 21, 3) := by decide +kernel
theorem dX8_allBytes_12 : decode cX8_allBytes 12 = .ok (.aload_n 0, 1) := by decide +kernel
theorem dX8_allBytes_13 : decode cX8_allBytes 13 = .ok (.iload_n 2, 1) := by decide +kernel
theorem dX8_allBytes_14 : decode cX8_allBytes 14 = .ok (.invokevirtual 286, 3) := by decide +kernel
theorem dX8_allBytes_17 : decode cX8_allBytes 17 = .ok (.iload_n 1, 1) := by decide +kernel
theorem dX8_allBytes_18 : decode cX8_allBytes 18 = .ok (.aload_n 0, 1) := by decide +kernel
theorem dX8_allBytes_19 : decode cX8_allBytes 19 = .ok (.getfield 101, 3) := by decide +kernel
theorem dX8_allBytes_22 : decode cX8_allBytes 22 = .ok (.iadd, 1) := by decide +kernel
theorem dX8_allBytes_23 : decode cX8_allBytes 23 = .ok (.istore_n 1, 1) := by decide +kernel
theorem dX8_allBytes_24 : decode cX8_allBytes 24 = .ok (.iinc 2 1, 3) := by decide +kernel
theorem dX8_allBytes_27 : decode cX8_allBytes 27 = .ok (.goto (-23), 3) := by decide +kernel
theorem dX8_allBytes_30 : decode cX8_allBytes 30 = .ok (.iload_n 1, 1) := by decide +kernel
theorem dX8_allBytes_31 : decode cX8_allBytes 31 = .ok (.ireturn, 1) := by decide +kernel
theorem dX8_count_0 : decode cX8_count 0 = .ok (.aload_n 0, 1) := by decide +kernel
theorem dX8_count_1 : decode cX8_count 1 = .ok (.invokevirtual 75, 3) := by decide +kernel
theorem dX8_count_4 : decode cX8_count 4 = .ok (.ifCond .ne 25, 3) := by decide +kernel
theorem dX8_count_7 : decode cX8_count 7 = .ok (.aload_n 0, 1) := by decide +kernel
theorem dX8_count_8 : decode cX8_count 8 = .ok (.iload_n 1, 1) := by decide +kernel
theorem dX8_count_9 : decode cX8_count 9 = .ok (.iconst 0, 1) := by decide +kernel
theorem dX8_count_10 : decode cX8_count 10 = .ok (.iconst 3, 1) := by decide +kernel
theorem dX8_count_11 : decode cX8_count 11 = .ok (.invokestatic 71, 3) := by decide +kernel
theorem dX8_count_14 : decode cX8_count 14 = .ok (.ifCond .ne 7, 3) := by decide +kernel
theorem dX8_count_17 : decode cX8_count 17 = .ok (.iconst 1, 1) := by decide +kernel
theorem dX8_count_18 : decode cX8_count 18 = .ok (.goto 4, 3) := by decide +kernel
theorem dX8_count_21 : decode cX8_count 21 = .ok (.iconst 0, 1) := by decide +kernel
theorem dX8_count_22 : decode cX8_count 22 = .ok (.iconst 2, 1) := by decide +kernel
theorem dX8_count_23 : decode cX8_count 23 = .ok (.invokevirtual 64, 3) := by decide +kernel
theorem dX8_count_26 : decode cX8_count 26 = .ok (.ifCond .eq 5, 3) := by decide +kernel
theorem dX8_count_29 : decode cX8_count 29 = .ok (.iconst 0, 1) := by decide +kernel
theorem dX8_count_30 : decode cX8_count 30 = .ok (.ireturn, 1) := by decide +kernel
theorem dX8_count_31 : decode cX8_count 31 = .ok (.iload_n 1, 1) := by decide +kernel
theorem dX8_count_32 : decode cX8_count 32 = .ok (.tableswitch 48 0 2 #[28, 33, 38], 28) := by decide +kernel
theorem dX8_count_60 : decode cX8_count 60 = .ok (.aload_n 0, 1) := by decide +kernel
theorem dX8_count_61 : decode cX8_count 61 = .ok (.getfield 68, 3) := by decide +kernel
theorem dX8_count_64 : decode cX8_count 64 = .ok (.ireturn, 1) := by decide +kernel
theorem dX8_count_65 : decode cX8_count 65 = .ok (.aload_n 0, 1) := by decide +kernel
theorem dX8_count_66 : decode cX8_count 66 = .ok (.getfield 114, 3) := by decide +kernel
theorem dX8_count_69 : decode cX8_count 69 = .ok (.ireturn, 1) := by decide +kernel
theorem dX8_count_70 : decode cX8_count 70 = .ok (.bipush 8, 2) := by decide +kernel
theorem dX8_count_72 : decode cX8_count 72 = .ok (.iconst 2, 1) := by decide +kernel
theorem dX8_count_73 : decode cX8_count 73 = .ok (.aload_n 0, 1) := by decide +kernel
theorem dX8_count_74 : decode cX8_count 74 = .ok (.getfield 114, 3) := by decide +kernel
theorem dX8_count_77 : decode cX8_count 77 = .ok (.imul, 1) := by decide +kernel
theorem dX8_count_78 : decode cX8_count 78 = .ok (.ishl, 1) := by decide +kernel
theorem dX8_count_79 : decode cX8_count 79 = .ok (.ireturn, 1) := by decide +kernel
theorem dX8_count_80 : decode cX8_count 80 = .ok (.aload_n 0, 1) := by decide +kernel
theorem dX8_count_81 : decode cX8_count 81 = .ok (.invokevirtual 289, 3) := by decide +kernel
theorem dX8_count_84 : decode cX8_count 84 = .ok (.ireturn, 1) := by decide +kernel
theorem dX8_isPosition_0 : decode cX8_isPosition 0 = .ok (.iload_n 1, 1) := by decide +kernel
theorem dX8_isPosition_1 : decode cX8_isPosition 1 = .ok (.iconst 0, 1) := by decide +kernel
theorem dX8_isPosition_2 : decode cX8_isPosition 2 = .ok (.bipush 8, 2) := by decide +kernel
theorem dX8_isPosition_4 : decode cX8_isPosition 4 = .ok (.iconst 2, 1) := by decide +kernel
theorem dX8_isPosition_5 : decode cX8_isPosition 5 = .ok (.aload_n 0, 1) := by decide +kernel
theorem dX8_isPosition_6 : decode cX8_isPosition 6 = .ok (.getfield 114, 3) := by decide +kernel
theorem dX8_isPosition_9 : decode cX8_isPosition 9 = .ok (.imul, 1) := by decide +kernel
theorem dX8_isPosition_10 : decode cX8_isPosition 10 = .ok (.ishl, 1) := by decide +kernel
theorem dX8_isPosition_11 : decode cX8_isPosition 11 = .ok (.iconst 1, 1) := by decide +kernel
theorem dX8_isPosition_12 : decode cX8_isPosition 12 = .ok (.isub, 1) := by decide +kernel
theorem dX8_isPosition_13 : decode cX8_isPosition 13 = .ok (.invokestatic 71, 3) := by decide +kernel
theorem dX8_isPosition_16 : decode cX8_isPosition 16 = .ok (.ireturn, 1) := by decide +kernel
theorem dX8_noPosition_0 : decode cX8_noPosition 0 = .ok (.aload_n 0, 1) := by decide +kernel
theorem dX8_noPosition_1 : decode cX8_noPosition 1 = .ok (.iload_n 1, 1) := by decide +kernel
theorem dX8_noPosition_2 : decode cX8_noPosition 2 = .ok (.invokevirtual 292, 3) := by decide +kernel
theorem dX8_noPosition_5 : decode cX8_noPosition 5 = .ok (.ifCond .ne 24, 3) := by decide +kernel
theorem dX8_noPosition_8 : decode cX8_noPosition 8 = .ok (.aload_n 0, 1) := by decide +kernel
theorem dX8_noPosition_9 : decode cX8_noPosition 9 = .ok (.aload_n 0, 1) := by decide +kernel
theorem dX8_noPosition_10 : decode cX8_noPosition 10 = .ok (.iload_n 2, 1) := by decide +kernel
theorem dX8_noPosition_11 : decode cX8_noPosition 11 = .ok (.invokevirtual 295, 3) := by decide +kernel
theorem dX8_noPosition_14 : decode cX8_noPosition 14 = .ok (.ifCond .ne 7, 3) := by decide +kernel
theorem dX8_noPosition_17 : decode cX8_noPosition 17 = .ok (.iconst 1, 1) := by decide +kernel
theorem dX8_noPosition_18 : decode cX8_noPosition 18 = .ok (.goto 4, 3) := by decide +kernel
theorem dX8_noPosition_21 : decode cX8_noPosition 21 = .ok (.iconst 0, 1) := by decide +kernel
theorem dX8_noPosition_22 : decode cX8_noPosition 22 = .ok (.iconst 2, 1) := by decide +kernel
theorem dX8_noPosition_23 : decode cX8_noPosition 23 = .ok (.invokevirtual 64, 3) := by decide +kernel
theorem dX8_noPosition_26 : decode cX8_noPosition 26 = .ok (.ifCond .eq 7, 3) := by decide +kernel
theorem dX8_noPosition_29 : decode cX8_noPosition 29 = .ok (.iconst 1, 1) := by decide +kernel
theorem dX8_noPosition_30 : decode cX8_noPosition 30 = .ok (.goto 4, 3) := by decide +kernel
theorem dX8_noPosition_33 : decode cX8_noPosition 33 = .ok (.iconst 0, 1) := by decide +kernel
theorem dX8_noPosition_34 : decode cX8_noPosition 34 = .ok (.ireturn, 1) := by decide +kernel
theorem dX8_bit_0 : decode cX8_bit 0 = .ok (.aload_n 0, 1) := by decide +kernel
theorem dX8_bit_1 : decode cX8_bit 1 = .ok (.iload_n 1, 1) := by decide +kernel
theorem dX8_bit_2 : decode cX8_bit 2 = .ok (.iload_n 2, 1) := by decide +kernel
theorem dX8_bit_3 : decode cX8_bit 3 = .ok (.invokevirtual 298, 3) := by decide +kernel
theorem dX8_bit_6 : decode cX8_bit 6 = .ok (.ifCond .eq 5, 3) := by decide +kernel
theorem dX8_bit_9 : decode cX8_bit 9 = .ok (.iconst 0, 1) := by decide +kernel
theorem dX8_bit_10 : decode cX8_bit 10 = .ok (.ireturn, 1) := by decide +kernel
theorem dX8_bit_11 : decode cX8_bit 11 = .ok (.aload_n 0, 1) := by decide +kernel
theorem dX8_bit_12 : decode cX8_bit 12 = .ok (.iload_n 1, 1) := by decide +kernel
theorem dX8_bit_13 : decode cX8_bit 13 = .ok (.invokevirtual 117, 3) := by decide +kernel
theorem dX8_bit_16 : decode cX8_bit 16 = .ok (.aload_n 0, 1) := by decide +kernel
theorem dX8_bit_17 : decode cX8_bit 17 = .ok (.iload_n 2, 1) := by decide +kernel
theorem dX8_bit_18 : decode cX8_bit 18 = .ok (.invokevirtual 234, 3) := by decide +kernel
theorem dX8_bit_21 : decode cX8_bit 21 = .ok (.ireturn, 1) := by decide +kernel
theorem dX8_noRange_0 : decode cX8_noRange 0 = .ok (.aload_n 0, 1) := by decide +kernel
theorem dX8_noRange_1 : decode cX8_noRange 1 = .ok (.iload_n 1, 1) := by decide +kernel
theorem dX8_noRange_2 : decode cX8_noRange 2 = .ok (.invokevirtual 292, 3) := by decide +kernel
theorem dX8_noRange_5 : decode cX8_noRange 5 = .ok (.ifCond .ne 37, 3) := by decide +kernel
theorem dX8_noRange_8 : decode cX8_noRange 8 = .ok (.aload_n 0, 1) := by decide +kernel
theorem dX8_noRange_9 : decode cX8_noRange 9 = .ok (.aload_n 0, 1) := by decide +kernel
theorem dX8_noRange_10 : decode cX8_noRange 10 = .ok (.iload_n 2, 1) := by decide +kernel
theorem dX8_noRange_11 : decode cX8_noRange 11 = .ok (.invokevirtual 295, 3) := by decide +kernel
theorem dX8_noRange_14 : decode cX8_noRange 14 = .ok (.ifCond .eq 16, 3) := by decide +kernel
theorem dX8_noRange_17 : decode cX8_noRange 17 = .ok (.aload_n 0, 1) := by decide +kernel
theorem dX8_noRange_18 : decode cX8_noRange 18 = .ok (.iload_n 3, 1) := by decide +kernel
theorem dX8_noRange_19 : decode cX8_noRange 19 = .ok (.invokevirtual 295, 3) := by decide +kernel
theorem dX8_noRange_22 : decode cX8_noRange 22 = .ok (.ifCond .eq 8, 3) := by decide +kernel
theorem dX8_noRange_25 : decode cX8_noRange 25 = .ok (.iload_n 2, 1) := by decide +kernel
theorem dX8_noRange_26 : decode cX8_noRange 26 = .ok (.iload_n 3, 1) := by decide +kernel
theorem dX8_noRange_27 : decode cX8_noRange 27 = .ok (.if_icmp .le 7, 3) := by decide +kernel
theorem dX8_noRange_30 : decode cX8_noRange 30 = .ok (.iconst 1, 1) := by decide +kernel
theorem dX8_noRange_31 : decode cX8_noRange 31 = .ok (.goto 4, 3) := by decide +kernel
theorem dX8_noRange_34 : decode cX8_noRange 34 = .ok (.iconst 0, 1) := by decide +kernel
theorem dX8_noRange_35 : decode cX8_noRange 35 = .ok (.iconst 2, 1) := by decide +kernel
theorem dX8_noRange_36 : decode cX8_noRange 36 = .ok (.invokevirtual 64, 3) := by decide +kernel
theorem dX8_noRange_39 : decode cX8_noRange 39 = .ok (.ifCond .eq 7, 3) := by decide +kernel
theorem dX8_noRange_42 : decode cX8_noRange 42 = .ok (.iconst 1, 1) := by decide +kernel
theorem dX8_noRange_43 : decode cX8_noRange 43 = .ok (.goto 4, 3) := by decide +kernel
theorem dX8_noRange_46 : decode cX8_noRange 46 = .ok (.iconst 0, 1) := by decide +kernel
theorem dX8_noRange_47 : decode cX8_noRange 47 = .ok (.ireturn, 1) := by decide +kernel
theorem dX8_onesIn_0 : decode cX8_onesIn 0 = .ok (.iconst 0, 1) := by decide +kernel
theorem dX8_onesIn_1 : decode cX8_onesIn 1 = .ok (.istore_n 3, 1) := by decide +kernel
theorem dX8_onesIn_2 : decode cX8_onesIn 2 = .ok (.iload_n 1, 1) := by decide +kernel
theorem dX8_onesIn_3 : decode cX8_onesIn 3 = .ok (.istore 4, 2) := by decide +kernel
theorem dX8_onesIn_5 : decode cX8_onesIn 5 = .ok (.iload 4, 2) := by decide +kernel
theorem dX8_onesIn_7 : decode cX8_onesIn 7 = .ok (.iload_n 2, 1) := by decide +kernel
theorem dX8_onesIn_8 : decode cX8_onesIn 8 = .ok (.if_icmp .gt 18, 3) := by decide +kernel
theorem dX8_onesIn_11 : decode cX8_onesIn 11 = .ok (.iload_n 3, 1) := by decide +kernel
theorem dX8_onesIn_12 : decode cX8_onesIn 12 = .ok (.aload_n 0, 1) := by decide +kernel
theorem dX8_onesIn_13 : decode cX8_onesIn 13 = .ok (.iload 4, 2) := by decide +kernel
theorem dX8_onesIn_15 : decode cX8_onesIn 15 = .ok (.invokevirtual 234, 3) := by decide +kernel
theorem dX8_onesIn_18 : decode cX8_onesIn 18 = .ok (.iadd, 1) := by decide +kernel
theorem dX8_onesIn_19 : decode cX8_onesIn 19 = .ok (.istore_n 3, 1) := by decide +kernel
theorem dX8_onesIn_20 : decode cX8_onesIn 20 = .ok (.iinc 4 1, 3) := by decide +kernel
theorem dX8_onesIn_23 : decode cX8_onesIn 23 = .ok (.goto (-18), 3) := by decide +kernel
theorem dX8_onesIn_26 : decode cX8_onesIn 26 = .ok (.iload_n 3, 1) := by decide +kernel
theorem dX8_onesIn_27 : decode cX8_onesIn 27 = .ok (.ireturn, 1) := by decide +kernel
theorem dX8_ones_0 : decode cX8_ones 0 = .ok (.aload_n 0, 1) := by decide +kernel
theorem dX8_ones_1 : decode cX8_ones 1 = .ok (.iload_n 1, 1) := by decide +kernel
theorem dX8_ones_2 : decode cX8_ones 2 = .ok (.iload_n 2, 1) := by decide +kernel
theorem dX8_ones_3 : decode cX8_ones 3 = .ok (.iload_n 3, 1) := by decide +kernel
theorem dX8_ones_4 : decode cX8_ones 4 = .ok (.invokevirtual 302, 3) := by decide +kernel
theorem dX8_ones_7 : decode cX8_ones 7 = .ok (.ifCond .eq 5, 3) := by decide +kernel
theorem dX8_ones_10 : decode cX8_ones 10 = .ok (.iconst 0, 1) := by decide +kernel
theorem dX8_ones_11 : decode cX8_ones 11 = .ok (.ireturn, 1) := by decide +kernel
theorem dX8_ones_12 : decode cX8_ones 12 = .ok (.aload_n 0, 1) := by decide +kernel
theorem dX8_ones_13 : decode cX8_ones 13 = .ok (.iload_n 1, 1) := by decide +kernel
theorem dX8_ones_14 : decode cX8_ones 14 = .ok (.invokevirtual 117, 3) := by decide +kernel
theorem dX8_ones_17 : decode cX8_ones 17 = .ok (.aload_n 0, 1) := by decide +kernel
theorem dX8_ones_18 : decode cX8_ones 18 = .ok (.iload_n 2, 1) := by decide +kernel
theorem dX8_ones_19 : decode cX8_ones 19 = .ok (.iload_n 3, 1) := by decide +kernel
theorem dX8_ones_20 : decode cX8_ones 20 = .ok (.invokevirtual 305, 3) := by decide +kernel
theorem dX8_ones_23 : decode cX8_ones 23 = .ok (.ireturn, 1) := by decide +kernel
theorem dX8_isBit_0 : decode cX8_isBit 0 = .ok (.iload_n 0, 1) := by decide +kernel
theorem dX8_isBit_1 : decode cX8_isBit 1 = .ok (.iconst 0, 1) := by decide +kernel
theorem dX8_isBit_2 : decode cX8_isBit 2 = .ok (.iconst 1, 1) := by decide +kernel
theorem dX8_isBit_3 : decode cX8_isBit 3 = .ok (.invokestatic 71, 3) := by decide +kernel
theorem dX8_isBit_6 : decode cX8_isBit 6 = .ok (.ireturn, 1) := by decide +kernel
theorem dX8_next_0 : decode cX8_next 0 = .ok (.aload_n 0, 1) := by decide +kernel
theorem dX8_next_1 : decode cX8_next 1 = .ok (.iload_n 1, 1) := by decide +kernel
theorem dX8_next_2 : decode cX8_next 2 = .ok (.iload_n 2, 1) := by decide +kernel
theorem dX8_next_3 : decode cX8_next 3 = .ok (.invokevirtual 298, 3) := by decide +kernel
theorem dX8_next_6 : decode cX8_next 6 = .ok (.ifCond .ne 23, 3) := by decide +kernel
theorem dX8_next_9 : decode cX8_next 9 = .ok (.aload_n 0, 1) := by decide +kernel
theorem dX8_next_10 : decode cX8_next 10 = .ok (.iload_n 3, 1) := by decide +kernel
theorem dX8_next_11 : decode cX8_next 11 = .ok (.invokestatic 308, 3) := by decide +kernel
theorem dX8_next_14 : decode cX8_next 14 = .ok (.ifCond .ne 7, 3) := by decide +kernel
theorem dX8_next_17 : decode cX8_next 17 = .ok (.iconst 1, 1) := by decide +kernel
theorem dX8_next_18 : decode cX8_next 18 = .ok (.goto 4, 3) := by decide +kernel
theorem dX8_next_21 : decode cX8_next 21 = .ok (.iconst 0, 1) := by decide +kernel
theorem dX8_next_22 : decode cX8_next 22 = .ok (.iconst 3, 1) := by decide +kernel
theorem dX8_next_23 : decode cX8_next 23 = .ok (.invokevirtual 64, 3) := by decide +kernel
theorem dX8_next_26 : decode cX8_next 26 = .ok (.ifCond .eq 5, 3) := by decide +kernel
theorem dX8_next_29 : decode cX8_next 29 = .ok (.iconst 0, 1) := by decide +kernel
theorem dX8_next_30 : decode cX8_next 30 = .ok (.ireturn, 1) := by decide +kernel
theorem dX8_next_31 : decode cX8_next 31 = .ok (.aload_n 0, 1) := by decide +kernel
theorem dX8_next_32 : decode cX8_next 32 = .ok (.iload_n 1, 1) := by decide +kernel
theorem dX8_next_33 : decode cX8_next 33 = .ok (.invokevirtual 117, 3) := by decide +kernel
theorem dX8_next_36 : decode cX8_next 36 = .ok (.iload_n 2, 1) := by decide +kernel
theorem dX8_next_37 : decode cX8_next 37 = .ok (.istore 4, 2) := by decide +kernel
theorem dX8_next_39 : decode cX8_next 39 = .ok (.iload 4, 2) := by decide +kernel
theorem dX8_next_41 : decode cX8_next 41 = .ok (.aload_n 0, 1) := by decide +kernel
theorem dX8_next_42 : decode cX8_next 42 = .ok (.invokevirtual 225, 3) := by decide +kernel
theorem dX8_next_45 : decode cX8_next 45 = .ok (.if_icmp .ge 22, 3) := by decide +kernel
theorem dX8_next_48 : decode cX8_next 48 = .ok (.aload_n 0, 1) := by decide +kernel
theorem dX8_next_49 : decode cX8_next 49 = .ok (.iload 4, 2) := by decide +kernel
theorem dX8_next_51 : decode cX8_next 51 = .ok (.invokevirtual 234, 3) := by decide +kernel
theorem dX8_next_54 : decode cX8_next 54 = .ok (.iload_n 3, 1) := by decide +kernel
theorem dX8_next_55 : decode cX8_next 55 = .ok (.if_icmp .ne 6, 3) := by decide +kernel
theorem dX8_next_58 : decode cX8_next 58 = .ok (.iload 4, 2) := by decide +kernel
theorem dX8_next_60 : decode cX8_next 60 = .ok (.ireturn, 1) := by decide +kernel
theorem dX8_next_61 : decode cX8_next 61 = .ok (.iinc 4 1, 3) := by decide +kernel
theorem dX8_next_64 : decode cX8_next 64 = .ok (.goto (-25), 3) := by decide +kernel
theorem dX8_next_67 : decode cX8_next 67 = .ok (.iconst (-1), 1) := by decide +kernel
theorem dX8_next_68 : decode cX8_next 68 = .ok (.ireturn, 1) := by decide +kernel
theorem dX8_select_0 : decode cX8_select 0 = .ok (.aload_n 0, 1) := by decide +kernel
theorem dX8_select_1 : decode cX8_select 1 = .ok (.iload_n 1, 1) := by decide +kernel
theorem dX8_select_2 : decode cX8_select 2 = .ok (.invokevirtual 292, 3) := by decide +kernel
theorem dX8_select_5 : decode cX8_select 5 = .ok (.ifCond .ne 20, 3) := by decide +kernel
theorem dX8_select_8 : decode cX8_select 8 = .ok (.aload_n 0, 1) := by decide +kernel
theorem dX8_select_9 : decode cX8_select 9 = .ok (.iload_n 2, 1) := by decide +kernel
theorem dX8_select_10 : decode cX8_select 10 = .ok (.ifCond .ge 7, 3) := by decide +kernel
theorem dX8_select_13 : decode cX8_select 13 = .ok (.iconst 1, 1) := by decide +kernel
theorem dX8_select_14 : decode cX8_select 14 = .ok (.goto 4, 3) := by decide +kernel
theorem dX8_select_17 : decode cX8_select 17 = .ok (.iconst 0, 1) := by decide +kernel
theorem dX8_select_18 : decode cX8_select 18 = .ok (.iconst 2, 1) := by decide +kernel
theorem dX8_select_19 : decode cX8_select 19 = .ok (.invokevirtual 64, 3) := by decide +kernel
theorem dX8_select_22 : decode cX8_select 22 = .ok (.ifCond .eq 5, 3) := by decide +kernel
theorem dX8_select_25 : decode cX8_select 25 = .ok (.iconst 0, 1) := by decide +kernel
theorem dX8_select_26 : decode cX8_select 26 = .ok (.ireturn, 1) := by decide +kernel
theorem dX8_select_27 : decode cX8_select 27 = .ok (.aload_n 0, 1) := by decide +kernel
theorem dX8_select_28 : decode cX8_select 28 = .ok (.iload_n 1, 1) := by decide +kernel
theorem dX8_select_29 : decode cX8_select 29 = .ok (.invokevirtual 117, 3) := by decide +kernel
theorem dX8_select_32 : decode cX8_select 32 = .ok (.iload_n 2, 1) := by decide +kernel
theorem dX8_select_33 : decode cX8_select 33 = .ok (.istore_n 3, 1) := by decide +kernel
theorem dX8_select_34 : decode cX8_select 34 = .ok (.iconst 0, 1) := by decide +kernel
theorem dX8_select_35 : decode cX8_select 35 = .ok (.istore 4, 2) := by decide +kernel
theorem dX8_select_37 : decode cX8_select 37 = .ok (.iload 4, 2) := by decide +kernel
theorem dX8_select_39 : decode cX8_select 39 = .ok (.aload_n 0, 1) := by decide +kernel
theorem dX8_select_40 : decode cX8_select 40 = .ok (.invokevirtual 225, 3) := by decide +kernel
theorem dX8_select_43 : decode cX8_select 43 = .ok (.if_icmp .ge 35, 3) := by decide +kernel
theorem dX8_select_46 : decode cX8_select 46 = .ok (.aload_n 0, 1) := by decide +kernel
theorem dX8_select_47 : decode cX8_select 47 = .ok (.iload 4, 2) := by decide +kernel
theorem dX8_select_49 : decode cX8_select 49 = .ok (.invokevirtual 234, 3) := by decide +kernel
theorem dX8_select_52 : decode cX8_select 52 = .ok (.iconst 1, 1) := by decide +kernel
theorem dX8_select_53 : decode cX8_select 53 = .ok (.if_icmp .ne 10, 3) := by decide +kernel
theorem dX8_select_56 : decode cX8_select 56 = .ok (.iload_n 3, 1) := by decide +kernel
theorem dX8_select_57 : decode cX8_select 57 = .ok (.ifCond .ne 6, 3) := by decide +kernel
theorem dX8_select_60 : decode cX8_select 60 = .ok (.iload 4, 2) := by decide +kernel
theorem dX8_select_62 : decode cX8_select 62 = .ok (.ireturn, 1) := by decide +kernel
theorem dX8_select_63 : decode cX8_select 63 = .ok (.iload_n 3, 1) := by decide +kernel
theorem dX8_select_64 : decode cX8_select 64 = .ok (.aload_n 0, 1) := by decide +kernel
theorem dX8_select_65 : decode cX8_select 65 = .ok (.iload 4, 2) := by decide +kernel
theorem dX8_select_67 : decode cX8_select 67 = .ok (.invokevirtual 234, 3) := by decide +kernel
theorem dX8_select_70 : decode cX8_select 70 = .ok (.isub, 1) := by decide +kernel
theorem dX8_select_71 : decode cX8_select 71 = .ok (.istore_n 3, 1) := by decide +kernel
theorem dX8_select_72 : decode cX8_select 72 = .ok (.iinc 4 1, 3) := by decide +kernel
theorem dX8_select_75 : decode cX8_select 75 = .ok (.goto (-38), 3) := by decide +kernel
theorem dX8_select_78 : decode cX8_select 78 = .ok (.iconst (-1), 1) := by decide +kernel
theorem dX8_select_79 : decode cX8_select 79 = .ok (.ireturn, 1) := by decide +kernel
theorem dX8_noBit_0 : decode cX8_noBit 0 = .ok (.aload_n 0, 1) := by decide +kernel
theorem dX8_noBit_1 : decode cX8_noBit 1 = .ok (.iload_n 1, 1) := by decide +kernel
theorem dX8_noBit_2 : decode cX8_noBit 2 = .ok (.invokevirtual 292, 3) := by decide +kernel
theorem dX8_noBit_5 : decode cX8_noBit 5 = .ok (.ifCond .ne 23, 3) := by decide +kernel
theorem dX8_noBit_8 : decode cX8_noBit 8 = .ok (.aload_n 0, 1) := by decide +kernel
theorem dX8_noBit_9 : decode cX8_noBit 9 = .ok (.iload_n 2, 1) := by decide +kernel
theorem dX8_noBit_10 : decode cX8_noBit 10 = .ok (.invokestatic 308, 3) := by decide +kernel
theorem dX8_noBit_13 : decode cX8_noBit 13 = .ok (.ifCond .ne 7, 3) := by decide +kernel
theorem dX8_noBit_16 : decode cX8_noBit 16 = .ok (.iconst 1, 1) := by decide +kernel
theorem dX8_noBit_17 : decode cX8_noBit 17 = .ok (.goto 4, 3) := by decide +kernel
theorem dX8_noBit_20 : decode cX8_noBit 20 = .ok (.iconst 0, 1) := by decide +kernel
theorem dX8_noBit_21 : decode cX8_noBit 21 = .ok (.iconst 3, 1) := by decide +kernel
theorem dX8_noBit_22 : decode cX8_noBit 22 = .ok (.invokevirtual 64, 3) := by decide +kernel
theorem dX8_noBit_25 : decode cX8_noBit 25 = .ok (.ifCond .eq 7, 3) := by decide +kernel
theorem dX8_noBit_28 : decode cX8_noBit 28 = .ok (.iconst 1, 1) := by decide +kernel
theorem dX8_noBit_29 : decode cX8_noBit 29 = .ok (.goto 4, 3) := by decide +kernel
theorem dX8_noBit_32 : decode cX8_noBit 32 = .ok (.iconst 0, 1) := by decide +kernel
theorem dX8_noBit_33 : decode cX8_noBit 33 = .ok (.ireturn, 1) := by decide +kernel
theorem dX8_runs_0 : decode cX8_runs 0 = .ok (.aload_n 0, 1) := by decide +kernel
theorem dX8_runs_1 : decode cX8_runs 1 = .ok (.iload_n 1, 1) := by decide +kernel
theorem dX8_runs_2 : decode cX8_runs 2 = .ok (.iload_n 2, 1) := by decide +kernel
theorem dX8_runs_3 : decode cX8_runs 3 = .ok (.invokevirtual 311, 3) := by decide +kernel
theorem dX8_runs_6 : decode cX8_runs 6 = .ok (.ifCond .eq 5, 3) := by decide +kernel
theorem dX8_runs_9 : decode cX8_runs 9 = .ok (.iconst 0, 1) := by decide +kernel
theorem dX8_runs_10 : decode cX8_runs 10 = .ok (.ireturn, 1) := by decide +kernel
theorem dX8_runs_11 : decode cX8_runs 11 = .ok (.aload_n 0, 1) := by decide +kernel
theorem dX8_runs_12 : decode cX8_runs 12 = .ok (.iload_n 1, 1) := by decide +kernel
theorem dX8_runs_13 : decode cX8_runs 13 = .ok (.invokevirtual 117, 3) := by decide +kernel
theorem dX8_runs_16 : decode cX8_runs 16 = .ok (.iconst 0, 1) := by decide +kernel
theorem dX8_runs_17 : decode cX8_runs 17 = .ok (.istore_n 3, 1) := by decide +kernel
theorem dX8_runs_18 : decode cX8_runs 18 = .ok (.iconst 0, 1) := by decide +kernel
theorem dX8_runs_19 : decode cX8_runs 19 = .ok (.istore 4, 2) := by decide +kernel
theorem dX8_runs_21 : decode cX8_runs 21 = .ok (.iload 4, 2) := by decide +kernel
theorem dX8_runs_23 : decode cX8_runs 23 = .ok (.aload_n 0, 1) := by decide +kernel
theorem dX8_runs_24 : decode cX8_runs 24 = .ok (.invokevirtual 225, 3) := by decide +kernel
theorem dX8_runs_27 : decode cX8_runs 27 = .ok (.if_icmp .ge 47, 3) := by decide +kernel
theorem dX8_runs_30 : decode cX8_runs 30 = .ok (.iload_n 3, 1) := by decide +kernel
theorem dX8_runs_31 : decode cX8_runs 31 = .ok (.aload_n 0, 1) := by decide +kernel
theorem dX8_runs_32 : decode cX8_runs 32 = .ok (.iload 4, 2) := by decide +kernel
theorem dX8_runs_34 : decode cX8_runs 34 = .ok (.invokevirtual 234, 3) := by decide +kernel
theorem dX8_runs_37 : decode cX8_runs 37 = .ok (.iload_n 2, 1) := by decide +kernel
theorem dX8_runs_38 : decode cX8_runs 38 = .ok (.if_icmp .ne 24, 3) := by decide +kernel
theorem dX8_runs_41 : decode cX8_runs 41 = .ok (.iload 4, 2) := by decide +kernel
theorem dX8_runs_43 : decode cX8_runs 43 = .ok (.ifCond .eq 15, 3) := by decide +kernel
theorem dX8_runs_46 : decode cX8_runs 46 = .ok (.aload_n 0, 1) := by decide +kernel
theorem dX8_runs_47 : decode cX8_runs 47 = .ok (.iload 4, 2) := by decide +kernel
theorem dX8_runs_49 : decode cX8_runs 49 = .ok (.iconst 1, 1) := by decide +kernel
theorem dX8_runs_50 : decode cX8_runs 50 = .ok (.isub, 1) := by decide +kernel
theorem dX8_runs_51 : decode cX8_runs 51 = .ok (.invokevirtual 234, 3) := by decide +kernel
theorem dX8_runs_54 : decode cX8_runs 54 = .ok (.iload_n 2, 1) := by decide +kernel
theorem dX8_runs_55 : decode cX8_runs 55 = .ok (.if_icmp .eq 7, 3) := by decide +kernel
theorem dX8_runs_58 : decode cX8_runs 58 = .ok (.iconst 1, 1) := by decide +kernel
theorem dX8_runs_59 : decode cX8_runs 59 = .ok (.goto 4, 3) := by decide +kernel
theorem dX8_runs_62 : decode cX8_runs 62 = .ok (.iconst 0, 1) := by decide +kernel
theorem dX8_runs_63 : decode cX8_runs 63 = .ok (.invokestatic 314, 3) := by decide +kernel
theorem dX8_runs_66 : decode cX8_runs 66 = .ok (.iadd, 1) := by decide +kernel
theorem dX8_runs_67 : decode cX8_runs 67 = .ok (.istore_n 3, 1) := by decide +kernel
theorem dX8_runs_68 : decode cX8_runs 68 = .ok (.iinc 4 1, 3) := by decide +kernel
theorem dX8_runs_71 : decode cX8_runs 71 = .ok (.goto (-50), 3) := by decide +kernel
theorem dX8_runs_74 : decode cX8_runs 74 = .ok (.iload_n 3, 1) := by decide +kernel
theorem dX8_runs_75 : decode cX8_runs 75 = .ok (.ireturn, 1) := by decide +kernel
theorem dX8_longestRun_0 : decode cX8_longestRun 0 = .ok (.aload_n 0, 1) := by decide +kernel
theorem dX8_longestRun_1 : decode cX8_longestRun 1 = .ok (.iload_n 1, 1) := by decide +kernel
theorem dX8_longestRun_2 : decode cX8_longestRun 2 = .ok (.iload_n 2, 1) := by decide +kernel
theorem dX8_longestRun_3 : decode cX8_longestRun 3 = .ok (.invokevirtual 311, 3) := by decide +kernel
theorem dX8_longestRun_6 : decode cX8_longestRun 6 = .ok (.ifCond .eq 5, 3) := by decide +kernel
theorem dX8_longestRun_9 : decode cX8_longestRun 9 = .ok (.iconst 0, 1) := by decide +kernel
theorem dX8_longestRun_10 : decode cX8_longestRun 10 = .ok (.ireturn, 1) := by decide +kernel
theorem dX8_longestRun_11 : decode cX8_longestRun 11 = .ok (.aload_n 0, 1) := by decide +kernel
theorem dX8_longestRun_12 : decode cX8_longestRun 12 = .ok (.iload_n 1, 1) := by decide +kernel
theorem dX8_longestRun_13 : decode cX8_longestRun 13 = .ok (.invokevirtual 117, 3) := by decide +kernel
theorem dX8_longestRun_16 : decode cX8_longestRun 16 = .ok (.iconst 0, 1) := by decide +kernel
theorem dX8_longestRun_17 : decode cX8_longestRun 17 = .ok (.istore_n 3, 1) := by decide +kernel
theorem dX8_longestRun_18 : decode cX8_longestRun 18 = .ok (.iconst 0, 1) := by decide +kernel
theorem dX8_longestRun_19 : decode cX8_longestRun 19 = .ok (.istore 4, 2) := by decide +kernel
theorem dX8_longestRun_21 : decode cX8_longestRun 21 = .ok (.iconst 0, 1) := by decide +kernel
theorem dX8_longestRun_22 : decode cX8_longestRun 22 = .ok (.istore 5, 2) := by decide +kernel
theorem dX8_longestRun_24 : decode cX8_longestRun 24 = .ok (.iload 5, 2) := by decide +kernel
theorem dX8_longestRun_26 : decode cX8_longestRun 26 = .ok (.aload_n 0, 1) := by decide +kernel
theorem dX8_longestRun_27 : decode cX8_longestRun 27 = .ok (.invokevirtual 225, 3) := by decide +kernel
theorem dX8_longestRun_30 : decode cX8_longestRun 30 = .ok (.if_icmp .ge 36, 3) := by decide +kernel
theorem dX8_longestRun_33 : decode cX8_longestRun 33 = .ok (.aload_n 0, 1) := by decide +kernel
theorem dX8_longestRun_34 : decode cX8_longestRun 34 = .ok (.iload 5, 2) := by decide +kernel
theorem dX8_longestRun_36 : decode cX8_longestRun 36 = .ok (.invokevirtual 234, 3) := by decide +kernel
theorem dX8_longestRun_39 : decode cX8_longestRun 39 = .ok (.iload_n 2, 1) := by decide +kernel
theorem dX8_longestRun_40 : decode cX8_longestRun 40 = .ok (.if_icmp .ne 10, 3) := by decide +kernel
theorem dX8_longestRun_43 : decode cX8_longestRun 43 = .ok (.iload 4, 2) := by decide +kernel
theorem dX8_longestRun_45 : decode cX8_longestRun 45 = .ok (.iconst 1, 1) := by decide +kernel
theorem dX8_longestRun_46 : decode cX8_longestRun 46 = .ok (.iadd, 1) := by decide +kernel
theorem dX8_longestRun_47 : decode cX8_longestRun 47 = .ok (.goto 4, 3) := by decide +kernel
theorem dX8_longestRun_50 : decode cX8_longestRun 50 = .ok (.iconst 0, 1) := by decide +kernel
theorem dX8_longestRun_51 : decode cX8_longestRun 51 = .ok (.istore 4, 2) := by decide +kernel
theorem dX8_longestRun_53 : decode cX8_longestRun 53 = .ok (.iload_n 3, 1) := by decide +kernel
theorem dX8_longestRun_54 : decode cX8_longestRun 54 = .ok (.iload 4, 2) := by decide +kernel
theorem dX8_longestRun_56 : decode cX8_longestRun 56 = .ok (.invokestatic 318, 3) := by decide +kernel
theorem dX8_longestRun_59 : decode cX8_longestRun 59 = .ok (.istore_n 3, 1) := by decide +kernel
theorem dX8_longestRun_60 : decode cX8_longestRun 60 = .ok (.iinc 5 1, 3) := by decide +kernel
theorem dX8_longestRun_63 : decode cX8_longestRun 63 = .ok (.goto (-39), 3) := by decide +kernel
theorem dX8_longestRun_66 : decode cX8_longestRun 66 = .ok (.iload_n 3, 1) := by decide +kernel
theorem dX8_longestRun_67 : decode cX8_longestRun 67 = .ok (.ireturn, 1) := by decide +kernel
theorem dX8_bytes_0 : decode cX8_bytes 0 = .ok (.aload_n 0, 1) := by decide +kernel
theorem dX8_bytes_1 : decode cX8_bytes 1 = .ok (.iload_n 1, 1) := by decide +kernel
theorem dX8_bytes_2 : decode cX8_bytes 2 = .ok (.invokevirtual 292, 3) := by decide +kernel
theorem dX8_bytes_5 : decode cX8_bytes 5 = .ok (.ifCond .eq 5, 3) := by decide +kernel
theorem dX8_bytes_8 : decode cX8_bytes 8 = .ok (.iconst 0, 1) := by decide +kernel
theorem dX8_bytes_9 : decode cX8_bytes 9 = .ok (.ireturn, 1) := by decide +kernel
theorem dX8_bytes_10 : decode cX8_bytes 10 = .ok (.aload_n 0, 1) := by decide +kernel
theorem dX8_bytes_11 : decode cX8_bytes 11 = .ok (.iload_n 1, 1) := by decide +kernel
theorem dX8_bytes_12 : decode cX8_bytes 12 = .ok (.invokevirtual 286, 3) := by decide +kernel
theorem dX8_bytes_15 : decode cX8_bytes 15 = .ok (.aload_n 0, 1) := by decide +kernel
theorem dX8_bytes_16 : decode cX8_bytes 16 = .ok (.getfield 101, 3) := by decide +kernel
theorem dX8_bytes_19 : decode cX8_bytes 19 = .ok (.ireturn, 1) := by decide +kernel
theorem dX8_noByte_0 : decode cX8_noByte 0 = .ok (.aload_n 0, 1) := by decide +kernel
theorem dX8_noByte_1 : decode cX8_noByte 1 = .ok (.iload_n 1, 1) := by decide +kernel
theorem dX8_noByte_2 : decode cX8_noByte 2 = .ok (.invokevirtual 292, 3) := by decide +kernel
theorem dX8_noByte_5 : decode cX8_noByte 5 = .ok (.ifCond .eq 5, 3) := by decide +kernel
theorem dX8_noByte_8 : decode cX8_noByte 8 = .ok (.iconst 1, 1) := by decide +kernel
theorem dX8_noByte_9 : decode cX8_noByte 9 = .ok (.ireturn, 1) := by decide +kernel
theorem dX8_noByte_10 : decode cX8_noByte 10 = .ok (.aload_n 0, 1) := by decide +kernel
theorem dX8_noByte_11 : decode cX8_noByte 11 = .ok (.iload_n 1, 1) := by decide +kernel
theorem dX8_noByte_12 : decode cX8_noByte 12 = .ok (.invokevirtual 286, 3) := by decide +kernel
theorem dX8_noByte_15 : decode cX8_noByte 15 = .ok (.aload_n 0, 1) := by decide +kernel
theorem dX8_noByte_16 : decode cX8_noByte 16 = .ok (.iload_n 2, 1) := by decide +kernel
theorem dX8_noByte_17 : decode cX8_noByte 17 = .ok (.iconst 0, 1) := by decide +kernel
theorem dX8_noByte_18 : decode cX8_noByte 18 = .ok (.aload_n 0, 1) := by decide +kernel
theorem dX8_noByte_19 : decode cX8_noByte 19 = .ok (.getfield 101, 3) := by decide +kernel
theorem dX8_noByte_22 : decode cX8_noByte 22 = .ok (.iconst 1, 1) := by decide +kernel
theorem dX8_noByte_23 : decode cX8_noByte 23 = .ok (.isub, 1) := by decide +kernel
theorem dX8_noByte_24 : decode cX8_noByte 24 = .ok (.invokestatic 71, 3) := by decide +kernel
theorem dX8_noByte_27 : decode cX8_noByte 27 = .ok (.ifCond .ne 7, 3) := by decide +kernel
theorem dX8_noByte_30 : decode cX8_noByte 30 = .ok (.iconst 1, 1) := by decide +kernel
theorem dX8_noByte_31 : decode cX8_noByte 31 = .ok (.goto 4, 3) := by decide +kernel
theorem dX8_noByte_34 : decode cX8_noByte 34 = .ok (.iconst 0, 1) := by decide +kernel
theorem dX8_noByte_35 : decode cX8_noByte 35 = .ok (.iconst 2, 1) := by decide +kernel
theorem dX8_noByte_36 : decode cX8_noByte 36 = .ok (.invokevirtual 64, 3) := by decide +kernel
theorem dX8_noByte_39 : decode cX8_noByte 39 = .ok (.ireturn, 1) := by decide +kernel
theorem dX8_byteAt_0 : decode cX8_byteAt 0 = .ok (.aload_n 0, 1) := by decide +kernel
theorem dX8_byteAt_1 : decode cX8_byteAt 1 = .ok (.iload_n 1, 1) := by decide +kernel
theorem dX8_byteAt_2 : decode cX8_byteAt 2 = .ok (.iload_n 2, 1) := by decide +kernel
theorem dX8_byteAt_3 : decode cX8_byteAt 3 = .ok (.invokevirtual 323, 3) := by decide +kernel
theorem dX8_byteAt_6 : decode cX8_byteAt 6 = .ok (.ifCond .eq 7, 3) := by decide +kernel
theorem dX8_byteAt_9 : decode cX8_byteAt 9 = .ok (.iconst 0, 1) := by decide +kernel
theorem dX8_byteAt_10 : decode cX8_byteAt 10 = .ok (.goto 9, 3) := by decide +kernel
theorem dX8_byteAt_13 : decode cX8_byteAt 13 = .ok (.aload_n 0, 1) := by decide +kernel
theorem dX8_byteAt_14 : decode cX8_byteAt 14 = .ok (.getfield 26, 3) := by decide +kernel
theorem dX8_byteAt_17 : decode cX8_byteAt 17 = .ok (.iload_n 2, 1) := by decide +kernel
theorem dX8_byteAt_18 : decode cX8_byteAt 18 = .ok (.iaload, 1) := by decide +kernel
theorem dX8_byteAt_19 : decode cX8_byteAt 19 = .ok (.ireturn, 1) := by decide +kernel
theorem dX8_toldIn_0 : decode cX8_toldIn 0 = .ok (.iconst 0, 1) := by decide +kernel
theorem dX8_toldIn_1 : decode cX8_toldIn 1 = .ok (.istore_n 2, 1) := by decide +kernel
theorem dX8_toldIn_2 : decode cX8_toldIn 2 = .ok (.iconst 0, 1) := by decide +kernel
theorem dX8_toldIn_3 : decode cX8_toldIn 3 = .ok (.istore_n 3, 1) := by decide +kernel
theorem dX8_toldIn_4 : decode cX8_toldIn 4 = .ok (.iload_n 3, 1) := by decide +kernel
theorem dX8_toldIn_5 : decode cX8_toldIn 5 = .ok (.aload_n 0, 1) := by decide +kernel
theorem dX8_toldIn_6 : decode cX8_toldIn 6 = .ok (.iload_n 1, 1) := by decide +kernel
theorem dX8_toldIn_7 : decode cX8_toldIn 7 = .ok (.invokevirtual 90, 3) := by decide +kernel
theorem dX8_toldIn_10 : decode cX8_toldIn 10 = .ok (.if_icmp .ge 35, 3) := by decide +kernel
theorem dX8_toldIn_13 : decode cX8_toldIn 13 = .ok (.iload_n 2, 1) := by decide +kernel
theorem dX8_toldIn_14 : decode cX8_toldIn 14 = .ok (.aload_n 0, 1) := by decide +kernel
theorem dX8_toldIn_15 : decode cX8_toldIn 15 = .ok (.getfield 32, 3) := by decide +kernel
theorem dX8_toldIn_18 : decode cX8_toldIn 18 = .ok (.aload_n 0, 1) := by decide +kernel
theorem dX8_toldIn_19 : decode cX8_toldIn 19 = .ok (.iload_n 1, 1) := by decide +kernel
theorem dX8_toldIn_20 : decode cX8_toldIn 20 = .ok (.iload_n 3, 1) := by decide +kernel
theorem dX8_toldIn_21 : decode cX8_toldIn 21 = .ok (.invokevirtual 97, 3) := by decide +kernel
theorem dX8_toldIn_24 : decode cX8_toldIn 24 = .ok (.iaload, 1) := by decide +kernel
theorem dX8_toldIn_25 : decode cX8_toldIn 25 = .ok (.iconst (-1), 1) := by decide +kernel
theorem dX8_toldIn_26 : decode cX8_toldIn 26 = .ok (.if_icmp .eq 7, 3) := by decide +kernel
theorem dX8_toldIn_29 : decode cX8_toldIn 29 = .ok (.iconst 1, 1) := by decide +kernel
theorem dX8_toldIn_30 : decode cX8_toldIn 30 = .ok (.goto 4, 3) := by decide +kernel
theorem dX8_toldIn_33 : decode cX8_toldIn 33 = .ok (.iconst 0, 1) := by decide +kernel
theorem dX8_toldIn_34 : decode cX8_toldIn 34 = .ok (.invokestatic 314, 3) := by decide +kernel
theorem dX8_toldIn_37 : decode cX8_toldIn 37 = .ok (.iadd, 1) := by decide +kernel
theorem dX8_toldIn_38 : decode cX8_toldIn 38 = .ok (.istore_n 2, 1) := by decide +kernel
theorem dX8_toldIn_39 : decode cX8_toldIn 39 = .ok (.iinc 3 1, 3) := by decide +kernel
theorem dX8_toldIn_42 : decode cX8_toldIn 42 = .ok (.goto (-38), 3) := by decide +kernel
theorem dX8_toldIn_45 : decode cX8_toldIn 45 = .ok (.iload_n 2, 1) := by decide +kernel
theorem dX8_toldIn_46 : decode cX8_toldIn 46 = .ok (.ireturn, 1) := by decide +kernel
theorem dX8_codesOf_0 : decode cX8_codesOf 0 = .ok (.iconst 0, 1) := by decide +kernel
theorem dX8_codesOf_1 : decode cX8_codesOf 1 = .ok (.istore_n 2, 1) := by decide +kernel
theorem dX8_codesOf_2 : decode cX8_codesOf 2 = .ok (.iconst 0, 1) := by decide +kernel
theorem dX8_codesOf_3 : decode cX8_codesOf 3 = .ok (.istore_n 3, 1) := by decide +kernel
theorem dX8_codesOf_4 : decode cX8_codesOf 4 = .ok (.iload_n 3, 1) := by decide +kernel
theorem dX8_codesOf_5 : decode cX8_codesOf 5 = .ok (.sipush 341, 3) := by decide +kernel
theorem dX8_codesOf_8 : decode cX8_codesOf 8 = .ok (.if_icmp .ge 30, 3) := by decide +kernel
theorem dX8_codesOf_11 : decode cX8_codesOf 11 = .ok (.iload_n 2, 1) := by decide +kernel
theorem dX8_codesOf_12 : decode cX8_codesOf 12 = .ok (.aload_n 0, 1) := by decide +kernel
theorem dX8_codesOf_13 : decode cX8_codesOf 13 = .ok (.getfield 29, 3) := by decide +kernel
theorem dX8_codesOf_16 : decode cX8_codesOf 16 = .ok (.iload_n 3, 1) := by decide +kernel
theorem dX8_codesOf_17 : decode cX8_codesOf 17 = .ok (.iaload, 1) := by decide +kernel
theorem dX8_codesOf_18 : decode cX8_codesOf 18 = .ok (.iload_n 1, 1) := by decide +kernel
theorem dX8_codesOf_19 : decode cX8_codesOf 19 = .ok (.if_icmp .ne 7, 3) := by decide +kernel
theorem dX8_codesOf_22 : decode cX8_codesOf 22 = .ok (.iconst 1, 1) := by decide +kernel
theorem dX8_codesOf_23 : decode cX8_codesOf 23 = .ok (.goto 4, 3) := by decide +kernel
theorem dX8_codesOf_26 : decode cX8_codesOf 26 = .ok (.iconst 0, 1) := by decide +kernel
theorem dX8_codesOf_27 : decode cX8_codesOf 27 = .ok (.invokestatic 314, 3) := by decide +kernel
theorem dX8_codesOf_30 : decode cX8_codesOf 30 = .ok (.iadd, 1) := by decide +kernel
theorem dX8_codesOf_31 : decode cX8_codesOf 31 = .ok (.istore_n 2, 1) := by decide +kernel
theorem dX8_codesOf_32 : decode cX8_codesOf 32 = .ok (.iinc 3 1, 3) := by decide +kernel
theorem dX8_codesOf_35 : decode cX8_codesOf 35 = .ok (.goto (-31), 3) := by decide +kernel
theorem dX8_codesOf_38 : decode cX8_codesOf 38 = .ok (.iload_n 2, 1) := by decide +kernel
theorem dX8_codesOf_39 : decode cX8_codesOf 39 = .ok (.ireturn, 1) := by decide +kernel
theorem dX8_parts_0 : decode cX8_parts 0 = .ok (.aload_n 0, 1) := by decide +kernel
theorem dX8_parts_1 : decode cX8_parts 1 = .ok (.iload_n 1, 1) := by decide +kernel
theorem dX8_parts_2 : decode cX8_parts 2 = .ok (.invokevirtual 292, 3) := by decide +kernel
theorem dX8_parts_5 : decode cX8_parts 5 = .ok (.ifCond .ne 25, 3) := by decide +kernel
theorem dX8_parts_8 : decode cX8_parts 8 = .ok (.aload_n 0, 1) := by decide +kernel
theorem dX8_parts_9 : decode cX8_parts 9 = .ok (.iload_n 2, 1) := by decide +kernel
theorem dX8_parts_10 : decode cX8_parts 10 = .ok (.iconst 0, 1) := by decide +kernel
theorem dX8_parts_11 : decode cX8_parts 11 = .ok (.iconst 5, 1) := by decide +kernel
theorem dX8_parts_12 : decode cX8_parts 12 = .ok (.invokestatic 71, 3) := by decide +kernel
theorem dX8_parts_15 : decode cX8_parts 15 = .ok (.ifCond .ne 7, 3) := by decide +kernel
theorem dX8_parts_18 : decode cX8_parts 18 = .ok (.iconst 1, 1) := by decide +kernel
theorem dX8_parts_19 : decode cX8_parts 19 = .ok (.goto 4, 3) := by decide +kernel
theorem dX8_parts_22 : decode cX8_parts 22 = .ok (.iconst 0, 1) := by decide +kernel
theorem dX8_parts_23 : decode cX8_parts 23 = .ok (.iconst 3, 1) := by decide +kernel
theorem dX8_parts_24 : decode cX8_parts 24 = .ok (.invokevirtual 64, 3) := by decide +kernel
theorem dX8_parts_27 : decode cX8_parts 27 = .ok (.ifCond .eq 5, 3) := by decide +kernel
theorem dX8_parts_30 : decode cX8_parts 30 = .ok (.iconst 0, 1) := by decide +kernel
theorem dX8_parts_31 : decode cX8_parts 31 = .ok (.ireturn, 1) := by decide +kernel
theorem dX8_parts_32 : decode cX8_parts 32 = .ok (.aload_n 0, 1) := by decide +kernel
theorem dX8_parts_33 : decode cX8_parts 33 = .ok (.iload_n 1, 1) := by decide +kernel
theorem dX8_parts_34 : decode cX8_parts 34 = .ok (.invokevirtual 286, 3) := by decide +kernel
theorem dX8_parts_37 : decode cX8_parts 37 = .ok (.iload_n 2, 1) := by decide +kernel
theorem dX8_parts_38 : decode cX8_parts 38 = .ok (.ifCond .ne 16, 3) := by decide +kernel
theorem dX8_parts_41 : decode cX8_parts 41 = .ok (.aload_n 0, 1) := by decide +kernel
theorem dX8_parts_42 : decode cX8_parts 42 = .ok (.getfield 101, 3) := by decide +kernel
theorem dX8_parts_45 : decode cX8_parts 45 = .ok (.aload_n 0, 1) := by decide +kernel
theorem dX8_parts_46 : decode cX8_parts 46 = .ok (.iconst 0, 1) := by decide +kernel
theorem dX8_parts_47 : decode cX8_parts 47 = .ok (.invokevirtual 326, 3) := by decide +kernel
theorem dX8_parts_50 : decode cX8_parts 50 = .ok (.isub, 1) := by decide +kernel
theorem dX8_parts_51 : decode cX8_parts 51 = .ok (.goto 23, 3) := by decide +kernel
theorem dX8_parts_54 : decode cX8_parts 54 = .ok (.iload_n 2, 1) := by decide +kernel
theorem dX8_parts_55 : decode cX8_parts 55 = .ok (.iconst 1, 1) := by decide +kernel
theorem dX8_parts_56 : decode cX8_parts 56 = .ok (.if_icmp .ne 11, 3) := by decide +kernel
theorem dX8_parts_59 : decode cX8_parts 59 = .ok (.aload_n 0, 1) := by decide +kernel
theorem dX8_parts_60 : decode cX8_parts 60 = .ok (.iconst 0, 1) := by decide +kernel
theorem dX8_parts_61 : decode cX8_parts 61 = .ok (.invokevirtual 326, 3) := by decide +kernel
theorem dX8_parts_64 : decode cX8_parts 64 = .ok (.goto 10, 3) := by decide +kernel
theorem dX8_parts_67 : decode cX8_parts 67 = .ok (.aload_n 0, 1) := by decide +kernel
theorem dX8_parts_68 : decode cX8_parts 68 = .ok (.iload_n 2, 1) := by decide +kernel
theorem dX8_parts_69 : decode cX8_parts 69 = .ok (.iconst 2, 1) := by decide +kernel
theorem dX8_parts_70 : decode cX8_parts 70 = .ok (.isub, 1) := by decide +kernel
theorem dX8_parts_71 : decode cX8_parts 71 = .ok (.invokevirtual 329, 3) := by decide +kernel
theorem dX8_parts_74 : decode cX8_parts 74 = .ok (.ireturn, 1) := by decide +kernel
theorem dX8_isBlock_0 : decode cX8_isBlock 0 = .ok (.iload_n 1, 1) := by decide +kernel
theorem dX8_isBlock_1 : decode cX8_isBlock 1 = .ok (.iconst 0, 1) := by decide +kernel
theorem dX8_isBlock_2 : decode cX8_isBlock 2 = .ok (.aload_n 0, 1) := by decide +kernel
theorem dX8_isBlock_3 : decode cX8_isBlock 3 = .ok (.getfield 114, 3) := by decide +kernel
theorem dX8_isBlock_6 : decode cX8_isBlock 6 = .ok (.invokestatic 71, 3) := by decide +kernel
theorem dX8_isBlock_9 : decode cX8_isBlock 9 = .ok (.ifCond .eq 27, 3) := by decide +kernel
theorem dX8_isBlock_12 : decode cX8_isBlock 12 = .ok (.iload_n 2, 1) := by decide +kernel
theorem dX8_isBlock_13 : decode cX8_isBlock 13 = .ok (.iconst 0, 1) := by decide +kernel
theorem dX8_isBlock_14 : decode cX8_isBlock 14 = .ok (.iconst 1, 1) := by decide +kernel
theorem dX8_isBlock_15 : decode cX8_isBlock 15 = .ok (.iconst 2, 1) := by decide +kernel
theorem dX8_isBlock_16 : decode cX8_isBlock 16 = .ok (.aload_n 0, 1) := by decide +kernel
theorem dX8_isBlock_17 : decode cX8_isBlock 17 = .ok (.getfield 114, 3) := by decide +kernel
theorem dX8_isBlock_20 : decode cX8_isBlock 20 = .ok (.iload_n 1, 1) := by decide +kernel
theorem dX8_isBlock_21 : decode cX8_isBlock 21 = .ok (.isub, 1) := by decide +kernel
theorem dX8_isBlock_22 : decode cX8_isBlock 22 = .ok (.imul, 1) := by decide +kernel
theorem dX8_isBlock_23 : decode cX8_isBlock 23 = .ok (.ishl, 1) := by decide +kernel
theorem dX8_isBlock_24 : decode cX8_isBlock 24 = .ok (.iconst 1, 1) := by decide +kernel
theorem dX8_isBlock_25 : decode cX8_isBlock 25 = .ok (.isub, 1) := by decide +kernel
theorem dX8_isBlock_26 : decode cX8_isBlock 26 = .ok (.invokestatic 71, 3) := by decide +kernel
theorem dX8_isBlock_29 : decode cX8_isBlock 29 = .ok (.ifCond .eq 7, 3) := by decide +kernel
theorem dX8_isBlock_32 : decode cX8_isBlock 32 = .ok (.iconst 1, 1) := by decide +kernel
theorem dX8_isBlock_33 : decode cX8_isBlock 33 = .ok (.goto 4, 3) := by decide +kernel
theorem dX8_isBlock_36 : decode cX8_isBlock 36 = .ok (.iconst 0, 1) := by decide +kernel
theorem dX8_isBlock_37 : decode cX8_isBlock 37 = .ok (.ireturn, 1) := by decide +kernel
theorem dX8_noBlock_0 : decode cX8_noBlock 0 = .ok (.aload_n 0, 1) := by decide +kernel
theorem dX8_noBlock_1 : decode cX8_noBlock 1 = .ok (.iload_n 1, 1) := by decide +kernel
theorem dX8_noBlock_2 : decode cX8_noBlock 2 = .ok (.invokevirtual 292, 3) := by decide +kernel
theorem dX8_noBlock_5 : decode cX8_noBlock 5 = .ok (.ifCond .ne 25, 3) := by decide +kernel
theorem dX8_noBlock_8 : decode cX8_noBlock 8 = .ok (.aload_n 0, 1) := by decide +kernel
theorem dX8_noBlock_9 : decode cX8_noBlock 9 = .ok (.aload_n 0, 1) := by decide +kernel
theorem dX8_noBlock_10 : decode cX8_noBlock 10 = .ok (.iload_n 2, 1) := by decide +kernel
theorem dX8_noBlock_11 : decode cX8_noBlock 11 = .ok (.iload_n 3, 1) := by decide +kernel
theorem dX8_noBlock_12 : decode cX8_noBlock 12 = .ok (.invokevirtual 332, 3) := by decide +kernel
theorem dX8_noBlock_15 : decode cX8_noBlock 15 = .ok (.ifCond .ne 7, 3) := by decide +kernel
theorem dX8_noBlock_18 : decode cX8_noBlock 18 = .ok (.iconst 1, 1) := by decide +kernel
theorem dX8_noBlock_19 : decode cX8_noBlock 19 = .ok (.goto 4, 3) := by decide +kernel
theorem dX8_noBlock_22 : decode cX8_noBlock 22 = .ok (.iconst 0, 1) := by decide +kernel
theorem dX8_noBlock_23 : decode cX8_noBlock 23 = .ok (.iconst 2, 1) := by decide +kernel
theorem dX8_noBlock_24 : decode cX8_noBlock 24 = .ok (.invokevirtual 64, 3) := by decide +kernel
theorem dX8_noBlock_27 : decode cX8_noBlock 27 = .ok (.ifCond .eq 7, 3) := by decide +kernel
theorem dX8_noBlock_30 : decode cX8_noBlock 30 = .ok (.iconst 1, 1) := by decide +kernel
theorem dX8_noBlock_31 : decode cX8_noBlock 31 = .ok (.goto 4, 3) := by decide +kernel
theorem dX8_noBlock_34 : decode cX8_noBlock 34 = .ok (.iconst 0, 1) := by decide +kernel
theorem dX8_noBlock_35 : decode cX8_noBlock 35 = .ok (.ireturn, 1) := by decide +kernel
theorem dX8_block_0 : decode cX8_block 0 = .ok (.aload_n 0, 1) := by decide +kernel
theorem dX8_block_1 : decode cX8_block 1 = .ok (.iload_n 1, 1) := by decide +kernel
theorem dX8_block_2 : decode cX8_block 2 = .ok (.iload_n 2, 1) := by decide +kernel
theorem dX8_block_3 : decode cX8_block 3 = .ok (.iload_n 3, 1) := by decide +kernel
theorem dX8_block_4 : decode cX8_block 4 = .ok (.invokevirtual 335, 3) := by decide +kernel
theorem dX8_block_7 : decode cX8_block 7 = .ok (.ifCond .ne 26, 3) := by decide +kernel
theorem dX8_block_10 : decode cX8_block 10 = .ok (.aload_n 0, 1) := by decide +kernel
theorem dX8_block_11 : decode cX8_block 11 = .ok (.iload 4, 2) := by decide +kernel
theorem dX8_block_13 : decode cX8_block 13 = .ok (.iconst 0, 1) := by decide +kernel
theorem dX8_block_14 : decode cX8_block 14 = .ok (.iconst 3, 1) := by decide +kernel
theorem dX8_block_15 : decode cX8_block 15 = .ok (.invokestatic 71, 3) := by decide +kernel
theorem dX8_block_18 : decode cX8_block 18 = .ok (.ifCond .ne 7, 3) := by decide +kernel
theorem dX8_block_21 : decode cX8_block 21 = .ok (.iconst 1, 1) := by decide +kernel
theorem dX8_block_22 : decode cX8_block 22 = .ok (.goto 4, 3) := by decide +kernel
theorem dX8_block_25 : decode cX8_block 25 = .ok (.iconst 0, 1) := by decide +kernel
theorem dX8_block_26 : decode cX8_block 26 = .ok (.iconst 3, 1) := by decide +kernel
theorem dX8_block_27 : decode cX8_block 27 = .ok (.invokevirtual 64, 3) := by decide +kernel
theorem dX8_block_30 : decode cX8_block 30 = .ok (.ifCond .eq 5, 3) := by decide +kernel
theorem dX8_block_33 : decode cX8_block 33 = .ok (.iconst 0, 1) := by decide +kernel
theorem dX8_block_34 : decode cX8_block 34 = .ok (.ireturn, 1) := by decide +kernel
theorem dX8_block_35 : decode cX8_block 35 = .ok (.aload_n 0, 1) := by decide +kernel
theorem dX8_block_36 : decode cX8_block 36 = .ok (.iload_n 1, 1) := by decide +kernel
theorem dX8_block_37 : decode cX8_block 37 = .ok (.invokevirtual 286, 3) := by decide +kernel
theorem dX8_block_40 : decode cX8_block 40 = .ok (.aload_n 0, 1) := by decide +kernel
theorem dX8_block_41 : decode cX8_block 41 = .ok (.iload_n 2, 1) := by decide +kernel
theorem dX8_block_42 : decode cX8_block 42 = .ok (.iload_n 3, 1) := by decide +kernel
theorem dX8_block_43 : decode cX8_block 43 = .ok (.invokevirtual 97, 3) := by decide +kernel
theorem dX8_block_46 : decode cX8_block 46 = .ok (.istore 5, 2) := by decide +kernel
theorem dX8_block_48 : decode cX8_block 48 = .ok (.iload 4, 2) := by decide +kernel
theorem dX8_block_50 : decode cX8_block 50 = .ok (.tableswitch 69 0 2 #[26, 34, 61], 26) := by decide +kernel
theorem dX8_block_76 : decode cX8_block 76 = .ok (.aload_n 0, 1) := by decide +kernel
theorem dX8_block_77 : decode cX8_block 77 = .ok (.getfield 29, 3) := by decide +kernel
theorem dX8_block_80 : decode cX8_block 80 = .ok (.iload 5, 2) := by decide +kernel
theorem dX8_block_82 : decode cX8_block 82 = .ok (.iaload, 1) := by decide +kernel
theorem dX8_block_83 : decode cX8_block 83 = .ok (.ireturn, 1) := by decide +kernel
theorem dX8_block_84 : decode cX8_block 84 = .ok (.aload_n 0, 1) := by decide +kernel
theorem dX8_block_85 : decode cX8_block 85 = .ok (.bipush 8, 2) := by decide +kernel
theorem dX8_block_87 : decode cX8_block 87 = .ok (.iload_n 2, 1) := by decide +kernel
theorem dX8_block_88 : decode cX8_block 88 = .ok (.invokestatic 94, 3) := by decide +kernel
theorem dX8_block_91 : decode cX8_block 91 = .ok (.imul, 1) := by decide +kernel
theorem dX8_block_92 : decode cX8_block 92 = .ok (.iload_n 3, 1) := by decide +kernel
theorem dX8_block_93 : decode cX8_block 93 = .ok (.imul, 1) := by decide +kernel
theorem dX8_block_94 : decode cX8_block 94 = .ok (.bipush 8, 2) := by decide +kernel
theorem dX8_block_96 : decode cX8_block 96 = .ok (.iload_n 2, 1) := by decide +kernel
theorem dX8_block_97 : decode cX8_block 97 = .ok (.invokestatic 94, 3) := by decide +kernel
theorem dX8_block_100 : decode cX8_block 100 = .ok (.imul, 1) := by decide +kernel
theorem dX8_block_101 : decode cX8_block 101 = .ok (.iload_n 3, 1) := by decide +kernel
theorem dX8_block_102 : decode cX8_block 102 = .ok (.iconst 1, 1) := by decide +kernel
theorem dX8_block_103 : decode cX8_block 103 = .ok (.iadd, 1) := by decide +kernel
theorem dX8_block_104 : decode cX8_block 104 = .ok (.imul, 1) := by decide +kernel
theorem dX8_block_105 : decode cX8_block 105 = .ok (.iconst 1, 1) := by decide +kernel
theorem dX8_block_106 : decode cX8_block 106 = .ok (.isub, 1) := by decide +kernel
theorem dX8_block_107 : decode cX8_block 107 = .ok (.invokevirtual 305, 3) := by decide +kernel
theorem dX8_block_110 : decode cX8_block 110 = .ok (.ireturn, 1) := by decide +kernel
theorem dX8_block_111 : decode cX8_block 111 = .ok (.aload_n 0, 1) := by decide +kernel
theorem dX8_block_112 : decode cX8_block 112 = .ok (.getfield 32, 3) := by decide +kernel
theorem dX8_block_115 : decode cX8_block 115 = .ok (.iload 5, 2) := by decide +kernel
theorem dX8_block_117 : decode cX8_block 117 = .ok (.iaload, 1) := by decide +kernel
theorem dX8_block_118 : decode cX8_block 118 = .ok (.ireturn, 1) := by decide +kernel
theorem dX8_block_119 : decode cX8_block 119 = .ok (.aload_n 0, 1) := by decide +kernel
theorem dX8_block_120 : decode cX8_block 120 = .ok (.getfield 35, 3) := by decide +kernel
theorem dX8_block_123 : decode cX8_block 123 = .ok (.iload 5, 2) := by decide +kernel
theorem dX8_block_125 : decode cX8_block 125 = .ok (.iaload, 1) := by decide +kernel
theorem dX8_block_126 : decode cX8_block 126 = .ok (.ireturn, 1) := by decide +kernel
theorem dX8_tells_0 : decode cX8_tells 0 = .ok (.aload_n 0, 1) := by decide +kernel
theorem dX8_tells_1 : decode cX8_tells 1 = .ok (.getfield 83, 3) := by decide +kernel
theorem dX8_tells_4 : decode cX8_tells 4 = .ok (.istore_n 2, 1) := by decide +kernel
theorem dX8_tells_5 : decode cX8_tells 5 = .ok (.iconst 0, 1) := by decide +kernel
theorem dX8_tells_6 : decode cX8_tells 6 = .ok (.istore_n 3, 1) := by decide +kernel
theorem dX8_tells_7 : decode cX8_tells 7 = .ok (.iload_n 1, 1) := by decide +kernel
theorem dX8_tells_8 : decode cX8_tells 8 = .ok (.istore 4, 2) := by decide +kernel
theorem dX8_tells_10 : decode cX8_tells 10 = .ok (.iload_n 2, 1) := by decide +kernel
theorem dX8_tells_11 : decode cX8_tells 11 = .ok (.ifCond .le 99, 3) := by decide +kernel
theorem dX8_tells_14 : decode cX8_tells 14 = .ok (.bipush 8, 2) := by decide +kernel
theorem dX8_tells_16 : decode cX8_tells 16 = .ok (.iload_n 2, 1) := by decide +kernel
theorem dX8_tells_17 : decode cX8_tells 17 = .ok (.iconst 1, 1) := by decide +kernel
theorem dX8_tells_18 : decode cX8_tells 18 = .ok (.isub, 1) := by decide +kernel
theorem dX8_tells_19 : decode cX8_tells 19 = .ok (.invokestatic 94, 3) := by decide +kernel
theorem dX8_tells_22 : decode cX8_tells 22 = .ok (.imul, 1) := by decide +kernel
theorem dX8_tells_23 : decode cX8_tells 23 = .ok (.istore 5, 2) := by decide +kernel
theorem dX8_tells_25 : decode cX8_tells 25 = .ok (.iconst 4, 1) := by decide +kernel
theorem dX8_tells_26 : decode cX8_tells 26 = .ok (.iload_n 3, 1) := by decide +kernel
theorem dX8_tells_27 : decode cX8_tells 27 = .ok (.imul, 1) := by decide +kernel
theorem dX8_tells_28 : decode cX8_tells 28 = .ok (.iload 4, 2) := by decide +kernel
theorem dX8_tells_30 : decode cX8_tells 30 = .ok (.iload 5, 2) := by decide +kernel
theorem dX8_tells_32 : decode cX8_tells 32 = .ok (.idiv, 1) := by decide +kernel
theorem dX8_tells_33 : decode cX8_tells 33 = .ok (.iadd, 1) := by decide +kernel
theorem dX8_tells_34 : decode cX8_tells 34 = .ok (.istore 6, 2) := by decide +kernel
theorem dX8_tells_36 : decode cX8_tells 36 = .ok (.aload_n 0, 1) := by decide +kernel
theorem dX8_tells_37 : decode cX8_tells 37 = .ok (.getfield 29, 3) := by decide +kernel
theorem dX8_tells_40 : decode cX8_tells 40 = .ok (.aload_n 0, 1) := by decide +kernel
theorem dX8_tells_41 : decode cX8_tells 41 = .ok (.iload_n 2, 1) := by decide +kernel
theorem dX8_tells_42 : decode cX8_tells 42 = .ok (.iconst 1, 1) := by decide +kernel
theorem dX8_tells_43 : decode cX8_tells 43 = .ok (.isub, 1) := by decide +kernel
theorem dX8_tells_44 : decode cX8_tells 44 = .ok (.iload 6, 2) := by decide +kernel
theorem dX8_tells_46 : decode cX8_tells 46 = .ok (.invokevirtual 97, 3) := by decide +kernel
theorem dX8_tells_49 : decode cX8_tells 49 = .ok (.iaload, 1) := by decide +kernel
theorem dX8_tells_50 : decode cX8_tells 50 = .ok (.istore 7, 2) := by decide +kernel
theorem dX8_tells_52 : decode cX8_tells 52 = .ok (.iload 7, 2) := by decide +kernel
theorem dX8_tells_54 : decode cX8_tells 54 = .ok (.iconst 2, 1) := by decide +kernel
theorem dX8_tells_55 : decode cX8_tells 55 = .ok (.if_icmp .ge 15, 3) := by decide +kernel
theorem dX8_tells_58 : decode cX8_tells 58 = .ok (.aload_n 0, 1) := by decide +kernel
theorem dX8_tells_59 : decode cX8_tells 59 = .ok (.getfield 32, 3) := by decide +kernel
theorem dX8_tells_62 : decode cX8_tells 62 = .ok (.aload_n 0, 1) := by decide +kernel
theorem dX8_tells_63 : decode cX8_tells 63 = .ok (.iload_n 2, 1) := by decide +kernel
theorem dX8_tells_64 : decode cX8_tells 64 = .ok (.iload_n 3, 1) := by decide +kernel
theorem dX8_tells_65 : decode cX8_tells 65 = .ok (.invokevirtual 97, 3) := by decide +kernel
theorem dX8_tells_68 : decode cX8_tells 68 = .ok (.iaload, 1) := by decide +kernel
theorem dX8_tells_69 : decode cX8_tells 69 = .ok (.ireturn, 1) := by decide +kernel
theorem dX8_tells_70 : decode cX8_tells 70 = .ok (.aload_n 0, 1) := by decide +kernel
theorem dX8_tells_71 : decode cX8_tells 71 = .ok (.getfield 29, 3) := by decide +kernel
theorem dX8_tells_74 : decode cX8_tells 74 = .ok (.aload_n 0, 1) := by decide +kernel
theorem dX8_tells_75 : decode cX8_tells 75 = .ok (.iload_n 2, 1) := by decide +kernel
theorem dX8_tells_76 : decode cX8_tells 76 = .ok (.iconst 1, 1) := by decide +kernel
theorem dX8_tells_77 : decode cX8_tells 77 = .ok (.isub, 1) := by decide +kernel
theorem dX8_tells_78 : decode cX8_tells 78 = .ok (.iload 6, 2) := by decide +kernel
theorem dX8_tells_80 : decode cX8_tells 80 = .ok (.invokevirtual 97, 3) := by decide +kernel
theorem dX8_tells_83 : decode cX8_tells 83 = .ok (.iaload, 1) := by decide +kernel
theorem dX8_tells_84 : decode cX8_tells 84 = .ok (.iconst 2, 1) := by decide +kernel
theorem dX8_tells_85 : decode cX8_tells 85 = .ok (.if_icmp .eq 9, 3) := by decide +kernel
theorem dX8_tells_88 : decode cX8_tells 88 = .ok (.iinc 6 (-1), 3) := by decide +kernel
theorem dX8_tells_91 : decode cX8_tells 91 = .ok (.goto (-21), 3) := by decide +kernel
theorem dX8_tells_94 : decode cX8_tells 94 = .ok (.iload 6, 2) := by decide +kernel
theorem dX8_tells_96 : decode cX8_tells 96 = .ok (.istore_n 3, 1) := by decide +kernel
theorem dX8_tells_97 : decode cX8_tells 97 = .ok (.iload 4, 2) := by decide +kernel
theorem dX8_tells_99 : decode cX8_tells 99 = .ok (.iload 5, 2) := by decide +kernel
theorem dX8_tells_101 : decode cX8_tells 101 = .ok (.irem, 1) := by decide +kernel
theorem dX8_tells_102 : decode cX8_tells 102 = .ok (.istore 4, 2) := by decide +kernel
theorem dX8_tells_104 : decode cX8_tells 104 = .ok (.iinc 2 (-1), 3) := by decide +kernel
theorem dX8_tells_107 : decode cX8_tells 107 = .ok (.goto (-97), 3) := by decide +kernel
theorem dX8_tells_110 : decode cX8_tells 110 = .ok (.aload_n 0, 1) := by decide +kernel
theorem dX8_tells_111 : decode cX8_tells 111 = .ok (.getfield 32, 3) := by decide +kernel
theorem dX8_tells_114 : decode cX8_tells 114 = .ok (.aload_n 0, 1) := by decide +kernel
theorem dX8_tells_115 : decode cX8_tells 115 = .ok (.iconst 0, 1) := by decide +kernel
theorem dX8_tells_116 : decode cX8_tells 116 = .ok (.iload_n 3, 1) := by decide +kernel
theorem dX8_tells_117 : decode cX8_tells 117 = .ok (.invokevirtual 97, 3) := by decide +kernel
theorem dX8_tells_120 : decode cX8_tells 120 = .ok (.iaload, 1) := by decide +kernel
theorem dX8_tells_121 : decode cX8_tells 121 = .ok (.ireturn, 1) := by decide +kernel
theorem dX8_teller_0 : decode cX8_teller 0 = .ok (.aload_n 0, 1) := by decide +kernel
theorem dX8_teller_1 : decode cX8_teller 1 = .ok (.iload_n 1, 1) := by decide +kernel
theorem dX8_teller_2 : decode cX8_teller 2 = .ok (.iload_n 2, 1) := by decide +kernel
theorem dX8_teller_3 : decode cX8_teller 3 = .ok (.invokevirtual 298, 3) := by decide +kernel
theorem dX8_teller_6 : decode cX8_teller 6 = .ok (.ifCond .eq 5, 3) := by decide +kernel
theorem dX8_teller_9 : decode cX8_teller 9 = .ok (.iconst 0, 1) := by decide +kernel
theorem dX8_teller_10 : decode cX8_teller 10 = .ok (.ireturn, 1) := by decide +kernel
theorem dX8_teller_11 : decode cX8_teller 11 = .ok (.aload_n 0, 1) := by decide +kernel
theorem dX8_teller_12 : decode cX8_teller 12 = .ok (.iload_n 1, 1) := by decide +kernel
theorem dX8_teller_13 : decode cX8_teller 13 = .ok (.invokevirtual 286, 3) := by decide +kernel
theorem dX8_teller_16 : decode cX8_teller 16 = .ok (.aload_n 0, 1) := by decide +kernel
theorem dX8_teller_17 : decode cX8_teller 17 = .ok (.iload_n 2, 1) := by decide +kernel
theorem dX8_teller_18 : decode cX8_teller 18 = .ok (.invokevirtual 338, 3) := by decide +kernel
theorem dX8_teller_21 : decode cX8_teller 21 = .ok (.ireturn, 1) := by decide +kernel
theorem dX8_told_0 : decode cX8_told 0 = .ok (.aload_n 0, 1) := by decide +kernel
theorem dX8_told_1 : decode cX8_told 1 = .ok (.iload_n 1, 1) := by decide +kernel
theorem dX8_told_2 : decode cX8_told 2 = .ok (.iload_n 2, 1) := by decide +kernel
theorem dX8_told_3 : decode cX8_told 3 = .ok (.invokevirtual 323, 3) := by decide +kernel
theorem dX8_told_6 : decode cX8_told 6 = .ok (.ifCond .eq 5, 3) := by decide +kernel
theorem dX8_told_9 : decode cX8_told 9 = .ok (.iconst 0, 1) := by decide +kernel
theorem dX8_told_10 : decode cX8_told 10 = .ok (.ireturn, 1) := by decide +kernel
theorem dX8_told_11 : decode cX8_told 11 = .ok (.iconst 0, 1) := by decide +kernel
theorem dX8_told_12 : decode cX8_told 12 = .ok (.istore_n 3, 1) := by decide +kernel
theorem dX8_told_13 : decode cX8_told 13 = .ok (.iconst 0, 1) := by decide +kernel
theorem dX8_told_14 : decode cX8_told 14 = .ok (.istore 4, 2) := by decide +kernel
theorem dX8_told_16 : decode cX8_told 16 = .ok (.iload 4, 2) := by decide +kernel
theorem dX8_told_18 : decode cX8_told 18 = .ok (.aload_n 0, 1) := by decide +kernel
theorem dX8_told_19 : decode cX8_told 19 = .ok (.invokevirtual 225, 3) := by decide +kernel
theorem dX8_told_22 : decode cX8_told 22 = .ok (.if_icmp .ge 30, 3) := by decide +kernel
theorem dX8_told_25 : decode cX8_told 25 = .ok (.iload_n 3, 1) := by decide +kernel
theorem dX8_told_26 : decode cX8_told 26 = .ok (.aload_n 0, 1) := by decide +kernel
theorem dX8_told_27 : decode cX8_told 27 = .ok (.iload 4, 2) := by decide +kernel
theorem dX8_told_29 : decode cX8_told 29 = .ok (.invokevirtual 338, 3) := by decide +kernel
theorem dX8_told_32 : decode cX8_told 32 = .ok (.iload_n 2, 1) := by decide +kernel
theorem dX8_told_33 : decode cX8_told 33 = .ok (.if_icmp .ne 7, 3) := by decide +kernel
theorem dX8_told_36 : decode cX8_told 36 = .ok (.iconst 1, 1) := by decide +kernel
theorem dX8_told_37 : decode cX8_told 37 = .ok (.goto 4, 3) := by decide +kernel
theorem dX8_told_40 : decode cX8_told 40 = .ok (.iconst 0, 1) := by decide +kernel
theorem dX8_told_41 : decode cX8_told 41 = .ok (.invokestatic 314, 3) := by decide +kernel
theorem dX8_told_44 : decode cX8_told 44 = .ok (.iadd, 1) := by decide +kernel
theorem dX8_told_45 : decode cX8_told 45 = .ok (.istore_n 3, 1) := by decide +kernel
theorem dX8_told_46 : decode cX8_told 46 = .ok (.iinc 4 1, 3) := by decide +kernel
theorem dX8_told_49 : decode cX8_told 49 = .ok (.goto (-33), 3) := by decide +kernel
theorem dX8_told_52 : decode cX8_told 52 = .ok (.iload_n 3, 1) := by decide +kernel
theorem dX8_told_53 : decode cX8_told 53 = .ok (.ireturn, 1) := by decide +kernel
theorem dX8_lowest_0 : decode cX8_lowest 0 = .ok (.aload_n 0, 1) := by decide +kernel
theorem dX8_lowest_1 : decode cX8_lowest 1 = .ok (.iload_n 1, 1) := by decide +kernel
theorem dX8_lowest_2 : decode cX8_lowest 2 = .ok (.invokevirtual 292, 3) := by decide +kernel
theorem dX8_lowest_5 : decode cX8_lowest 5 = .ok (.ifCond .eq 5, 3) := by decide +kernel
theorem dX8_lowest_8 : decode cX8_lowest 8 = .ok (.iconst 0, 1) := by decide +kernel
theorem dX8_lowest_9 : decode cX8_lowest 9 = .ok (.ireturn, 1) := by decide +kernel
theorem dX8_lowest_10 : decode cX8_lowest 10 = .ok (.aload_n 0, 1) := by decide +kernel
theorem dX8_lowest_11 : decode cX8_lowest 11 = .ok (.iload_n 1, 1) := by decide +kernel
theorem dX8_lowest_12 : decode cX8_lowest 12 = .ok (.invokevirtual 286, 3) := by decide +kernel
theorem dX8_lowest_15 : decode cX8_lowest 15 = .ok (.iconst 0, 1) := by decide +kernel
theorem dX8_lowest_16 : decode cX8_lowest 16 = .ok (.istore_n 2, 1) := by decide +kernel
theorem dX8_lowest_17 : decode cX8_lowest 17 = .ok (.aload_n 0, 1) := by decide +kernel
theorem dX8_lowest_18 : decode cX8_lowest 18 = .ok (.iload_n 2, 1) := by decide +kernel
theorem dX8_lowest_19 : decode cX8_lowest 19 = .ok (.invokevirtual 326, 3) := by decide +kernel
theorem dX8_lowest_22 : decode cX8_lowest 22 = .ok (.ifCond .ne 9, 3) := by decide +kernel
theorem dX8_lowest_25 : decode cX8_lowest 25 = .ok (.iinc 2 1, 3) := by decide +kernel
theorem dX8_lowest_28 : decode cX8_lowest 28 = .ok (.goto (-11), 3) := by decide +kernel
theorem dX8_lowest_31 : decode cX8_lowest 31 = .ok (.iload_n 2, 1) := by decide +kernel
theorem dX8_lowest_32 : decode cX8_lowest 32 = .ok (.ireturn, 1) := by decide +kernel
theorem dX8_biggest_0 : decode cX8_biggest 0 = .ok (.aload_n 0, 1) := by decide +kernel
theorem dX8_biggest_1 : decode cX8_biggest 1 = .ok (.iload_n 1, 1) := by decide +kernel
theorem dX8_biggest_2 : decode cX8_biggest 2 = .ok (.invokevirtual 292, 3) := by decide +kernel
theorem dX8_biggest_5 : decode cX8_biggest 5 = .ok (.ifCond .ne 30, 3) := by decide +kernel
theorem dX8_biggest_8 : decode cX8_biggest 8 = .ok (.aload_n 0, 1) := by decide +kernel
theorem dX8_biggest_9 : decode cX8_biggest 9 = .ok (.iload_n 2, 1) := by decide +kernel
theorem dX8_biggest_10 : decode cX8_biggest 10 = .ok (.ifCond .eq 17, 3) := by decide +kernel
theorem dX8_biggest_13 : decode cX8_biggest 13 = .ok (.iload_n 2, 1) := by decide +kernel
theorem dX8_biggest_14 : decode cX8_biggest 14 = .ok (.iconst 1, 1) := by decide +kernel
theorem dX8_biggest_15 : decode cX8_biggest 15 = .ok (.if_icmp .eq 12, 3) := by decide +kernel
theorem dX8_biggest_18 : decode cX8_biggest 18 = .ok (.iload_n 2, 1) := by decide +kernel
theorem dX8_biggest_19 : decode cX8_biggest 19 = .ok (.iconst 3, 1) := by decide +kernel
theorem dX8_biggest_20 : decode cX8_biggest 20 = .ok (.if_icmp .eq 7, 3) := by decide +kernel
theorem dX8_biggest_23 : decode cX8_biggest 23 = .ok (.iconst 1, 1) := by decide +kernel
theorem dX8_biggest_24 : decode cX8_biggest 24 = .ok (.goto 4, 3) := by decide +kernel
theorem dX8_biggest_27 : decode cX8_biggest 27 = .ok (.iconst 0, 1) := by decide +kernel
theorem dX8_biggest_28 : decode cX8_biggest 28 = .ok (.iconst 3, 1) := by decide +kernel
theorem dX8_biggest_29 : decode cX8_biggest 29 = .ok (.invokevirtual 64, 3) := by decide +kernel
theorem dX8_biggest_32 : decode cX8_biggest 32 = .ok (.ifCond .eq 5, 3) := by decide +kernel
theorem dX8_biggest_35 : decode cX8_biggest 35 = .ok (.iconst 0, 1) := by decide +kernel
theorem dX8_biggest_36 : decode cX8_biggest 36 = .ok (.ireturn, 1) := by decide +kernel
theorem dX8_biggest_37 : decode cX8_biggest 37 = .ok (.aload_n 0, 1) := by decide +kernel
theorem dX8_biggest_38 : decode cX8_biggest 38 = .ok (.iload_n 1, 1) := by decide +kernel
theorem dX8_biggest_39 : decode cX8_biggest 39 = .ok (.invokevirtual 286, 3) := by decide +kernel
theorem dX8_biggest_42 : decode cX8_biggest 42 = .ok (.aload_n 0, 1) := by decide +kernel
theorem dX8_biggest_43 : decode cX8_biggest 43 = .ok (.getfield 83, 3) := by decide +kernel
theorem dX8_biggest_46 : decode cX8_biggest 46 = .ok (.iconst 1, 1) := by decide +kernel
theorem dX8_biggest_47 : decode cX8_biggest 47 = .ok (.isub, 1) := by decide +kernel
theorem dX8_biggest_48 : decode cX8_biggest 48 = .ok (.istore_n 3, 1) := by decide +kernel
theorem dX8_biggest_49 : decode cX8_biggest 49 = .ok (.iload_n 3, 1) := by decide +kernel
theorem dX8_biggest_50 : decode cX8_biggest 50 = .ok (.ifCond .lt 55, 3) := by decide +kernel
theorem dX8_biggest_53 : decode cX8_biggest 53 = .ok (.iconst 0, 1) := by decide +kernel
theorem dX8_biggest_54 : decode cX8_biggest 54 = .ok (.istore 4, 2) := by decide +kernel
theorem dX8_biggest_56 : decode cX8_biggest 56 = .ok (.iload 4, 2) := by decide +kernel
theorem dX8_biggest_58 : decode cX8_biggest 58 = .ok (.aload_n 0, 1) := by decide +kernel
theorem dX8_biggest_59 : decode cX8_biggest 59 = .ok (.iload_n 3, 1) := by decide +kernel
theorem dX8_biggest_60 : decode cX8_biggest 60 = .ok (.invokevirtual 90, 3) := by decide +kernel
theorem dX8_biggest_63 : decode cX8_biggest 63 = .ok (.if_icmp .ge 36, 3) := by decide +kernel
theorem dX8_biggest_66 : decode cX8_biggest 66 = .ok (.aload_n 0, 1) := by decide +kernel
theorem dX8_biggest_67 : decode cX8_biggest 67 = .ok (.getfield 29, 3) := by decide +kernel
theorem dX8_biggest_70 : decode cX8_biggest 70 = .ok (.aload_n 0, 1) := by decide +kernel
theorem dX8_biggest_71 : decode cX8_biggest 71 = .ok (.iload_n 3, 1) := by decide +kernel
theorem dX8_biggest_72 : decode cX8_biggest 72 = .ok (.iload 4, 2) := by decide +kernel
theorem dX8_biggest_74 : decode cX8_biggest 74 = .ok (.invokevirtual 97, 3) := by decide +kernel
theorem dX8_biggest_77 : decode cX8_biggest 77 = .ok (.iaload, 1) := by decide +kernel
theorem dX8_biggest_78 : decode cX8_biggest 78 = .ok (.iload_n 2, 1) := by decide +kernel
theorem dX8_biggest_79 : decode cX8_biggest 79 = .ok (.if_icmp .ne 14, 3) := by decide +kernel
theorem dX8_biggest_82 : decode cX8_biggest 82 = .ok (.bipush 8, 2) := by decide +kernel
theorem dX8_biggest_84 : decode cX8_biggest 84 = .ok (.iload_n 3, 1) := by decide +kernel
theorem dX8_biggest_85 : decode cX8_biggest 85 = .ok (.invokestatic 94, 3) := by decide +kernel
theorem dX8_biggest_88 : decode cX8_biggest 88 = .ok (.imul, 1) := by decide +kernel
theorem dX8_biggest_89 : decode cX8_biggest 89 = .ok (.iload 4, 2) := by decide +kernel
theorem dX8_biggest_91 : decode cX8_biggest 91 = .ok (.imul, 1) := by decide +kernel
theorem dX8_biggest_92 : decode cX8_biggest 92 = .ok (.ireturn, 1) := by decide +kernel
theorem dX8_biggest_93 : decode cX8_biggest 93 = .ok (.iinc 4 1, 3) := by decide +kernel
theorem dX8_biggest_96 : decode cX8_biggest 96 = .ok (.goto (-40), 3) := by decide +kernel
theorem dX8_biggest_99 : decode cX8_biggest 99 = .ok (.iinc 3 (-1), 3) := by decide +kernel
theorem dX8_biggest_102 : decode cX8_biggest 102 = .ok (.goto (-53), 3) := by decide +kernel
theorem dX8_biggest_105 : decode cX8_biggest 105 = .ok (.iconst (-1), 1) := by decide +kernel
theorem dX8_biggest_106 : decode cX8_biggest 106 = .ok (.ireturn, 1) := by decide +kernel
theorem dX8_cheapest_0 : decode cX8_cheapest 0 = .ok (.aload_n 0, 1) := by decide +kernel
theorem dX8_cheapest_1 : decode cX8_cheapest 1 = .ok (.invokevirtual 75, 3) := by decide +kernel
theorem dX8_cheapest_4 : decode cX8_cheapest 4 = .ok (.ifCond .eq 5, 3) := by decide +kernel
theorem dX8_cheapest_7 : decode cX8_cheapest 7 = .ok (.iconst 0, 1) := by decide +kernel
theorem dX8_cheapest_8 : decode cX8_cheapest 8 = .ok (.ireturn, 1) := by decide +kernel
theorem dX8_cheapest_9 : decode cX8_cheapest 9 = .ok (.iconst (-1), 1) := by decide +kernel
theorem dX8_cheapest_10 : decode cX8_cheapest 10 = .ok (.istore_n 1, 1) := by decide +kernel
theorem dX8_cheapest_11 : decode cX8_cheapest 11 = .ok (.iconst 0, 1) := by decide +kernel
theorem dX8_cheapest_12 : decode cX8_cheapest 12 = .ok (.istore_n 2, 1) := by decide +kernel
theorem dX8_cheapest_13 : decode cX8_cheapest 13 = .ok (.iconst 0, 1) := by decide +kernel
theorem dX8_cheapest_14 : decode cX8_cheapest 14 = .ok (.istore_n 3, 1) := by decide +kernel
theorem dX8_cheapest_15 : decode cX8_cheapest 15 = .ok (.iload_n 3, 1) := by decide +kernel
theorem dX8_cheapest_16 : decode cX8_cheapest 16 = .ok (.aload_n 0, 1) := by decide +kernel
theorem dX8_cheapest_17 : decode cX8_cheapest 17 = .ok (.getfield 68, 3) := by decide +kernel
theorem dX8_cheapest_20 : decode cX8_cheapest 20 = .ok (.if_icmp .ge 47, 3) := by decide +kernel
theorem dX8_cheapest_23 : decode cX8_cheapest 23 = .ok (.aload_n 0, 1) := by decide +kernel
theorem dX8_cheapest_24 : decode cX8_cheapest 24 = .ok (.iload_n 3, 1) := by decide +kernel
theorem dX8_cheapest_25 : decode cX8_cheapest 25 = .ok (.invokevirtual 286, 3) := by decide +kernel
theorem dX8_cheapest_28 : decode cX8_cheapest 28 = .ok (.iload_n 1, 1) := by decide +kernel
theorem dX8_cheapest_29 : decode cX8_cheapest 29 = .ok (.iconst (-1), 1) := by decide +kernel
theorem dX8_cheapest_30 : decode cX8_cheapest 30 = .ok (.if_icmp .eq 11, 3) := by decide +kernel
theorem dX8_cheapest_33 : decode cX8_cheapest 33 = .ok (.aload_n 0, 1) := by decide +kernel
theorem dX8_cheapest_34 : decode cX8_cheapest 34 = .ok (.getfield 101, 3) := by decide +kernel
theorem dX8_cheapest_37 : decode cX8_cheapest 37 = .ok (.iload_n 2, 1) := by decide +kernel
theorem dX8_cheapest_38 : decode cX8_cheapest 38 = .ok (.if_icmp .ge 7, 3) := by decide +kernel
theorem dX8_cheapest_41 : decode cX8_cheapest 41 = .ok (.iload_n 3, 1) := by decide +kernel
theorem dX8_cheapest_42 : decode cX8_cheapest 42 = .ok (.goto 4, 3) := by decide +kernel
theorem dX8_cheapest_45 : decode cX8_cheapest 45 = .ok (.iload_n 1, 1) := by decide +kernel
theorem dX8_cheapest_46 : decode cX8_cheapest 46 = .ok (.istore_n 1, 1) := by decide +kernel
theorem dX8_cheapest_47 : decode cX8_cheapest 47 = .ok (.iload_n 1, 1) := by decide +kernel
theorem dX8_cheapest_48 : decode cX8_cheapest 48 = .ok (.iload_n 3, 1) := by decide +kernel
theorem dX8_cheapest_49 : decode cX8_cheapest 49 = .ok (.if_icmp .ne 10, 3) := by decide +kernel
theorem dX8_cheapest_52 : decode cX8_cheapest 52 = .ok (.aload_n 0, 1) := by decide +kernel
theorem dX8_cheapest_53 : decode cX8_cheapest 53 = .ok (.getfield 101, 3) := by decide +kernel
theorem dX8_cheapest_56 : decode cX8_cheapest 56 = .ok (.goto 4, 3) := by decide +kernel
theorem dX8_cheapest_59 : decode cX8_cheapest 59 = .ok (.iload_n 2, 1) := by decide +kernel
theorem dX8_cheapest_60 : decode cX8_cheapest 60 = .ok (.istore_n 2, 1) := by decide +kernel
theorem dX8_cheapest_61 : decode cX8_cheapest 61 = .ok (.iinc 3 1, 3) := by decide +kernel
theorem dX8_cheapest_64 : decode cX8_cheapest 64 = .ok (.goto (-49), 3) := by decide +kernel
theorem dX8_cheapest_67 : decode cX8_cheapest 67 = .ok (.iload_n 1, 1) := by decide +kernel
theorem dX8_cheapest_68 : decode cX8_cheapest 68 = .ok (.ireturn, 1) := by decide +kernel
theorem dX8_meanBits_0 : decode cX8_meanBits 0 = .ok (.aload_n 0, 1) := by decide +kernel
theorem dX8_meanBits_1 : decode cX8_meanBits 1 = .ok (.iload_n 1, 1) := by decide +kernel
theorem dX8_meanBits_2 : decode cX8_meanBits 2 = .ok (.invokevirtual 292, 3) := by decide +kernel
theorem dX8_meanBits_5 : decode cX8_meanBits 5 = .ok (.ifCond .eq 5, 3) := by decide +kernel
theorem dX8_meanBits_8 : decode cX8_meanBits 8 = .ok (.dconst 0, 1) := by decide +kernel
theorem dX8_meanBits_9 : decode cX8_meanBits 9 = .ok (.dreturn, 1) := by decide +kernel
theorem dX8_meanBits_10 : decode cX8_meanBits 10 = .ok (.aload_n 0, 1) := by decide +kernel
theorem dX8_meanBits_11 : decode cX8_meanBits 11 = .ok (.iload_n 1, 1) := by decide +kernel
theorem dX8_meanBits_12 : decode cX8_meanBits 12 = .ok (.invokevirtual 286, 3) := by decide +kernel
theorem dX8_meanBits_15 : decode cX8_meanBits 15 = .ok (.aload_n 0, 1) := by decide +kernel
theorem dX8_meanBits_16 : decode cX8_meanBits 16 = .ok (.iconst 0, 1) := by decide +kernel
theorem dX8_meanBits_17 : decode cX8_meanBits 17 = .ok (.aload_n 0, 1) := by decide +kernel
theorem dX8_meanBits_18 : decode cX8_meanBits 18 = .ok (.invokevirtual 225, 3) := by decide +kernel
theorem dX8_meanBits_21 : decode cX8_meanBits 21 = .ok (.iconst 1, 1) := by decide +kernel
theorem dX8_meanBits_22 : decode cX8_meanBits 22 = .ok (.isub, 1) := by decide +kernel
theorem dX8_meanBits_23 : decode cX8_meanBits 23 = .ok (.invokevirtual 305, 3) := by decide +kernel
theorem dX8_meanBits_26 : decode cX8_meanBits 26 = .ok (.i2d, 1) := by decide +kernel
theorem dX8_meanBits_27 : decode cX8_meanBits 27 = .ok (.aload_n 0, 1) := by decide +kernel
theorem dX8_meanBits_28 : decode cX8_meanBits 28 = .ok (.getfield 101, 3) := by decide +kernel
theorem dX8_meanBits_31 : decode cX8_meanBits 31 = .ok (.i2d, 1) := by decide +kernel
theorem dX8_meanBits_32 : decode cX8_meanBits 32 = .ok (.ddiv, 1) := by decide +kernel
theorem dX8_meanBits_33 : decode cX8_meanBits 33 = .ok (.dreturn, 1) := by decide +kernel
theorem dX8_share_0 : decode cX8_share 0 = .ok (.aload_n 0, 1) := by decide +kernel
theorem dX8_share_1 : decode cX8_share 1 = .ok (.iload_n 1, 1) := by decide +kernel
theorem dX8_share_2 : decode cX8_share 2 = .ok (.invokevirtual 292, 3) := by decide +kernel
theorem dX8_share_5 : decode cX8_share 5 = .ok (.ifCond .eq 5, 3) := by decide +kernel
theorem dX8_share_8 : decode cX8_share 8 = .ok (.fconst 0, 1) := by decide +kernel
theorem dX8_share_9 : decode cX8_share 9 = .ok (.freturn, 1) := by decide +kernel
theorem dX8_share_10 : decode cX8_share 10 = .ok (.aload_n 0, 1) := by decide +kernel
theorem dX8_share_11 : decode cX8_share 11 = .ok (.iload_n 1, 1) := by decide +kernel
theorem dX8_share_12 : decode cX8_share 12 = .ok (.invokevirtual 286, 3) := by decide +kernel
theorem dX8_share_15 : decode cX8_share 15 = .ok (.aload_n 0, 1) := by decide +kernel
theorem dX8_share_16 : decode cX8_share 16 = .ok (.getfield 101, 3) := by decide +kernel
theorem dX8_share_19 : decode cX8_share 19 = .ok (.i2f, 1) := by decide +kernel
theorem dX8_share_20 : decode cX8_share 20 = .ok (.aload_n 0, 1) := by decide +kernel
theorem dX8_share_21 : decode cX8_share 21 = .ok (.invokevirtual 86, 3) := by decide +kernel
theorem dX8_share_24 : decode cX8_share 24 = .ok (.i2f, 1) := by decide +kernel
theorem dX8_share_25 : decode cX8_share 25 = .ok (.fdiv, 1) := by decide +kernel
theorem dX8_share_26 : decode cX8_share 26 = .ok (.freturn, 1) := by decide +kernel
theorem dX8_noPair_0 : decode cX8_noPair 0 = .ok (.aload_n 0, 1) := by decide +kernel
theorem dX8_noPair_1 : decode cX8_noPair 1 = .ok (.iload_n 1, 1) := by decide +kernel
theorem dX8_noPair_2 : decode cX8_noPair 2 = .ok (.invokevirtual 292, 3) := by decide +kernel
theorem dX8_noPair_5 : decode cX8_noPair 5 = .ok (.ifCond .ne 24, 3) := by decide +kernel
theorem dX8_noPair_8 : decode cX8_noPair 8 = .ok (.aload_n 0, 1) := by decide +kernel
theorem dX8_noPair_9 : decode cX8_noPair 9 = .ok (.aload_n 0, 1) := by decide +kernel
theorem dX8_noPair_10 : decode cX8_noPair 10 = .ok (.iload_n 2, 1) := by decide +kernel
theorem dX8_noPair_11 : decode cX8_noPair 11 = .ok (.invokevirtual 79, 3) := by decide +kernel
theorem dX8_noPair_14 : decode cX8_noPair 14 = .ok (.ifCond .ne 7, 3) := by decide +kernel
theorem dX8_noPair_17 : decode cX8_noPair 17 = .ok (.iconst 1, 1) := by decide +kernel
theorem dX8_noPair_18 : decode cX8_noPair 18 = .ok (.goto 4, 3) := by decide +kernel
theorem dX8_noPair_21 : decode cX8_noPair 21 = .ok (.iconst 0, 1) := by decide +kernel
theorem dX8_noPair_22 : decode cX8_noPair 22 = .ok (.iconst 2, 1) := by decide +kernel
theorem dX8_noPair_23 : decode cX8_noPair 23 = .ok (.invokevirtual 64, 3) := by decide +kernel
theorem dX8_noPair_26 : decode cX8_noPair 26 = .ok (.ifCond .eq 7, 3) := by decide +kernel
theorem dX8_noPair_29 : decode cX8_noPair 29 = .ok (.iconst 1, 1) := by decide +kernel
theorem dX8_noPair_30 : decode cX8_noPair 30 = .ok (.goto 4, 3) := by decide +kernel
theorem dX8_noPair_33 : decode cX8_noPair 33 = .ok (.iconst 0, 1) := by decide +kernel
theorem dX8_noPair_34 : decode cX8_noPair 34 = .ok (.ireturn, 1) := by decide +kernel
theorem dX8_byteOf_0 : decode cX8_byteOf 0 = .ok (.aload_n 0, 1) := by decide +kernel
theorem dX8_byteOf_1 : decode cX8_byteOf 1 = .ok (.getfield 13, 3) := by decide +kernel
theorem dX8_byteOf_4 : decode cX8_byteOf 4 = .ok (.sipush 256, 3) := by decide +kernel
theorem dX8_byteOf_7 : decode cX8_byteOf 7 = .ok (.iload_n 1, 1) := by decide +kernel
theorem dX8_byteOf_8 : decode cX8_byteOf 8 = .ok (.imul, 1) := by decide +kernel
theorem dX8_byteOf_9 : decode cX8_byteOf 9 = .ok (.iload_n 2, 1) := by decide +kernel
theorem dX8_byteOf_10 : decode cX8_byteOf 10 = .ok (.iadd, 1) := by decide +kernel
theorem dX8_byteOf_11 : decode cX8_byteOf 11 = .ok (.iaload, 1) := by decide +kernel
theorem dX8_byteOf_12 : decode cX8_byteOf 12 = .ok (.ireturn, 1) := by decide +kernel
theorem dX8_onesOf_0 : decode cX8_onesOf 0 = .ok (.iconst 0, 1) := by decide +kernel
theorem dX8_onesOf_1 : decode cX8_onesOf 1 = .ok (.istore_n 1, 1) := by decide +kernel
theorem dX8_onesOf_2 : decode cX8_onesOf 2 = .ok (.iconst 0, 1) := by decide +kernel
theorem dX8_onesOf_3 : decode cX8_onesOf 3 = .ok (.istore_n 2, 1) := by decide +kernel
theorem dX8_onesOf_4 : decode cX8_onesOf 4 = .ok (.iload_n 2, 1) := by decide +kernel
theorem dX8_onesOf_5 : decode cX8_onesOf 5 = .ok (.bipush 8, 2) := by decide +kernel
theorem dX8_onesOf_7 : decode cX8_onesOf 7 = .ok (.if_icmp .ge 17, 3) := by decide +kernel
theorem dX8_onesOf_10 : decode cX8_onesOf 10 = .ok (.iload_n 1, 1) := by decide +kernel
theorem dX8_onesOf_11 : decode cX8_onesOf 11 = .ok (.iload_n 0, 1) := by decide +kernel
theorem dX8_onesOf_12 : decode cX8_onesOf 12 = .ok (.iload_n 2, 1) := by decide +kernel
theorem dX8_onesOf_13 : decode cX8_onesOf 13 = .ok (.ishr, 1) := by decide +kernel
theorem dX8_onesOf_14 : decode cX8_onesOf 14 = .ok (.iconst 1, 1) := by decide +kernel
theorem dX8_onesOf_15 : decode cX8_onesOf 15 = .ok (.iand, 1) := by decide +kernel
theorem dX8_onesOf_16 : decode cX8_onesOf 16 = .ok (.iadd, 1) := by decide +kernel
theorem dX8_onesOf_17 : decode cX8_onesOf 17 = .ok (.istore_n 1, 1) := by decide +kernel
theorem dX8_onesOf_18 : decode cX8_onesOf 18 = .ok (.iinc 2 1, 3) := by decide +kernel
theorem dX8_onesOf_21 : decode cX8_onesOf 21 = .ok (.goto (-17), 3) := by decide +kernel
theorem dX8_onesOf_24 : decode cX8_onesOf 24 = .ok (.iload_n 1, 1) := by decide +kernel
theorem dX8_onesOf_25 : decode cX8_onesOf 25 = .ok (.ireturn, 1) := by decide +kernel
theorem dX8_common_0 : decode cX8_common 0 = .ok (.aload_n 0, 1) := by decide +kernel
theorem dX8_common_1 : decode cX8_common 1 = .ok (.iload_n 1, 1) := by decide +kernel
theorem dX8_common_2 : decode cX8_common 2 = .ok (.iload_n 2, 1) := by decide +kernel
theorem dX8_common_3 : decode cX8_common 3 = .ok (.invokevirtual 341, 3) := by decide +kernel
theorem dX8_common_6 : decode cX8_common 6 = .ok (.ifCond .eq 5, 3) := by decide +kernel
theorem dX8_common_9 : decode cX8_common 9 = .ok (.iconst 0, 1) := by decide +kernel
theorem dX8_common_10 : decode cX8_common 10 = .ok (.ireturn, 1) := by decide +kernel
theorem dX8_common_11 : decode cX8_common 11 = .ok (.iconst 0, 1) := by decide +kernel
theorem dX8_common_12 : decode cX8_common 12 = .ok (.istore_n 3, 1) := by decide +kernel
theorem dX8_common_13 : decode cX8_common 13 = .ok (.iconst 0, 1) := by decide +kernel
theorem dX8_common_14 : decode cX8_common 14 = .ok (.istore 4, 2) := by decide +kernel
theorem dX8_common_16 : decode cX8_common 16 = .ok (.iload 4, 2) := by decide +kernel
theorem dX8_common_18 : decode cX8_common 18 = .ok (.sipush 256, 3) := by decide +kernel
theorem dX8_common_21 : decode cX8_common 21 = .ok (.if_icmp .ge 30, 3) := by decide +kernel
theorem dX8_common_24 : decode cX8_common 24 = .ok (.iload_n 3, 1) := by decide +kernel
theorem dX8_common_25 : decode cX8_common 25 = .ok (.aload_n 0, 1) := by decide +kernel
theorem dX8_common_26 : decode cX8_common 26 = .ok (.iload_n 1, 1) := by decide +kernel
theorem dX8_common_27 : decode cX8_common 27 = .ok (.iload 4, 2) := by decide +kernel
theorem dX8_common_29 : decode cX8_common 29 = .ok (.invokevirtual 344, 3) := by decide +kernel
theorem dX8_common_32 : decode cX8_common 32 = .ok (.aload_n 0, 1) := by decide +kernel
theorem dX8_common_33 : decode cX8_common 33 = .ok (.iload_n 2, 1) := by decide +kernel
theorem dX8_common_34 : decode cX8_common 34 = .ok (.iload 4, 2) := by decide +kernel
theorem dX8_common_36 : decode cX8_common 36 = .ok (.invokevirtual 344, 3) := by decide +kernel
theorem dX8_common_39 : decode cX8_common 39 = .ok (.iand, 1) := by decide +kernel
theorem dX8_common_40 : decode cX8_common 40 = .ok (.invokestatic 347, 3) := by decide +kernel
theorem dX8_common_43 : decode cX8_common 43 = .ok (.iadd, 1) := by decide +kernel
theorem dX8_common_44 : decode cX8_common 44 = .ok (.istore_n 3, 1) := by decide +kernel
theorem dX8_common_45 : decode cX8_common 45 = .ok (.iinc 4 1, 3) := by decide +kernel
theorem dX8_common_48 : decode cX8_common 48 = .ok (.goto (-32), 3) := by decide +kernel
theorem dX8_common_51 : decode cX8_common 51 = .ok (.iload_n 3, 1) := by decide +kernel
theorem dX8_common_52 : decode cX8_common 52 = .ok (.ireturn, 1) := by decide +kernel
theorem dX8_unlike_0 : decode cX8_unlike 0 = .ok (.iconst 0, 1) := by decide +kernel
theorem dX8_unlike_1 : decode cX8_unlike 1 = .ok (.istore_n 3, 1) := by decide +kernel
theorem dX8_unlike_2 : decode cX8_unlike 2 = .ok (.iconst 0, 1) := by decide +kernel
theorem dX8_unlike_3 : decode cX8_unlike 3 = .ok (.istore 4, 2) := by decide +kernel
theorem dX8_unlike_5 : decode cX8_unlike 5 = .ok (.iload 4, 2) := by decide +kernel
theorem dX8_unlike_7 : decode cX8_unlike 7 = .ok (.sipush 256, 3) := by decide +kernel
theorem dX8_unlike_10 : decode cX8_unlike 10 = .ok (.if_icmp .ge 30, 3) := by decide +kernel
theorem dX8_unlike_13 : decode cX8_unlike 13 = .ok (.iload_n 3, 1) := by decide +kernel
theorem dX8_unlike_14 : decode cX8_unlike 14 = .ok (.aload_n 0, 1) := by decide +kernel
theorem dX8_unlike_15 : decode cX8_unlike 15 = .ok (.iload_n 1, 1) := by decide +kernel
theorem dX8_unlike_16 : decode cX8_unlike 16 = .ok (.iload 4, 2) := by decide +kernel
theorem dX8_unlike_18 : decode cX8_unlike 18 = .ok (.invokevirtual 344, 3) := by decide +kernel
theorem dX8_unlike_21 : decode cX8_unlike 21 = .ok (.aload_n 0, 1) := by decide +kernel
theorem dX8_unlike_22 : decode cX8_unlike 22 = .ok (.iload_n 2, 1) := by decide +kernel
theorem dX8_unlike_23 : decode cX8_unlike 23 = .ok (.iload 4, 2) := by decide +kernel
theorem dX8_unlike_25 : decode cX8_unlike 25 = .ok (.invokevirtual 344, 3) := by decide +kernel
theorem dX8_unlike_28 : decode cX8_unlike 28 = .ok (.ixor, 1) := by decide +kernel
theorem dX8_unlike_29 : decode cX8_unlike 29 = .ok (.invokestatic 347, 3) := by decide +kernel
theorem dX8_unlike_32 : decode cX8_unlike 32 = .ok (.iadd, 1) := by decide +kernel
theorem dX8_unlike_33 : decode cX8_unlike 33 = .ok (.istore_n 3, 1) := by decide +kernel
theorem dX8_unlike_34 : decode cX8_unlike 34 = .ok (.iinc 4 1, 3) := by decide +kernel
theorem dX8_unlike_37 : decode cX8_unlike 37 = .ok (.goto (-32), 3) := by decide +kernel
theorem dX8_unlike_40 : decode cX8_unlike 40 = .ok (.iload_n 3, 1) := by decide +kernel
theorem dX8_unlike_41 : decode cX8_unlike 41 = .ok (.ireturn, 1) := by decide +kernel
theorem dX8_distance_0 : decode cX8_distance 0 = .ok (.aload_n 0, 1) := by decide +kernel
theorem dX8_distance_1 : decode cX8_distance 1 = .ok (.iload_n 1, 1) := by decide +kernel
theorem dX8_distance_2 : decode cX8_distance 2 = .ok (.iload_n 2, 1) := by decide +kernel
theorem dX8_distance_3 : decode cX8_distance 3 = .ok (.invokevirtual 341, 3) := by decide +kernel
theorem dX8_distance_6 : decode cX8_distance 6 = .ok (.ifCond .eq 7, 3) := by decide +kernel
theorem dX8_distance_9 : decode cX8_distance 9 = .ok (.iconst 0, 1) := by decide +kernel
theorem dX8_distance_10 : decode cX8_distance 10 = .ok (.goto 9, 3) := by decide +kernel
theorem dX8_distance_13 : decode cX8_distance 13 = .ok (.aload_n 0, 1) := by decide +kernel
theorem dX8_distance_14 : decode cX8_distance 14 = .ok (.iload_n 1, 1) := by decide +kernel
theorem dX8_distance_15 : decode cX8_distance 15 = .ok (.iload_n 2, 1) := by decide +kernel
theorem dX8_distance_16 : decode cX8_distance 16 = .ok (.invokevirtual 350, 3) := by decide +kernel
theorem dX8_distance_19 : decode cX8_distance 19 = .ok (.ireturn, 1) := by decide +kernel
theorem dX8_differs_0 : decode cX8_differs 0 = .ok (.aload_n 0, 1) := by decide +kernel
theorem dX8_differs_1 : decode cX8_differs 1 = .ok (.iload_n 1, 1) := by decide +kernel
theorem dX8_differs_2 : decode cX8_differs 2 = .ok (.iload_n 2, 1) := by decide +kernel
theorem dX8_differs_3 : decode cX8_differs 3 = .ok (.invokevirtual 341, 3) := by decide +kernel
theorem dX8_differs_6 : decode cX8_differs 6 = .ok (.ifCond .eq 5, 3) := by decide +kernel
theorem dX8_differs_9 : decode cX8_differs 9 = .ok (.iconst 0, 1) := by decide +kernel
theorem dX8_differs_10 : decode cX8_differs 10 = .ok (.ireturn, 1) := by decide +kernel
theorem dX8_differs_11 : decode cX8_differs 11 = .ok (.iconst 0, 1) := by decide +kernel
theorem dX8_differs_12 : decode cX8_differs 12 = .ok (.istore_n 3, 1) := by decide +kernel
theorem dX8_differs_13 : decode cX8_differs 13 = .ok (.iload_n 3, 1) := by decide +kernel
theorem dX8_differs_14 : decode cX8_differs 14 = .ok (.sipush 2048, 3) := by decide +kernel
theorem dX8_differs_17 : decode cX8_differs 17 = .ok (.if_icmp .ge 41, 3) := by decide +kernel
theorem dX8_differs_20 : decode cX8_differs 20 = .ok (.aload_n 0, 1) := by decide +kernel
theorem dX8_differs_21 : decode cX8_differs 21 = .ok (.iload_n 1, 1) := by decide +kernel
theorem dX8_differs_22 : decode cX8_differs 22 = .ok (.iload_n 3, 1) := by decide +kernel
theorem dX8_differs_23 : decode cX8_differs 23 = .ok (.bipush 8, 2) := by decide +kernel
theorem dX8_differs_25 : decode cX8_differs 25 = .ok (.idiv, 1) := by decide +kernel
theorem dX8_differs_26 : decode cX8_differs 26 = .ok (.invokevirtual 344, 3) := by decide +kernel
theorem dX8_differs_29 : decode cX8_differs 29 = .ok (.aload_n 0, 1) := by decide +kernel
theorem dX8_differs_30 : decode cX8_differs 30 = .ok (.iload_n 2, 1) := by decide +kernel
theorem dX8_differs_31 : decode cX8_differs 31 = .ok (.iload_n 3, 1) := by decide +kernel
theorem dX8_differs_32 : decode cX8_differs 32 = .ok (.bipush 8, 2) := by decide +kernel
theorem dX8_differs_34 : decode cX8_differs 34 = .ok (.idiv, 1) := by decide +kernel
theorem dX8_differs_35 : decode cX8_differs 35 = .ok (.invokevirtual 344, 3) := by decide +kernel
theorem dX8_differs_38 : decode cX8_differs 38 = .ok (.ixor, 1) := by decide +kernel
theorem dX8_differs_39 : decode cX8_differs 39 = .ok (.iload_n 3, 1) := by decide +kernel
theorem dX8_differs_40 : decode cX8_differs 40 = .ok (.bipush 8, 2) := by decide +kernel
theorem dX8_differs_42 : decode cX8_differs 42 = .ok (.irem, 1) := by decide +kernel
theorem dX8_differs_43 : decode cX8_differs 43 = .ok (.ishr, 1) := by decide +kernel
theorem dX8_differs_44 : decode cX8_differs 44 = .ok (.iconst 1, 1) := by decide +kernel
theorem dX8_differs_45 : decode cX8_differs 45 = .ok (.iand, 1) := by decide +kernel
theorem dX8_differs_46 : decode cX8_differs 46 = .ok (.iconst 1, 1) := by decide +kernel
theorem dX8_differs_47 : decode cX8_differs 47 = .ok (.if_icmp .ne 5, 3) := by decide +kernel
theorem dX8_differs_50 : decode cX8_differs 50 = .ok (.iload_n 3, 1) := by decide +kernel
theorem dX8_differs_51 : decode cX8_differs 51 = .ok (.ireturn, 1) := by decide +kernel
theorem dX8_differs_52 : decode cX8_differs 52 = .ok (.iinc 3 1, 3) := by decide +kernel
theorem dX8_differs_55 : decode cX8_differs 55 = .ok (.goto (-42), 3) := by decide +kernel
theorem dX8_differs_58 : decode cX8_differs 58 = .ok (.iconst (-1), 1) := by decide +kernel
theorem dX8_differs_59 : decode cX8_differs 59 = .ok (.ireturn, 1) := by decide +kernel
theorem dX8_isWithin_0 : decode cX8_isWithin 0 = .ok (.aload_n 0, 1) := by decide +kernel
theorem dX8_isWithin_1 : decode cX8_isWithin 1 = .ok (.iload_n 1, 1) := by decide +kernel
theorem dX8_isWithin_2 : decode cX8_isWithin 2 = .ok (.iload_n 2, 1) := by decide +kernel
theorem dX8_isWithin_3 : decode cX8_isWithin 3 = .ok (.invokevirtual 341, 3) := by decide +kernel
theorem dX8_isWithin_6 : decode cX8_isWithin 6 = .ok (.ifCond .eq 5, 3) := by decide +kernel
theorem dX8_isWithin_9 : decode cX8_isWithin 9 = .ok (.iconst 0, 1) := by decide +kernel
theorem dX8_isWithin_10 : decode cX8_isWithin 10 = .ok (.ireturn, 1) := by decide +kernel
theorem dX8_isWithin_11 : decode cX8_isWithin 11 = .ok (.iconst 1, 1) := by decide +kernel
theorem dX8_isWithin_12 : decode cX8_isWithin 12 = .ok (.istore_n 3, 1) := by decide +kernel
theorem dX8_isWithin_13 : decode cX8_isWithin 13 = .ok (.iconst 0, 1) := by decide +kernel
theorem dX8_isWithin_14 : decode cX8_isWithin 14 = .ok (.istore 4, 2) := by decide +kernel
theorem dX8_isWithin_16 : decode cX8_isWithin 16 = .ok (.iload 4, 2) := by decide +kernel
theorem dX8_isWithin_18 : decode cX8_isWithin 18 = .ok (.sipush 256, 3) := by decide +kernel
theorem dX8_isWithin_21 : decode cX8_isWithin 21 = .ok (.if_icmp .ge 39, 3) := by decide +kernel
theorem dX8_isWithin_24 : decode cX8_isWithin 24 = .ok (.iload_n 3, 1) := by decide +kernel
theorem dX8_isWithin_25 : decode cX8_isWithin 25 = .ok (.ifCond .eq 27, 3) := by decide +kernel
theorem dX8_isWithin_28 : decode cX8_isWithin 28 = .ok (.aload_n 0, 1) := by decide +kernel
theorem dX8_isWithin_29 : decode cX8_isWithin 29 = .ok (.iload_n 1, 1) := by decide +kernel
theorem dX8_isWithin_30 : decode cX8_isWithin 30 = .ok (.iload 4, 2) := by decide +kernel
theorem dX8_isWithin_32 : decode cX8_isWithin 32 = .ok (.invokevirtual 344, 3) := by decide +kernel
theorem dX8_isWithin_35 : decode cX8_isWithin 35 = .ok (.aload_n 0, 1) := by decide +kernel
theorem dX8_isWithin_36 : decode cX8_isWithin 36 = .ok (.iload_n 2, 1) := by decide +kernel
theorem dX8_isWithin_37 : decode cX8_isWithin 37 = .ok (.iload 4, 2) := by decide +kernel
theorem dX8_isWithin_39 : decode cX8_isWithin 39 = .ok (.invokevirtual 344, 3) := by decide +kernel
theorem dX8_isWithin_42 : decode cX8_isWithin 42 = .ok (.iconst (-1), 1) := by decide +kernel
theorem dX8_isWithin_43 : decode cX8_isWithin 43 = .ok (.ixor, 1) := by decide +kernel
theorem dX8_isWithin_44 : decode cX8_isWithin 44 = .ok (.iand, 1) := by decide +kernel
theorem dX8_isWithin_45 : decode cX8_isWithin 45 = .ok (.ifCond .ne 7, 3) := by decide +kernel
theorem dX8_isWithin_48 : decode cX8_isWithin 48 = .ok (.iconst 1, 1) := by decide +kernel
theorem dX8_isWithin_49 : decode cX8_isWithin 49 = .ok (.goto 4, 3) := by decide +kernel
theorem dX8_isWithin_52 : decode cX8_isWithin 52 = .ok (.iconst 0, 1) := by decide +kernel
theorem dX8_isWithin_53 : decode cX8_isWithin 53 = .ok (.istore_n 3, 1) := by decide +kernel
theorem dX8_isWithin_54 : decode cX8_isWithin 54 = .ok (.iinc 4 1, 3) := by decide +kernel
theorem dX8_isWithin_57 : decode cX8_isWithin 57 = .ok (.goto (-41), 3) := by decide +kernel
theorem dX8_isWithin_60 : decode cX8_isWithin 60 = .ok (.iload_n 3, 1) := by decide +kernel
theorem dX8_isWithin_61 : decode cX8_isWithin 61 = .ok (.ireturn, 1) := by decide +kernel
theorem dX8_alike_0 : decode cX8_alike 0 = .ok (.aload_n 0, 1) := by decide +kernel
theorem dX8_alike_1 : decode cX8_alike 1 = .ok (.iload_n 1, 1) := by decide +kernel
theorem dX8_alike_2 : decode cX8_alike 2 = .ok (.iload_n 2, 1) := by decide +kernel
theorem dX8_alike_3 : decode cX8_alike 3 = .ok (.invokevirtual 341, 3) := by decide +kernel
theorem dX8_alike_6 : decode cX8_alike 6 = .ok (.ifCond .ne 28, 3) := by decide +kernel
theorem dX8_alike_9 : decode cX8_alike 9 = .ok (.aload_n 0, 1) := by decide +kernel
theorem dX8_alike_10 : decode cX8_alike 10 = .ok (.iload_n 3, 1) := by decide +kernel
theorem dX8_alike_11 : decode cX8_alike 11 = .ok (.iconst 0, 1) := by decide +kernel
theorem dX8_alike_12 : decode cX8_alike 12 = .ok (.aload_n 0, 1) := by decide +kernel
theorem dX8_alike_13 : decode cX8_alike 13 = .ok (.getfield 114, 3) := by decide +kernel
theorem dX8_alike_16 : decode cX8_alike 16 = .ok (.invokestatic 71, 3) := by decide +kernel
theorem dX8_alike_19 : decode cX8_alike 19 = .ok (.ifCond .ne 7, 3) := by decide +kernel
theorem dX8_alike_22 : decode cX8_alike 22 = .ok (.iconst 1, 1) := by decide +kernel
theorem dX8_alike_23 : decode cX8_alike 23 = .ok (.goto 4, 3) := by decide +kernel
theorem dX8_alike_26 : decode cX8_alike 26 = .ok (.iconst 0, 1) := by decide +kernel
theorem dX8_alike_27 : decode cX8_alike 27 = .ok (.iconst 2, 1) := by decide +kernel
theorem dX8_alike_28 : decode cX8_alike 28 = .ok (.invokevirtual 64, 3) := by decide +kernel
theorem dX8_alike_31 : decode cX8_alike 31 = .ok (.ifCond .eq 5, 3) := by decide +kernel
theorem dX8_alike_34 : decode cX8_alike 34 = .ok (.iconst 0, 1) := by decide +kernel
theorem dX8_alike_35 : decode cX8_alike 35 = .ok (.ireturn, 1) := by decide +kernel
theorem dX8_alike_36 : decode cX8_alike 36 = .ok (.iconst 0, 1) := by decide +kernel
theorem dX8_alike_37 : decode cX8_alike 37 = .ok (.istore 4, 2) := by decide +kernel
theorem dX8_alike_39 : decode cX8_alike 39 = .ok (.iconst 0, 1) := by decide +kernel
theorem dX8_alike_40 : decode cX8_alike 40 = .ok (.istore 5, 2) := by decide +kernel
theorem dX8_alike_42 : decode cX8_alike 42 = .ok (.iload 5, 2) := by decide +kernel
theorem dX8_alike_44 : decode cX8_alike 44 = .ok (.iconst 1, 1) := by decide +kernel
theorem dX8_alike_45 : decode cX8_alike 45 = .ok (.iconst 2, 1) := by decide +kernel
theorem dX8_alike_46 : decode cX8_alike 46 = .ok (.aload_n 0, 1) := by decide +kernel
theorem dX8_alike_47 : decode cX8_alike 47 = .ok (.getfield 114, 3) := by decide +kernel
theorem dX8_alike_50 : decode cX8_alike 50 = .ok (.iload_n 3, 1) := by decide +kernel
theorem dX8_alike_51 : decode cX8_alike 51 = .ok (.isub, 1) := by decide +kernel
theorem dX8_alike_52 : decode cX8_alike 52 = .ok (.imul, 1) := by decide +kernel
theorem dX8_alike_53 : decode cX8_alike 53 = .ok (.ishl, 1) := by decide +kernel
theorem dX8_alike_54 : decode cX8_alike 54 = .ok (.if_icmp .ge 85, 3) := by decide +kernel
theorem dX8_alike_57 : decode cX8_alike 57 = .ok (.iconst 1, 1) := by decide +kernel
theorem dX8_alike_58 : decode cX8_alike 58 = .ok (.istore 6, 2) := by decide +kernel
theorem dX8_alike_60 : decode cX8_alike 60 = .ok (.iconst 0, 1) := by decide +kernel
theorem dX8_alike_61 : decode cX8_alike 61 = .ok (.istore 7, 2) := by decide +kernel
theorem dX8_alike_63 : decode cX8_alike 63 = .ok (.iload 7, 2) := by decide +kernel
theorem dX8_alike_65 : decode cX8_alike 65 = .ok (.iload_n 3, 1) := by decide +kernel
theorem dX8_alike_66 : decode cX8_alike 66 = .ok (.invokestatic 94, 3) := by decide +kernel
theorem dX8_alike_69 : decode cX8_alike 69 = .ok (.if_icmp .ge 54, 3) := by decide +kernel
theorem dX8_alike_72 : decode cX8_alike 72 = .ok (.iload 6, 2) := by decide +kernel
theorem dX8_alike_74 : decode cX8_alike 74 = .ok (.ifCond .eq 40, 3) := by decide +kernel
theorem dX8_alike_77 : decode cX8_alike 77 = .ok (.aload_n 0, 1) := by decide +kernel
theorem dX8_alike_78 : decode cX8_alike 78 = .ok (.iload_n 1, 1) := by decide +kernel
theorem dX8_alike_79 : decode cX8_alike 79 = .ok (.iload_n 3, 1) := by decide +kernel
theorem dX8_alike_80 : decode cX8_alike 80 = .ok (.invokestatic 94, 3) := by decide +kernel
theorem dX8_alike_83 : decode cX8_alike 83 = .ok (.iload 5, 2) := by decide +kernel
theorem dX8_alike_85 : decode cX8_alike 85 = .ok (.imul, 1) := by decide +kernel
theorem dX8_alike_86 : decode cX8_alike 86 = .ok (.iload 7, 2) := by decide +kernel
theorem dX8_alike_88 : decode cX8_alike 88 = .ok (.iadd, 1) := by decide +kernel
theorem dX8_alike_89 : decode cX8_alike 89 = .ok (.invokevirtual 344, 3) := by decide +kernel
theorem dX8_alike_92 : decode cX8_alike 92 = .ok (.aload_n 0, 1) := by decide +kernel
theorem dX8_alike_93 : decode cX8_alike 93 = .ok (.iload_n 2, 1) := by decide +kernel
theorem dX8_alike_94 : decode cX8_alike 94 = .ok (.iload_n 3, 1) := by decide +kernel
theorem dX8_alike_95 : decode cX8_alike 95 = .ok (.invokestatic 94, 3) := by decide +kernel
theorem dX8_alike_98 : decode cX8_alike 98 = .ok (.iload 5, 2) := by decide +kernel
theorem dX8_alike_100 : decode cX8_alike 100 = .ok (.imul, 1) := by decide +kernel
theorem dX8_alike_101 : decode cX8_alike 101 = .ok (.iload 7, 2) := by decide +kernel
theorem dX8_alike_103 : decode cX8_alike 103 = .ok (.iadd, 1) := by decide +kernel
theorem dX8_alike_104 : decode cX8_alike 104 = .ok (.invokevirtual 344, 3) := by decide +kernel
theorem dX8_alike_107 : decode cX8_alike 107 = .ok (.if_icmp .ne 7, 3) := by decide +kernel
theorem dX8_alike_110 : decode cX8_alike 110 = .ok (.iconst 1, 1) := by decide +kernel
theorem dX8_alike_111 : decode cX8_alike 111 = .ok (.goto 4, 3) := by decide +kernel
theorem dX8_alike_114 : decode cX8_alike 114 = .ok (.iconst 0, 1) := by decide +kernel
theorem dX8_alike_115 : decode cX8_alike 115 = .ok (.istore 6, 2) := by decide +kernel
theorem dX8_alike_117 : decode cX8_alike 117 = .ok (.iinc 7 1, 3) := by decide +kernel
theorem dX8_alike_120 : decode cX8_alike 120 = .ok (.goto (-57), 3) := by decide +kernel
theorem dX8_alike_123 : decode cX8_alike 123 = .ok (.iload 4, 2) := by decide +kernel
theorem dX8_alike_125 : decode cX8_alike 125 = .ok (.iload 6, 2) := by decide +kernel
theorem dX8_alike_127 : decode cX8_alike 127 = .ok (.invokestatic 314, 3) := by decide +kernel
theorem dX8_alike_130 : decode cX8_alike 130 = .ok (.iadd, 1) := by decide +kernel
theorem dX8_alike_131 : decode cX8_alike 131 = .ok (.istore 4, 2) := by decide +kernel
theorem dX8_alike_133 : decode cX8_alike 133 = .ok (.iinc 5 1, 3) := by decide +kernel
theorem dX8_alike_136 : decode cX8_alike 136 = .ok (.goto (-94), 3) := by decide +kernel
theorem dX8_alike_139 : decode cX8_alike 139 = .ok (.iload 4, 2) := by decide +kernel
theorem dX8_alike_141 : decode cX8_alike 141 = .ok (.ireturn, 1) := by decide +kernel
theorem dX8_joined_0 : decode cX8_joined 0 = .ok (.iload_n 0, 1) := by decide +kernel
theorem dX8_joined_1 : decode cX8_joined 1 = .ok (.tableswitch 41 0 2 #[27, 31, 35], 27) := by decide +kernel
theorem dX8_joined_28 : decode cX8_joined 28 = .ok (.iload_n 1, 1) := by decide +kernel
theorem dX8_joined_29 : decode cX8_joined 29 = .ok (.iload_n 2, 1) := by decide +kernel
theorem dX8_joined_30 : decode cX8_joined 30 = .ok (.ior, 1) := by decide +kernel
theorem dX8_joined_31 : decode cX8_joined 31 = .ok (.ireturn, 1) := by decide +kernel
theorem dX8_joined_32 : decode cX8_joined 32 = .ok (.iload_n 1, 1) := by decide +kernel
theorem dX8_joined_33 : decode cX8_joined 33 = .ok (.iload_n 2, 1) := by decide +kernel
theorem dX8_joined_34 : decode cX8_joined 34 = .ok (.iand, 1) := by decide +kernel
theorem dX8_joined_35 : decode cX8_joined 35 = .ok (.ireturn, 1) := by decide +kernel
theorem dX8_joined_36 : decode cX8_joined 36 = .ok (.iload_n 1, 1) := by decide +kernel
theorem dX8_joined_37 : decode cX8_joined 37 = .ok (.iload_n 2, 1) := by decide +kernel
theorem dX8_joined_38 : decode cX8_joined 38 = .ok (.iconst (-1), 1) := by decide +kernel
theorem dX8_joined_39 : decode cX8_joined 39 = .ok (.ixor, 1) := by decide +kernel
theorem dX8_joined_40 : decode cX8_joined 40 = .ok (.iand, 1) := by decide +kernel
theorem dX8_joined_41 : decode cX8_joined 41 = .ok (.ireturn, 1) := by decide +kernel
theorem dX8_joined_42 : decode cX8_joined 42 = .ok (.iload_n 1, 1) := by decide +kernel
theorem dX8_joined_43 : decode cX8_joined 43 = .ok (.iload_n 2, 1) := by decide +kernel
theorem dX8_joined_44 : decode cX8_joined 44 = .ok (.ixor, 1) := by decide +kernel
theorem dX8_joined_45 : decode cX8_joined 45 = .ok (.ireturn, 1) := by decide +kernel
theorem dX8_combines_0 : decode cX8_combines 0 = .ok (.aload_n 0, 1) := by decide +kernel
theorem dX8_combines_1 : decode cX8_combines 1 = .ok (.aload_n 0, 1) := by decide +kernel
theorem dX8_combines_2 : decode cX8_combines 2 = .ok (.getfield 114, 3) := by decide +kernel
theorem dX8_combines_5 : decode cX8_combines 5 = .ok (.putfield 83, 3) := by decide +kernel
theorem dX8_combines_8 : decode cX8_combines 8 = .ok (.iconst 0, 1) := by decide +kernel
theorem dX8_combines_9 : decode cX8_combines 9 = .ok (.istore 4, 2) := by decide +kernel
theorem dX8_combines_11 : decode cX8_combines 11 = .ok (.iload 4, 2) := by decide +kernel
theorem dX8_combines_13 : decode cX8_combines 13 = .ok (.aload_n 0, 1) := by decide +kernel
theorem dX8_combines_14 : decode cX8_combines 14 = .ok (.invokevirtual 86, 3) := by decide +kernel
theorem dX8_combines_17 : decode cX8_combines 17 = .ok (.if_icmp .ge 34, 3) := by decide +kernel
theorem dX8_combines_20 : decode cX8_combines 20 = .ok (.aload_n 0, 1) := by decide +kernel
theorem dX8_combines_21 : decode cX8_combines 21 = .ok (.getfield 23, 3) := by decide +kernel
theorem dX8_combines_24 : decode cX8_combines 24 = .ok (.iload 4, 2) := by decide +kernel
theorem dX8_combines_26 : decode cX8_combines 26 = .ok (.iload_n 1, 1) := by decide +kernel
theorem dX8_combines_27 : decode cX8_combines 27 = .ok (.aload_n 0, 1) := by decide +kernel
theorem dX8_combines_28 : decode cX8_combines 28 = .ok (.iload_n 2, 1) := by decide +kernel
theorem dX8_combines_29 : decode cX8_combines 29 = .ok (.iload 4, 2) := by decide +kernel
theorem dX8_combines_31 : decode cX8_combines 31 = .ok (.invokevirtual 344, 3) := by decide +kernel
theorem dX8_combines_34 : decode cX8_combines 34 = .ok (.aload_n 0, 1) := by decide +kernel
theorem dX8_combines_35 : decode cX8_combines 35 = .ok (.iload_n 3, 1) := by decide +kernel
theorem dX8_combines_36 : decode cX8_combines 36 = .ok (.iload 4, 2) := by decide +kernel
theorem dX8_combines_38 : decode cX8_combines 38 = .ok (.invokevirtual 344, 3) := by decide +kernel
theorem dX8_combines_41 : decode cX8_combines 41 = .ok (.invokestatic 353, 3) := by decide +kernel
theorem dX8_combines_44 : decode cX8_combines 44 = .ok (.iastore, 1) := by decide +kernel
theorem dX8_combines_45 : decode cX8_combines 45 = .ok (.iinc 4 1, 3) := by decide +kernel
theorem dX8_combines_48 : decode cX8_combines 48 = .ok (.goto (-37), 3) := by decide +kernel
theorem dX8_combines_51 : decode cX8_combines 51 = .ok (.return_, 1) := by decide +kernel
theorem dX8_combined_0 : decode cX8_combined 0 = .ok (.aload_n 0, 1) := by decide +kernel
theorem dX8_combined_1 : decode cX8_combined 1 = .ok (.iload_n 2, 1) := by decide +kernel
theorem dX8_combined_2 : decode cX8_combined 2 = .ok (.iload_n 3, 1) := by decide +kernel
theorem dX8_combined_3 : decode cX8_combined 3 = .ok (.invokevirtual 341, 3) := by decide +kernel
theorem dX8_combined_6 : decode cX8_combined 6 = .ok (.ifCond .ne 25, 3) := by decide +kernel
theorem dX8_combined_9 : decode cX8_combined 9 = .ok (.aload_n 0, 1) := by decide +kernel
theorem dX8_combined_10 : decode cX8_combined 10 = .ok (.iload_n 1, 1) := by decide +kernel
theorem dX8_combined_11 : decode cX8_combined 11 = .ok (.iconst 0, 1) := by decide +kernel
theorem dX8_combined_12 : decode cX8_combined 12 = .ok (.iconst 3, 1) := by decide +kernel
theorem dX8_combined_13 : decode cX8_combined 13 = .ok (.invokestatic 71, 3) := by decide +kernel
theorem dX8_combined_16 : decode cX8_combined 16 = .ok (.ifCond .ne 7, 3) := by decide +kernel
theorem dX8_combined_19 : decode cX8_combined 19 = .ok (.iconst 1, 1) := by decide +kernel
theorem dX8_combined_20 : decode cX8_combined 20 = .ok (.goto 4, 3) := by decide +kernel
theorem dX8_combined_23 : decode cX8_combined 23 = .ok (.iconst 0, 1) := by decide +kernel
theorem dX8_combined_24 : decode cX8_combined 24 = .ok (.iconst 3, 1) := by decide +kernel
theorem dX8_combined_25 : decode cX8_combined 25 = .ok (.invokevirtual 64, 3) := by decide +kernel
theorem dX8_combined_28 : decode cX8_combined 28 = .ok (.ifCond .eq 5, 3) := by decide +kernel
theorem dX8_combined_31 : decode cX8_combined 31 = .ok (.iconst 0, 1) := by decide +kernel
theorem dX8_combined_32 : decode cX8_combined 32 = .ok (.ireturn, 1) := by decide +kernel
theorem dX8_combined_33 : decode cX8_combined 33 = .ok (.aload_n 0, 1) := by decide +kernel
theorem dX8_combined_34 : decode cX8_combined 34 = .ok (.iload_n 1, 1) := by decide +kernel
theorem dX8_combined_35 : decode cX8_combined 35 = .ok (.iload_n 2, 1) := by decide +kernel
theorem dX8_combined_36 : decode cX8_combined 36 = .ok (.iload_n 3, 1) := by decide +kernel
theorem dX8_combined_37 : decode cX8_combined 37 = .ok (.invokevirtual 357, 3) := by decide +kernel
theorem dX8_combined_40 : decode cX8_combined 40 = .ok (.aload_n 0, 1) := by decide +kernel
theorem dX8_combined_41 : decode cX8_combined 41 = .ok (.invokevirtual 121, 3) := by decide +kernel
theorem dX8_combined_44 : decode cX8_combined 44 = .ok (.aload_n 0, 1) := by decide +kernel
theorem dX8_combined_45 : decode cX8_combined 45 = .ok (.getfield 101, 3) := by decide +kernel
theorem dX8_combined_48 : decode cX8_combined 48 = .ok (.ireturn, 1) := by decide +kernel
theorem dX8_nearest_0 : decode cX8_nearest 0 = .ok (.aload_n 0, 1) := by decide +kernel
theorem dX8_nearest_1 : decode cX8_nearest 1 = .ok (.iload_n 1, 1) := by decide +kernel
theorem dX8_nearest_2 : decode cX8_nearest 2 = .ok (.invokevirtual 292, 3) := by decide +kernel
theorem dX8_nearest_5 : decode cX8_nearest 5 = .ok (.ifCond .eq 5, 3) := by decide +kernel
theorem dX8_nearest_8 : decode cX8_nearest 8 = .ok (.iconst 0, 1) := by decide +kernel
theorem dX8_nearest_9 : decode cX8_nearest 9 = .ok (.ireturn, 1) := by decide +kernel
theorem dX8_nearest_10 : decode cX8_nearest 10 = .ok (.iconst (-1), 1) := by decide +kernel
theorem dX8_nearest_11 : decode cX8_nearest 11 = .ok (.istore_n 2, 1) := by decide +kernel
theorem dX8_nearest_12 : decode cX8_nearest 12 = .ok (.iconst 0, 1) := by decide +kernel
theorem dX8_nearest_13 : decode cX8_nearest 13 = .ok (.istore_n 3, 1) := by decide +kernel
theorem dX8_nearest_14 : decode cX8_nearest 14 = .ok (.iload_n 3, 1) := by decide +kernel
theorem dX8_nearest_15 : decode cX8_nearest 15 = .ok (.aload_n 0, 1) := by decide +kernel
theorem dX8_nearest_16 : decode cX8_nearest 16 = .ok (.getfield 68, 3) := by decide +kernel
theorem dX8_nearest_19 : decode cX8_nearest 19 = .ok (.if_icmp .ge 40, 3) := by decide +kernel
theorem dX8_nearest_22 : decode cX8_nearest 22 = .ok (.iload_n 3, 1) := by decide +kernel
theorem dX8_nearest_23 : decode cX8_nearest 23 = .ok (.iload_n 1, 1) := by decide +kernel
theorem dX8_nearest_24 : decode cX8_nearest 24 = .ok (.if_icmp .eq 27, 3) := by decide +kernel
theorem dX8_nearest_27 : decode cX8_nearest 27 = .ok (.iload_n 2, 1) := by decide +kernel
theorem dX8_nearest_28 : decode cX8_nearest 28 = .ok (.iconst (-1), 1) := by decide +kernel
theorem dX8_nearest_29 : decode cX8_nearest 29 = .ok (.if_icmp .eq 18, 3) := by decide +kernel
theorem dX8_nearest_32 : decode cX8_nearest 32 = .ok (.aload_n 0, 1) := by decide +kernel
theorem dX8_nearest_33 : decode cX8_nearest 33 = .ok (.iload_n 1, 1) := by decide +kernel
theorem dX8_nearest_34 : decode cX8_nearest 34 = .ok (.iload_n 3, 1) := by decide +kernel
theorem dX8_nearest_35 : decode cX8_nearest 35 = .ok (.invokevirtual 350, 3) := by decide +kernel
theorem dX8_nearest_38 : decode cX8_nearest 38 = .ok (.aload_n 0, 1) := by decide +kernel
theorem dX8_nearest_39 : decode cX8_nearest 39 = .ok (.iload_n 1, 1) := by decide +kernel
theorem dX8_nearest_40 : decode cX8_nearest 40 = .ok (.iload_n 2, 1) := by decide +kernel
theorem dX8_nearest_41 : decode cX8_nearest 41 = .ok (.invokevirtual 350, 3) := by decide +kernel
theorem dX8_nearest_44 : decode cX8_nearest 44 = .ok (.if_icmp .ge 7, 3) := by decide +kernel
theorem dX8_nearest_47 : decode cX8_nearest 47 = .ok (.iload_n 3, 1) := by decide +kernel
theorem dX8_nearest_48 : decode cX8_nearest 48 = .ok (.goto 4, 3) := by decide +kernel
theorem dX8_nearest_51 : decode cX8_nearest 51 = .ok (.iload_n 2, 1) := by decide +kernel
theorem dX8_nearest_52 : decode cX8_nearest 52 = .ok (.istore_n 2, 1) := by decide +kernel
theorem dX8_nearest_53 : decode cX8_nearest 53 = .ok (.iinc 3 1, 3) := by decide +kernel
theorem dX8_nearest_56 : decode cX8_nearest 56 = .ok (.goto (-42), 3) := by decide +kernel
theorem dX8_nearest_59 : decode cX8_nearest 59 = .ok (.iload_n 2, 1) := by decide +kernel
theorem dX8_nearest_60 : decode cX8_nearest 60 = .ok (.ireturn, 1) := by decide +kernel
theorem dX8_bytesWithOther_0 : decode cX8_bytesWithOther 0 = .ok (.aload_n 0, 1) := by decide +kernel
theorem dX8_bytesWithOther_1 : decode cX8_bytesWithOther 1 = .ok (.iload_n 1, 1) := by decide +kernel
theorem dX8_bytesWithOther_2 : decode cX8_bytesWithOther 2 = .ok (.iconst 1, 1) := by decide +kernel
theorem dX8_bytesWithOther_3 : decode cX8_bytesWithOther 3 = .ok (.aload_n 0, 1) := by decide +kernel
theorem dX8_bytesWithOther_4 : decode cX8_bytesWithOther 4 = .ok (.iload_n 1, 1) := by decide +kernel
theorem dX8_bytesWithOther_5 : decode cX8_bytesWithOther 5 = .ok (.invokevirtual 234, 3) := by decide +kernel
theorem dX8_bytesWithOther_8 : decode cX8_bytesWithOther 8 = .ok (.isub, 1) := by decide +kernel
theorem dX8_bytesWithOther_9 : decode cX8_bytesWithOther 9 = .ok (.invokevirtual 237, 3) := by decide +kernel
theorem dX8_bytesWithOther_12 : decode cX8_bytesWithOther 12 = .ok (.aload_n 0, 1) := by decide +kernel
theorem dX8_bytesWithOther_13 : decode cX8_bytesWithOther 13 = .ok (.invokevirtual 121, 3) := by decide +kernel
theorem dX8_bytesWithOther_16 : decode cX8_bytesWithOther 16 = .ok (.aload_n 0, 1) := by decide +kernel
theorem dX8_bytesWithOther_17 : decode cX8_bytesWithOther 17 = .ok (.iload_n 1, 1) := by decide +kernel
theorem dX8_bytesWithOther_18 : decode cX8_bytesWithOther 18 = .ok (.iconst 1, 1) := by decide +kernel
theorem dX8_bytesWithOther_19 : decode cX8_bytesWithOther 19 = .ok (.aload_n 0, 1) := by decide +kernel
theorem dX8_bytesWithOther_20 : decode cX8_bytesWithOther 20 = .ok (.iload_n 1, 1) := by decide +kernel
theorem dX8_bytesWithOther_21 : decode cX8_bytesWithOther 21 = .ok (.invokevirtual 234, 3) := by decide +kernel
theorem dX8_bytesWithOther_24 : decode cX8_bytesWithOther 24 = .ok (.isub, 1) := by decide +kernel
theorem dX8_bytesWithOther_25 : decode cX8_bytesWithOther 25 = .ok (.invokevirtual 237, 3) := by decide +kernel
theorem dX8_bytesWithOther_28 : decode cX8_bytesWithOther 28 = .ok (.aload_n 0, 1) := by decide +kernel
theorem dX8_bytesWithOther_29 : decode cX8_bytesWithOther 29 = .ok (.getfield 101, 3) := by decide +kernel
theorem dX8_bytesWithOther_32 : decode cX8_bytesWithOther 32 = .ok (.ireturn, 1) := by decide +kernel
theorem dX8_bytesIf_0 : decode cX8_bytesIf 0 = .ok (.aload_n 0, 1) := by decide +kernel
theorem dX8_bytesIf_1 : decode cX8_bytesIf 1 = .ok (.iload_n 1, 1) := by decide +kernel
theorem dX8_bytesIf_2 : decode cX8_bytesIf 2 = .ok (.iload_n 2, 1) := by decide +kernel
theorem dX8_bytesIf_3 : decode cX8_bytesIf 3 = .ok (.invokevirtual 298, 3) := by decide +kernel
theorem dX8_bytesIf_6 : decode cX8_bytesIf 6 = .ok (.ifCond .eq 5, 3) := by decide +kernel
theorem dX8_bytesIf_9 : decode cX8_bytesIf 9 = .ok (.iconst 0, 1) := by decide +kernel
theorem dX8_bytesIf_10 : decode cX8_bytesIf 10 = .ok (.ireturn, 1) := by decide +kernel
theorem dX8_bytesIf_11 : decode cX8_bytesIf 11 = .ok (.aload_n 0, 1) := by decide +kernel
theorem dX8_bytesIf_12 : decode cX8_bytesIf 12 = .ok (.iload_n 1, 1) := by decide +kernel
theorem dX8_bytesIf_13 : decode cX8_bytesIf 13 = .ok (.invokevirtual 117, 3) := by decide +kernel
theorem dX8_bytesIf_16 : decode cX8_bytesIf 16 = .ok (.aload_n 0, 1) := by decide +kernel
theorem dX8_bytesIf_17 : decode cX8_bytesIf 17 = .ok (.iload_n 2, 1) := by decide +kernel
theorem dX8_bytesIf_18 : decode cX8_bytesIf 18 = .ok (.invokevirtual 360, 3) := by decide +kernel
theorem dX8_bytesIf_21 : decode cX8_bytesIf 21 = .ok (.ireturn, 1) := by decide +kernel
theorem dX8_bestFlip_0 : decode cX8_bestFlip 0 = .ok (.aload_n 0, 1) := by decide +kernel
theorem dX8_bestFlip_1 : decode cX8_bestFlip 1 = .ok (.iload_n 1, 1) := by decide +kernel
theorem dX8_bestFlip_2 : decode cX8_bestFlip 2 = .ok (.iload_n 2, 1) := by decide +kernel
theorem dX8_bestFlip_3 : decode cX8_bestFlip 3 = .ok (.iload_n 3, 1) := by decide +kernel
theorem dX8_bestFlip_4 : decode cX8_bestFlip 4 = .ok (.invokevirtual 302, 3) := by decide +kernel
theorem dX8_bestFlip_7 : decode cX8_bestFlip 7 = .ok (.ifCond .eq 5, 3) := by decide +kernel
theorem dX8_bestFlip_10 : decode cX8_bestFlip 10 = .ok (.iconst 0, 1) := by decide +kernel
theorem dX8_bestFlip_11 : decode cX8_bestFlip 11 = .ok (.ireturn, 1) := by decide +kernel
theorem dX8_bestFlip_12 : decode cX8_bestFlip 12 = .ok (.aload_n 0, 1) := by decide +kernel
theorem dX8_bestFlip_13 : decode cX8_bestFlip 13 = .ok (.iload_n 1, 1) := by decide +kernel
theorem dX8_bestFlip_14 : decode cX8_bestFlip 14 = .ok (.invokevirtual 117, 3) := by decide +kernel
theorem dX8_bestFlip_17 : decode cX8_bestFlip 17 = .ok (.iload_n 2, 1) := by decide +kernel
theorem dX8_bestFlip_18 : decode cX8_bestFlip 18 = .ok (.istore 4, 2) := by decide +kernel
theorem dX8_bestFlip_20 : decode cX8_bestFlip 20 = .ok (.aload_n 0, 1) := by decide +kernel
theorem dX8_bestFlip_21 : decode cX8_bestFlip 21 = .ok (.iload_n 2, 1) := by decide +kernel
theorem dX8_bestFlip_22 : decode cX8_bestFlip 22 = .ok (.invokevirtual 360, 3) := by decide +kernel
theorem dX8_bestFlip_25 : decode cX8_bestFlip 25 = .ok (.istore 5, 2) := by decide +kernel
theorem dX8_bestFlip_27 : decode cX8_bestFlip 27 = .ok (.iload_n 2, 1) := by decide +kernel
theorem dX8_bestFlip_28 : decode cX8_bestFlip 28 = .ok (.iconst 1, 1) := by decide +kernel
theorem dX8_bestFlip_29 : decode cX8_bestFlip 29 = .ok (.iadd, 1) := by decide +kernel
theorem dX8_bestFlip_30 : decode cX8_bestFlip 30 = .ok (.istore 6, 2) := by decide +kernel
theorem dX8_bestFlip_32 : decode cX8_bestFlip 32 = .ok (.iload 6, 2) := by decide +kernel
theorem dX8_bestFlip_34 : decode cX8_bestFlip 34 = .ok (.iload_n 3, 1) := by decide +kernel
theorem dX8_bestFlip_35 : decode cX8_bestFlip 35 = .ok (.if_icmp .gt 42, 3) := by decide +kernel
theorem dX8_bestFlip_38 : decode cX8_bestFlip 38 = .ok (.aload_n 0, 1) := by decide +kernel
theorem dX8_bestFlip_39 : decode cX8_bestFlip 39 = .ok (.iload 6, 2) := by decide +kernel
theorem dX8_bestFlip_41 : decode cX8_bestFlip 41 = .ok (.invokevirtual 360, 3) := by decide +kernel
theorem dX8_bestFlip_44 : decode cX8_bestFlip 44 = .ok (.istore 7, 2) := by decide +kernel
theorem dX8_bestFlip_46 : decode cX8_bestFlip 46 = .ok (.iload 7, 2) := by decide +kernel
theorem dX8_bestFlip_48 : decode cX8_bestFlip 48 = .ok (.iload 5, 2) := by decide +kernel
theorem dX8_bestFlip_50 : decode cX8_bestFlip 50 = .ok (.if_icmp .ge 8, 3) := by decide +kernel
theorem dX8_bestFlip_53 : decode cX8_bestFlip 53 = .ok (.iload 6, 2) := by decide +kernel
theorem dX8_bestFlip_55 : decode cX8_bestFlip 55 = .ok (.goto 5, 3) := by decide +kernel
theorem dX8_bestFlip_58 : decode cX8_bestFlip 58 = .ok (.iload 4, 2) := by decide +kernel
theorem dX8_bestFlip_60 : decode cX8_bestFlip 60 = .ok (.istore 4, 2) := by decide +kernel
theorem dX8_bestFlip_62 : decode cX8_bestFlip 62 = .ok (.iload 5, 2) := by decide +kernel
theorem dX8_bestFlip_64 : decode cX8_bestFlip 64 = .ok (.iload 7, 2) := by decide +kernel
theorem dX8_bestFlip_66 : decode cX8_bestFlip 66 = .ok (.invokestatic 363, 3) := by decide +kernel
theorem dX8_bestFlip_69 : decode cX8_bestFlip 69 = .ok (.istore 5, 2) := by decide +kernel
theorem dX8_bestFlip_71 : decode cX8_bestFlip 71 = .ok (.iinc 6 1, 3) := by decide +kernel
theorem dX8_bestFlip_74 : decode cX8_bestFlip 74 = .ok (.goto (-42), 3) := by decide +kernel
theorem dX8_bestFlip_77 : decode cX8_bestFlip 77 = .ok (.iload 4, 2) := by decide +kernel
theorem dX8_bestFlip_79 : decode cX8_bestFlip 79 = .ok (.ireturn, 1) := by decide +kernel
theorem dX8_fillsHere_0 : decode cX8_fillsHere 0 = .ok (.iconst 0, 1) := by decide +kernel
theorem dX8_fillsHere_1 : decode cX8_fillsHere 1 = .ok (.istore 4, 2) := by decide +kernel
theorem dX8_fillsHere_3 : decode cX8_fillsHere 3 = .ok (.iload_n 1, 1) := by decide +kernel
theorem dX8_fillsHere_4 : decode cX8_fillsHere 4 = .ok (.istore 5, 2) := by decide +kernel
theorem dX8_fillsHere_6 : decode cX8_fillsHere 6 = .ok (.iload 5, 2) := by decide +kernel
theorem dX8_fillsHere_8 : decode cX8_fillsHere 8 = .ok (.iload_n 2, 1) := by decide +kernel
theorem dX8_fillsHere_9 : decode cX8_fillsHere 9 = .ok (.if_icmp .gt 39, 3) := by decide +kernel
theorem dX8_fillsHere_12 : decode cX8_fillsHere 12 = .ok (.iload 4, 2) := by decide +kernel
theorem dX8_fillsHere_14 : decode cX8_fillsHere 14 = .ok (.aload_n 0, 1) := by decide +kernel
theorem dX8_fillsHere_15 : decode cX8_fillsHere 15 = .ok (.iload 5, 2) := by decide +kernel
theorem dX8_fillsHere_17 : decode cX8_fillsHere 17 = .ok (.invokevirtual 234, 3) := by decide +kernel
theorem dX8_fillsHere_20 : decode cX8_fillsHere 20 = .ok (.iload_n 3, 1) := by decide +kernel
theorem dX8_fillsHere_21 : decode cX8_fillsHere 21 = .ok (.if_icmp .eq 7, 3) := by decide +kernel
theorem dX8_fillsHere_24 : decode cX8_fillsHere 24 = .ok (.iconst 1, 1) := by decide +kernel
theorem dX8_fillsHere_25 : decode cX8_fillsHere 25 = .ok (.goto 4, 3) := by decide +kernel
theorem dX8_fillsHere_28 : decode cX8_fillsHere 28 = .ok (.iconst 0, 1) := by decide +kernel
theorem dX8_fillsHere_29 : decode cX8_fillsHere 29 = .ok (.invokestatic 314, 3) := by decide +kernel
theorem dX8_fillsHere_32 : decode cX8_fillsHere 32 = .ok (.iadd, 1) := by decide +kernel
theorem dX8_fillsHere_33 : decode cX8_fillsHere 33 = .ok (.istore 4, 2) := by decide +kernel
theorem dX8_fillsHere_35 : decode cX8_fillsHere 35 = .ok (.aload_n 0, 1) := by decide +kernel
theorem dX8_fillsHere_36 : decode cX8_fillsHere 36 = .ok (.iload 5, 2) := by decide +kernel
theorem dX8_fillsHere_38 : decode cX8_fillsHere 38 = .ok (.iload_n 3, 1) := by decide +kernel
theorem dX8_fillsHere_39 : decode cX8_fillsHere 39 = .ok (.invokevirtual 237, 3) := by decide +kernel
theorem dX8_fillsHere_42 : decode cX8_fillsHere 42 = .ok (.iinc 5 1, 3) := by decide +kernel
theorem dX8_fillsHere_45 : decode cX8_fillsHere 45 = .ok (.goto (-39), 3) := by decide +kernel
theorem dX8_fillsHere_48 : decode cX8_fillsHere 48 = .ok (.iload 4, 2) := by decide +kernel
theorem dX8_fillsHere_50 : decode cX8_fillsHere 50 = .ok (.ireturn, 1) := by decide +kernel
theorem dX8_bytesFilled_0 : decode cX8_bytesFilled 0 = .ok (.aload_n 0, 1) := by decide +kernel
theorem dX8_bytesFilled_1 : decode cX8_bytesFilled 1 = .ok (.iload_n 1, 1) := by decide +kernel
theorem dX8_bytesFilled_2 : decode cX8_bytesFilled 2 = .ok (.iload_n 2, 1) := by decide +kernel
theorem dX8_bytesFilled_3 : decode cX8_bytesFilled 3 = .ok (.iload_n 3, 1) := by decide +kernel
theorem dX8_bytesFilled_4 : decode cX8_bytesFilled 4 = .ok (.invokevirtual 302, 3) := by decide +kernel
theorem dX8_bytesFilled_7 : decode cX8_bytesFilled 7 = .ok (.ifCond .ne 24, 3) := by decide +kernel
theorem dX8_bytesFilled_10 : decode cX8_bytesFilled 10 = .ok (.aload_n 0, 1) := by decide +kernel
theorem dX8_bytesFilled_11 : decode cX8_bytesFilled 11 = .ok (.iload 4, 2) := by decide +kernel
theorem dX8_bytesFilled_13 : decode cX8_bytesFilled 13 = .ok (.invokestatic 308, 3) := by decide +kernel
theorem dX8_bytesFilled_16 : decode cX8_bytesFilled 16 = .ok (.ifCond .ne 7, 3) := by decide +kernel
theorem dX8_bytesFilled_19 : decode cX8_bytesFilled 19 = .ok (.iconst 1, 1) := by decide +kernel
theorem dX8_bytesFilled_20 : decode cX8_bytesFilled 20 = .ok (.goto 4, 3) := by decide +kernel
theorem dX8_bytesFilled_23 : decode cX8_bytesFilled 23 = .ok (.iconst 0, 1) := by decide +kernel
theorem dX8_bytesFilled_24 : decode cX8_bytesFilled 24 = .ok (.iconst 3, 1) := by decide +kernel
theorem dX8_bytesFilled_25 : decode cX8_bytesFilled 25 = .ok (.invokevirtual 64, 3) := by decide +kernel
theorem dX8_bytesFilled_28 : decode cX8_bytesFilled 28 = .ok (.ifCond .eq 5, 3) := by decide +kernel
theorem dX8_bytesFilled_31 : decode cX8_bytesFilled 31 = .ok (.iconst 0, 1) := by decide +kernel
theorem dX8_bytesFilled_32 : decode cX8_bytesFilled 32 = .ok (.ireturn, 1) := by decide +kernel
theorem dX8_bytesFilled_33 : decode cX8_bytesFilled 33 = .ok (.aload_n 0, 1) := by decide +kernel
theorem dX8_bytesFilled_34 : decode cX8_bytesFilled 34 = .ok (.iload_n 1, 1) := by decide +kernel
theorem dX8_bytesFilled_35 : decode cX8_bytesFilled 35 = .ok (.invokevirtual 117, 3) := by decide +kernel
theorem dX8_bytesFilled_38 : decode cX8_bytesFilled 38 = .ok (.aload_n 0, 1) := by decide +kernel
theorem dX8_bytesFilled_39 : decode cX8_bytesFilled 39 = .ok (.iload_n 2, 1) := by decide +kernel
theorem dX8_bytesFilled_40 : decode cX8_bytesFilled 40 = .ok (.iload_n 3, 1) := by decide +kernel
theorem dX8_bytesFilled_41 : decode cX8_bytesFilled 41 = .ok (.iload 4, 2) := by decide +kernel
theorem dX8_bytesFilled_43 : decode cX8_bytesFilled 43 = .ok (.invokevirtual 366, 3) := by decide +kernel
theorem dX8_bytesFilled_46 : decode cX8_bytesFilled 46 = .ok (.istore 5, 2) := by decide +kernel
theorem dX8_bytesFilled_48 : decode cX8_bytesFilled 48 = .ok (.aload_n 0, 1) := by decide +kernel
theorem dX8_bytesFilled_49 : decode cX8_bytesFilled 49 = .ok (.invokevirtual 121, 3) := by decide +kernel
theorem dX8_bytesFilled_52 : decode cX8_bytesFilled 52 = .ok (.aload_n 0, 1) := by decide +kernel
theorem dX8_bytesFilled_53 : decode cX8_bytesFilled 53 = .ok (.getfield 101, 3) := by decide +kernel
theorem dX8_bytesFilled_56 : decode cX8_bytesFilled 56 = .ok (.ireturn, 1) := by decide +kernel
theorem dX8_shiftsHere_0 : decode cX8_shiftsHere 0 = .ok (.aload_n 0, 1) := by decide +kernel
theorem dX8_shiftsHere_1 : decode cX8_shiftsHere 1 = .ok (.iconst 0, 1) := by decide +kernel
theorem dX8_shiftsHere_2 : decode cX8_shiftsHere 2 = .ok (.aload_n 0, 1) := by decide +kernel
theorem dX8_shiftsHere_3 : decode cX8_shiftsHere 3 = .ok (.invokevirtual 225, 3) := by decide +kernel
theorem dX8_shiftsHere_6 : decode cX8_shiftsHere 6 = .ok (.iconst 1, 1) := by decide +kernel
theorem dX8_shiftsHere_7 : decode cX8_shiftsHere 7 = .ok (.isub, 1) := by decide +kernel
theorem dX8_shiftsHere_8 : decode cX8_shiftsHere 8 = .ok (.invokevirtual 305, 3) := by decide +kernel
theorem dX8_shiftsHere_11 : decode cX8_shiftsHere 11 = .ok (.istore_n 2, 1) := by decide +kernel
theorem dX8_shiftsHere_12 : decode cX8_shiftsHere 12 = .ok (.aload_n 0, 1) := by decide +kernel
theorem dX8_shiftsHere_13 : decode cX8_shiftsHere 13 = .ok (.invokevirtual 225, 3) := by decide +kernel
theorem dX8_shiftsHere_16 : decode cX8_shiftsHere 16 = .ok (.istore_n 3, 1) := by decide +kernel
theorem dX8_shiftsHere_17 : decode cX8_shiftsHere 17 = .ok (.iload_n 3, 1) := by decide +kernel
theorem dX8_shiftsHere_18 : decode cX8_shiftsHere 18 = .ok (.ineg, 1) := by decide +kernel
theorem dX8_shiftsHere_19 : decode cX8_shiftsHere 19 = .ok (.iload_n 3, 1) := by decide +kernel
theorem dX8_shiftsHere_20 : decode cX8_shiftsHere 20 = .ok (.iload_n 1, 1) := by decide +kernel
theorem dX8_shiftsHere_21 : decode cX8_shiftsHere 21 = .ok (.invokestatic 363, 3) := by decide +kernel
theorem dX8_shiftsHere_24 : decode cX8_shiftsHere 24 = .ok (.invokestatic 318, 3) := by decide +kernel
theorem dX8_shiftsHere_27 : decode cX8_shiftsHere 27 = .ok (.istore 4, 2) := by decide +kernel
theorem dX8_shiftsHere_29 : decode cX8_shiftsHere 29 = .ok (.iconst 0, 1) := by decide +kernel
theorem dX8_shiftsHere_30 : decode cX8_shiftsHere 30 = .ok (.istore 5, 2) := by decide +kernel
theorem dX8_shiftsHere_32 : decode cX8_shiftsHere 32 = .ok (.iload 5, 2) := by decide +kernel
theorem dX8_shiftsHere_34 : decode cX8_shiftsHere 34 = .ok (.iload_n 3, 1) := by decide +kernel
theorem dX8_shiftsHere_35 : decode cX8_shiftsHere 35 = .ok (.if_icmp .ge 61, 3) := by decide +kernel
theorem dX8_shiftsHere_38 : decode cX8_shiftsHere 38 = .ok (.iload 4, 2) := by decide +kernel
theorem dX8_shiftsHere_40 : decode cX8_shiftsHere 40 = .ok (.ifCond .le 12, 3) := by decide +kernel
theorem dX8_shiftsHere_43 : decode cX8_shiftsHere 43 = .ok (.iload_n 3, 1) := by decide +kernel
theorem dX8_shiftsHere_44 : decode cX8_shiftsHere 44 = .ok (.iconst 1, 1) := by decide +kernel
theorem dX8_shiftsHere_45 : decode cX8_shiftsHere 45 = .ok (.isub, 1) := by decide +kernel
theorem dX8_shiftsHere_46 : decode cX8_shiftsHere 46 = .ok (.iload 5, 2) := by decide +kernel
theorem dX8_shiftsHere_48 : decode cX8_shiftsHere 48 = .ok (.isub, 1) := by decide +kernel
theorem dX8_shiftsHere_49 : decode cX8_shiftsHere 49 = .ok (.goto 5, 3) := by decide +kernel
theorem dX8_shiftsHere_52 : decode cX8_shiftsHere 52 = .ok (.iload 5, 2) := by decide +kernel
theorem dX8_shiftsHere_54 : decode cX8_shiftsHere 54 = .ok (.istore 6, 2) := by decide +kernel
theorem dX8_shiftsHere_56 : decode cX8_shiftsHere 56 = .ok (.aload_n 0, 1) := by decide +kernel
theorem dX8_shiftsHere_57 : decode cX8_shiftsHere 57 = .ok (.iload 6, 2) := by decide +kernel
theorem dX8_shiftsHere_59 : decode cX8_shiftsHere 59 = .ok (.iload 6, 2) := by decide +kernel
theorem dX8_shiftsHere_61 : decode cX8_shiftsHere 61 = .ok (.iload 4, 2) := by decide +kernel
theorem dX8_shiftsHere_63 : decode cX8_shiftsHere 63 = .ok (.isub, 1) := by decide +kernel
theorem dX8_shiftsHere_64 : decode cX8_shiftsHere 64 = .ok (.iconst 0, 1) := by decide +kernel
theorem dX8_shiftsHere_65 : decode cX8_shiftsHere 65 = .ok (.iload_n 3, 1) := by decide +kernel
theorem dX8_shiftsHere_66 : decode cX8_shiftsHere 66 = .ok (.iconst 1, 1) := by decide +kernel
theorem dX8_shiftsHere_67 : decode cX8_shiftsHere 67 = .ok (.isub, 1) := by decide +kernel
theorem dX8_shiftsHere_68 : decode cX8_shiftsHere 68 = .ok (.invokestatic 71, 3) := by decide +kernel
theorem dX8_shiftsHere_71 : decode cX8_shiftsHere 71 = .ok (.ifCond .eq 15, 3) := by decide +kernel
theorem dX8_shiftsHere_74 : decode cX8_shiftsHere 74 = .ok (.aload_n 0, 1) := by decide +kernel
theorem dX8_shiftsHere_75 : decode cX8_shiftsHere 75 = .ok (.iload 6, 2) := by decide +kernel
theorem dX8_shiftsHere_77 : decode cX8_shiftsHere 77 = .ok (.iload 4, 2) := by decide +kernel
theorem dX8_shiftsHere_79 : decode cX8_shiftsHere 79 = .ok (.isub, 1) := by decide +kernel
theorem dX8_shiftsHere_80 : decode cX8_shiftsHere 80 = .ok (.invokevirtual 234, 3) := by decide +kernel
theorem dX8_shiftsHere_83 : decode cX8_shiftsHere 83 = .ok (.goto 4, 3) := by decide +kernel
theorem dX8_shiftsHere_86 : decode cX8_shiftsHere 86 = .ok (.iconst 0, 1) := by decide +kernel
theorem dX8_shiftsHere_87 : decode cX8_shiftsHere 87 = .ok (.invokevirtual 237, 3) := by decide +kernel
theorem dX8_shiftsHere_90 : decode cX8_shiftsHere 90 = .ok (.iinc 5 1, 3) := by decide +kernel
theorem dX8_shiftsHere_93 : decode cX8_shiftsHere 93 = .ok (.goto (-61), 3) := by decide +kernel
theorem dX8_shiftsHere_96 : decode cX8_shiftsHere 96 = .ok (.iload_n 2, 1) := by decide +kernel
theorem dX8_shiftsHere_97 : decode cX8_shiftsHere 97 = .ok (.aload_n 0, 1) := by decide +kernel
theorem dX8_shiftsHere_98 : decode cX8_shiftsHere 98 = .ok (.iconst 0, 1) := by decide +kernel
theorem dX8_shiftsHere_99 : decode cX8_shiftsHere 99 = .ok (.iload_n 3, 1) := by decide +kernel
theorem dX8_shiftsHere_100 : decode cX8_shiftsHere 100 = .ok (.iconst 1, 1) := by decide +kernel
theorem dX8_shiftsHere_101 : decode cX8_shiftsHere 101 = .ok (.isub, 1) := by decide +kernel
theorem dX8_shiftsHere_102 : decode cX8_shiftsHere 102 = .ok (.invokevirtual 305, 3) := by decide +kernel
theorem dX8_shiftsHere_105 : decode cX8_shiftsHere 105 = .ok (.isub, 1) := by decide +kernel
theorem dX8_shiftsHere_106 : decode cX8_shiftsHere 106 = .ok (.ireturn, 1) := by decide +kernel
theorem dX8_bytesShifted_0 : decode cX8_bytesShifted 0 = .ok (.aload_n 0, 1) := by decide +kernel
theorem dX8_bytesShifted_1 : decode cX8_bytesShifted 1 = .ok (.iload_n 1, 1) := by decide +kernel
theorem dX8_bytesShifted_2 : decode cX8_bytesShifted 2 = .ok (.invokevirtual 292, 3) := by decide +kernel
theorem dX8_bytesShifted_5 : decode cX8_bytesShifted 5 = .ok (.ifCond .eq 5, 3) := by decide +kernel
theorem dX8_bytesShifted_8 : decode cX8_bytesShifted 8 = .ok (.iconst 0, 1) := by decide +kernel
theorem dX8_bytesShifted_9 : decode cX8_bytesShifted 9 = .ok (.ireturn, 1) := by decide +kernel
theorem dX8_bytesShifted_10 : decode cX8_bytesShifted 10 = .ok (.aload_n 0, 1) := by decide +kernel
theorem dX8_bytesShifted_11 : decode cX8_bytesShifted 11 = .ok (.iload_n 1, 1) := by decide +kernel
theorem dX8_bytesShifted_12 : decode cX8_bytesShifted 12 = .ok (.invokevirtual 117, 3) := by decide +kernel
theorem dX8_bytesShifted_15 : decode cX8_bytesShifted 15 = .ok (.aload_n 0, 1) := by decide +kernel
theorem dX8_bytesShifted_16 : decode cX8_bytesShifted 16 = .ok (.iload_n 2, 1) := by decide +kernel
theorem dX8_bytesShifted_17 : decode cX8_bytesShifted 17 = .ok (.invokevirtual 369, 3) := by decide +kernel
theorem dX8_bytesShifted_20 : decode cX8_bytesShifted 20 = .ok (.istore_n 3, 1) := by decide +kernel
theorem dX8_bytesShifted_21 : decode cX8_bytesShifted 21 = .ok (.aload_n 0, 1) := by decide +kernel
theorem dX8_bytesShifted_22 : decode cX8_bytesShifted 22 = .ok (.invokevirtual 121, 3) := by decide +kernel
theorem dX8_bytesShifted_25 : decode cX8_bytesShifted 25 = .ok (.aload_n 0, 1) := by decide +kernel
theorem dX8_bytesShifted_26 : decode cX8_bytesShifted 26 = .ok (.getfield 101, 3) := by decide +kernel
theorem dX8_bytesShifted_29 : decode cX8_bytesShifted 29 = .ok (.ireturn, 1) := by decide +kernel
theorem dX8_mostLike_0 : decode cX8_mostLike 0 = .ok (.aload_n 0, 1) := by decide +kernel
theorem dX8_mostLike_1 : decode cX8_mostLike 1 = .ok (.iload_n 1, 1) := by decide +kernel
theorem dX8_mostLike_2 : decode cX8_mostLike 2 = .ok (.iload_n 2, 1) := by decide +kernel
theorem dX8_mostLike_3 : decode cX8_mostLike 3 = .ok (.iload_n 3, 1) := by decide +kernel
theorem dX8_mostLike_4 : decode cX8_mostLike 4 = .ok (.invokevirtual 335, 3) := by decide +kernel
theorem dX8_mostLike_7 : decode cX8_mostLike 7 = .ok (.ifCond .eq 5, 3) := by decide +kernel
theorem dX8_mostLike_10 : decode cX8_mostLike 10 = .ok (.iconst 0, 1) := by decide +kernel
theorem dX8_mostLike_11 : decode cX8_mostLike 11 = .ok (.ireturn, 1) := by decide +kernel
theorem dX8_mostLike_12 : decode cX8_mostLike 12 = .ok (.aload_n 0, 1) := by decide +kernel
theorem dX8_mostLike_13 : decode cX8_mostLike 13 = .ok (.iload_n 1, 1) := by decide +kernel
theorem dX8_mostLike_14 : decode cX8_mostLike 14 = .ok (.invokevirtual 117, 3) := by decide +kernel
theorem dX8_mostLike_17 : decode cX8_mostLike 17 = .ok (.iconst (-1), 1) := by decide +kernel
theorem dX8_mostLike_18 : decode cX8_mostLike 18 = .ok (.istore 4, 2) := by decide +kernel
theorem dX8_mostLike_20 : decode cX8_mostLike 20 = .ok (.iconst 0, 1) := by decide +kernel
theorem dX8_mostLike_21 : decode cX8_mostLike 21 = .ok (.istore 5, 2) := by decide +kernel
theorem dX8_mostLike_23 : decode cX8_mostLike 23 = .ok (.iconst 0, 1) := by decide +kernel
theorem dX8_mostLike_24 : decode cX8_mostLike 24 = .ok (.istore 6, 2) := by decide +kernel
theorem dX8_mostLike_26 : decode cX8_mostLike 26 = .ok (.iload 6, 2) := by decide +kernel
theorem dX8_mostLike_28 : decode cX8_mostLike 28 = .ok (.aload_n 0, 1) := by decide +kernel
theorem dX8_mostLike_29 : decode cX8_mostLike 29 = .ok (.iload_n 2, 1) := by decide +kernel
theorem dX8_mostLike_30 : decode cX8_mostLike 30 = .ok (.invokevirtual 90, 3) := by decide +kernel
theorem dX8_mostLike_33 : decode cX8_mostLike 33 = .ok (.if_icmp .ge 95, 3) := by decide +kernel
theorem dX8_mostLike_36 : decode cX8_mostLike 36 = .ok (.iconst 0, 1) := by decide +kernel
theorem dX8_mostLike_37 : decode cX8_mostLike 37 = .ok (.istore 7, 2) := by decide +kernel
theorem dX8_mostLike_39 : decode cX8_mostLike 39 = .ok (.iconst 0, 1) := by decide +kernel
theorem dX8_mostLike_40 : decode cX8_mostLike 40 = .ok (.istore 8, 2) := by decide +kernel
theorem dX8_mostLike_42 : decode cX8_mostLike 42 = .ok (.iload 8, 2) := by decide +kernel
theorem dX8_mostLike_44 : decode cX8_mostLike 44 = .ok (.iload_n 2, 1) := by decide +kernel
theorem dX8_mostLike_45 : decode cX8_mostLike 45 = .ok (.invokestatic 94, 3) := by decide +kernel
theorem dX8_mostLike_48 : decode cX8_mostLike 48 = .ok (.if_icmp .ge 47, 3) := by decide +kernel
theorem dX8_mostLike_51 : decode cX8_mostLike 51 = .ok (.iload 7, 2) := by decide +kernel
theorem dX8_mostLike_53 : decode cX8_mostLike 53 = .ok (.aload_n 0, 1) := by decide +kernel
theorem dX8_mostLike_54 : decode cX8_mostLike 54 = .ok (.getfield 23, 3) := by decide +kernel
theorem dX8_mostLike_57 : decode cX8_mostLike 57 = .ok (.iload_n 2, 1) := by decide +kernel
theorem dX8_mostLike_58 : decode cX8_mostLike 58 = .ok (.invokestatic 94, 3) := by decide +kernel
theorem dX8_mostLike_61 : decode cX8_mostLike 61 = .ok (.iload_n 3, 1) := by decide +kernel
theorem dX8_mostLike_62 : decode cX8_mostLike 62 = .ok (.imul, 1) := by decide +kernel
theorem dX8_mostLike_63 : decode cX8_mostLike 63 = .ok (.iload 8, 2) := by decide +kernel
theorem dX8_mostLike_65 : decode cX8_mostLike 65 = .ok (.iadd, 1) := by decide +kernel
theorem dX8_mostLike_66 : decode cX8_mostLike 66 = .ok (.iaload, 1) := by decide +kernel
theorem dX8_mostLike_67 : decode cX8_mostLike 67 = .ok (.aload_n 0, 1) := by decide +kernel
theorem dX8_mostLike_68 : decode cX8_mostLike 68 = .ok (.getfield 23, 3) := by decide +kernel
theorem dX8_mostLike_71 : decode cX8_mostLike 71 = .ok (.iload_n 2, 1) := by decide +kernel
theorem dX8_mostLike_72 : decode cX8_mostLike 72 = .ok (.invokestatic 94, 3) := by decide +kernel
theorem dX8_mostLike_75 : decode cX8_mostLike 75 = .ok (.iload 6, 2) := by decide +kernel
theorem dX8_mostLike_77 : decode cX8_mostLike 77 = .ok (.imul, 1) := by decide +kernel
theorem dX8_mostLike_78 : decode cX8_mostLike 78 = .ok (.iload 8, 2) := by decide +kernel
theorem dX8_mostLike_80 : decode cX8_mostLike 80 = .ok (.iadd, 1) := by decide +kernel
theorem dX8_mostLike_81 : decode cX8_mostLike 81 = .ok (.iaload, 1) := by decide +kernel
theorem dX8_mostLike_82 : decode cX8_mostLike 82 = .ok (.ixor, 1) := by decide +kernel
theorem dX8_mostLike_83 : decode cX8_mostLike 83 = .ok (.invokestatic 347, 3) := by decide +kernel
theorem dX8_mostLike_86 : decode cX8_mostLike 86 = .ok (.iadd, 1) := by decide +kernel
theorem dX8_mostLike_87 : decode cX8_mostLike 87 = .ok (.istore 7, 2) := by decide +kernel
theorem dX8_mostLike_89 : decode cX8_mostLike 89 = .ok (.iinc 8 1, 3) := by decide +kernel
theorem dX8_mostLike_92 : decode cX8_mostLike 92 = .ok (.goto (-50), 3) := by decide +kernel
theorem dX8_mostLike_95 : decode cX8_mostLike 95 = .ok (.iload 6, 2) := by decide +kernel
theorem dX8_mostLike_97 : decode cX8_mostLike 97 = .ok (.iload_n 3, 1) := by decide +kernel
theorem dX8_mostLike_98 : decode cX8_mostLike 98 = .ok (.if_icmp .eq 24, 3) := by decide +kernel
theorem dX8_mostLike_101 : decode cX8_mostLike 101 = .ok (.iload 4, 2) := by decide +kernel
theorem dX8_mostLike_103 : decode cX8_mostLike 103 = .ok (.iconst (-1), 1) := by decide +kernel
theorem dX8_mostLike_104 : decode cX8_mostLike 104 = .ok (.if_icmp .eq 10, 3) := by decide +kernel
theorem dX8_mostLike_107 : decode cX8_mostLike 107 = .ok (.iload 7, 2) := by decide +kernel
theorem dX8_mostLike_109 : decode cX8_mostLike 109 = .ok (.iload 5, 2) := by decide +kernel
theorem dX8_mostLike_111 : decode cX8_mostLike 111 = .ok (.if_icmp .ge 11, 3) := by decide +kernel
theorem dX8_mostLike_114 : decode cX8_mostLike 114 = .ok (.iload 6, 2) := by decide +kernel
theorem dX8_mostLike_116 : decode cX8_mostLike 116 = .ok (.istore 4, 2) := by decide +kernel
theorem dX8_mostLike_118 : decode cX8_mostLike 118 = .ok (.iload 7, 2) := by decide +kernel
theorem dX8_mostLike_120 : decode cX8_mostLike 120 = .ok (.istore 5, 2) := by decide +kernel
theorem dX8_mostLike_122 : decode cX8_mostLike 122 = .ok (.iinc 6 1, 3) := by decide +kernel
theorem dX8_mostLike_125 : decode cX8_mostLike 125 = .ok (.goto (-99), 3) := by decide +kernel
theorem dX8_mostLike_128 : decode cX8_mostLike 128 = .ok (.iload 4, 2) := by decide +kernel
theorem dX8_mostLike_130 : decode cX8_mostLike 130 = .ok (.ireturn, 1) := by decide +kernel
theorem dX8_says_0 : decode cX8_says 0 = .ok (.aload_n 0, 1) := by decide +kernel
theorem dX8_says_1 : decode cX8_says 1 = .ok (.getfield 54, 3) := by decide +kernel
theorem dX8_says_4 : decode cX8_says 4 = .ok (.aload_n 0, 1) := by decide +kernel
theorem dX8_says_5 : decode cX8_says 5 = .ok (.getfield 372, 3) := by decide +kernel
theorem dX8_says_8 : decode cX8_says 8 = .ok (.iload_n 1, 1) := by decide +kernel
theorem dX8_says_9 : decode cX8_says 9 = .ok (.iastore, 1) := by decide +kernel
theorem dX8_says_10 : decode cX8_says 10 = .ok (.aload_n 0, 1) := by decide +kernel
theorem dX8_says_11 : decode cX8_says 11 = .ok (.dup, 1) := by decide +kernel
theorem dX8_says_12 : decode cX8_says 12 = .ok (.getfield 372, 3) := by decide +kernel
theorem dX8_says_15 : decode cX8_says 15 = .ok (.iconst 1, 1) := by decide +kernel
theorem dX8_says_16 : decode cX8_says 16 = .ok (.iadd, 1) := by decide +kernel
theorem dX8_says_17 : decode cX8_says 17 = .ok (.putfield 372, 3) := by decide +kernel
theorem dX8_says_20 : decode cX8_says 20 = .ok (.return_, 1) := by decide +kernel
theorem dX8_saysDigit_0 : decode cX8_saysDigit 0 = .ok (.aload_n 0, 1) := by decide +kernel
theorem dX8_saysDigit_1 : decode cX8_saysDigit 1 = .ok (.iload_n 1, 1) := by decide +kernel
theorem dX8_saysDigit_2 : decode cX8_saysDigit 2 = .ok (.bipush 10, 2) := by decide +kernel
theorem dX8_saysDigit_4 : decode cX8_saysDigit 4 = .ok (.if_icmp .ge 10, 3) := by decide +kernel
theorem dX8_saysDigit_7 : decode cX8_saysDigit 7 = .ok (.bipush 48, 2) := by decide +kernel
theorem dX8_saysDigit_9 : decode cX8_saysDigit 9 = .ok (.iload_n 1, 1) := by decide +kernel
theorem dX8_saysDigit_10 : decode cX8_saysDigit 10 = .ok (.iadd, 1) := by decide +kernel
theorem dX8_saysDigit_11 : decode cX8_saysDigit 11 = .ok (.goto 10, 3) := by decide +kernel
theorem dX8_saysDigit_14 : decode cX8_saysDigit 14 = .ok (.bipush 97, 2) := by decide +kernel
theorem dX8_saysDigit_16 : decode cX8_saysDigit 16 = .ok (.iload_n 1, 1) := by decide +kernel
theorem dX8_saysDigit_17 : decode cX8_saysDigit 17 = .ok (.iadd, 1) := by decide +kernel
theorem dX8_saysDigit_18 : decode cX8_saysDigit 18 = .ok (.bipush 10, 2) := by decide +kernel
theorem dX8_saysDigit_20 : decode cX8_saysDigit 20 = .ok (.isub, 1) := by decide +kernel
theorem dX8_saysDigit_21 : decode cX8_saysDigit 21 = .ok (.invokevirtual 375, 3) := by decide +kernel
theorem dX8_saysDigit_24 : decode cX8_saysDigit 24 = .ok (.return_, 1) := by decide +kernel
theorem dX8_saysByte_0 : decode cX8_saysByte 0 = .ok (.aload_n 0, 1) := by decide +kernel
theorem dX8_saysByte_1 : decode cX8_saysByte 1 = .ok (.iload_n 1, 1) := by decide +kernel
theorem dX8_saysByte_2 : decode cX8_saysByte 2 = .ok (.iconst 4, 1) := by decide +kernel
theorem dX8_saysByte_3 : decode cX8_saysByte 3 = .ok (.ishr, 1) := by decide +kernel
theorem dX8_saysByte_4 : decode cX8_saysByte 4 = .ok (.invokevirtual 378, 3) := by decide +kernel
theorem dX8_saysByte_7 : decode cX8_saysByte 7 = .ok (.aload_n 0, 1) := by decide +kernel
theorem dX8_saysByte_8 : decode cX8_saysByte 8 = .ok (.iload_n 1, 1) := by decide +kernel
theorem dX8_saysByte_9 : decode cX8_saysByte 9 = .ok (.bipush 15, 2) := by decide +kernel
theorem dX8_saysByte_11 : decode cX8_saysByte 11 = .ok (.iand, 1) := by decide +kernel
theorem dX8_saysByte_12 : decode cX8_saysByte 12 = .ok (.invokevirtual 378, 3) := by decide +kernel
theorem dX8_saysByte_15 : decode cX8_saysByte 15 = .ok (.return_, 1) := by decide +kernel
theorem dX8_writeBytes_0 : decode cX8_writeBytes 0 = .ok (.aload_n 0, 1) := by decide +kernel
theorem dX8_writeBytes_1 : decode cX8_writeBytes 1 = .ok (.iload_n 1, 1) := by decide +kernel
theorem dX8_writeBytes_2 : decode cX8_writeBytes 2 = .ok (.invokevirtual 292, 3) := by decide +kernel
theorem dX8_writeBytes_5 : decode cX8_writeBytes 5 = .ok (.ifCond .eq 5, 3) := by decide +kernel
theorem dX8_writeBytes_8 : decode cX8_writeBytes 8 = .ok (.iconst 0, 1) := by decide +kernel
theorem dX8_writeBytes_9 : decode cX8_writeBytes 9 = .ok (.ireturn, 1) := by decide +kernel
theorem dX8_writeBytes_10 : decode cX8_writeBytes 10 = .ok (.aload_n 0, 1) := by decide +kernel
theorem dX8_writeBytes_11 : decode cX8_writeBytes 11 = .ok (.iload_n 1, 1) := by decide +kernel
theorem dX8_writeBytes_12 : decode cX8_writeBytes 12 = .ok (.invokevirtual 286, 3) := by decide +kernel
theorem dX8_writeBytes_15 : decode cX8_writeBytes 15 = .ok (.aload_n 0, 1) := by decide +kernel
theorem dX8_writeBytes_16 : decode cX8_writeBytes 16 = .ok (.iconst 0, 1) := by decide +kernel
theorem dX8_writeBytes_17 : decode cX8_writeBytes 17 = .ok (.putfield 372, 3) := by decide +kernel
theorem dX8_writeBytes_20 : decode cX8_writeBytes 20 = .ok (.iconst 0, 1) := by decide +kernel
theorem dX8_writeBytes_21 : decode cX8_writeBytes 21 = .ok (.istore_n 2, 1) := by decide +kernel
theorem dX8_writeBytes_22 : decode cX8_writeBytes 22 = .ok (.iload_n 2, 1) := by decide +kernel
theorem dX8_writeBytes_23 : decode cX8_writeBytes 23 = .ok (.aload_n 0, 1) := by decide +kernel
theorem dX8_writeBytes_24 : decode cX8_writeBytes 24 = .ok (.getfield 101, 3) := by decide +kernel
theorem dX8_writeBytes_27 : decode cX8_writeBytes 27 = .ok (.if_icmp .ge 29, 3) := by decide +kernel
theorem dX8_writeBytes_30 : decode cX8_writeBytes 30 = .ok (.iload_n 2, 1) := by decide +kernel
theorem dX8_writeBytes_31 : decode cX8_writeBytes 31 = .ok (.ifCond .le 9, 3) := by decide +kernel
theorem dX8_writeBytes_34 : decode cX8_writeBytes 34 = .ok (.aload_n 0, 1) := by decide +kernel
theorem dX8_writeBytes_35 : decode cX8_writeBytes 35 = .ok (.bipush 32, 2) := by decide +kernel
theorem dX8_writeBytes_37 : decode cX8_writeBytes 37 = .ok (.invokevirtual 375, 3) := by decide +kernel
theorem dX8_writeBytes_40 : decode cX8_writeBytes 40 = .ok (.aload_n 0, 1) := by decide +kernel
theorem dX8_writeBytes_41 : decode cX8_writeBytes 41 = .ok (.aload_n 0, 1) := by decide +kernel
theorem dX8_writeBytes_42 : decode cX8_writeBytes 42 = .ok (.getfield 26, 3) := by decide +kernel
theorem dX8_writeBytes_45 : decode cX8_writeBytes 45 = .ok (.iload_n 2, 1) := by decide +kernel
theorem dX8_writeBytes_46 : decode cX8_writeBytes 46 = .ok (.iaload, 1) := by decide +kernel
theorem dX8_writeBytes_47 : decode cX8_writeBytes 47 = .ok (.invokevirtual 381, 3) := by decide +kernel
theorem dX8_writeBytes_50 : decode cX8_writeBytes 50 = .ok (.iinc 2 1, 3) := by decide +kernel
theorem dX8_writeBytes_53 : decode cX8_writeBytes 53 = .ok (.goto (-31), 3) := by decide +kernel
theorem dX8_writeBytes_56 : decode cX8_writeBytes 56 = .ok (.aload_n 0, 1) := by decide +kernel
theorem dX8_writeBytes_57 : decode cX8_writeBytes 57 = .ok (.getfield 372, 3) := by decide +kernel
theorem dX8_writeBytes_60 : decode cX8_writeBytes 60 = .ok (.ireturn, 1) := by decide +kernel
theorem dX8_writeBits_0 : decode cX8_writeBits 0 = .ok (.aload_n 0, 1) := by decide +kernel
theorem dX8_writeBits_1 : decode cX8_writeBits 1 = .ok (.iload_n 1, 1) := by decide +kernel
theorem dX8_writeBits_2 : decode cX8_writeBits 2 = .ok (.iload_n 2, 1) := by decide +kernel
theorem dX8_writeBits_3 : decode cX8_writeBits 3 = .ok (.iload_n 3, 1) := by decide +kernel
theorem dX8_writeBits_4 : decode cX8_writeBits 4 = .ok (.invokevirtual 302, 3) := by decide +kernel
theorem dX8_writeBits_7 : decode cX8_writeBits 7 = .ok (.ifCond .ne 25, 3) := by decide +kernel
theorem dX8_writeBits_10 : decode cX8_writeBits 10 = .ok (.aload_n 0, 1) := by decide +kernel
theorem dX8_writeBits_11 : decode cX8_writeBits 11 = .ok (.iload_n 3, 1) := by decide +kernel
theorem dX8_writeBits_12 : decode cX8_writeBits 12 = .ok (.iload_n 2, 1) := by decide +kernel
theorem dX8_writeBits_13 : decode cX8_writeBits 13 = .ok (.isub, 1) := by decide +kernel
theorem dX8_writeBits_14 : decode cX8_writeBits 14 = .ok (.sipush 200, 3) := by decide +kernel
theorem dX8_writeBits_17 : decode cX8_writeBits 17 = .ok (.if_icmp .lt 7, 3) := by decide +kernel
theorem dX8_writeBits_20 : decode cX8_writeBits 20 = .ok (.iconst 1, 1) := by decide +kernel
theorem dX8_writeBits_21 : decode cX8_writeBits 21 = .ok (.goto 4, 3) := by decide +kernel
theorem dX8_writeBits_24 : decode cX8_writeBits 24 = .ok (.iconst 0, 1) := by decide +kernel
theorem dX8_writeBits_25 : decode cX8_writeBits 25 = .ok (.iconst 3, 1) := by decide +kernel
theorem dX8_writeBits_26 : decode cX8_writeBits 26 = .ok (.invokevirtual 64, 3) := by decide +kernel
theorem dX8_writeBits_29 : decode cX8_writeBits 29 = .ok (.ifCond .eq 5, 3) := by decide +kernel
theorem dX8_writeBits_32 : decode cX8_writeBits 32 = .ok (.iconst 0, 1) := by decide +kernel
theorem dX8_writeBits_33 : decode cX8_writeBits 33 = .ok (.ireturn, 1) := by decide +kernel
theorem dX8_writeBits_34 : decode cX8_writeBits 34 = .ok (.aload_n 0, 1) := by decide +kernel
theorem dX8_writeBits_35 : decode cX8_writeBits 35 = .ok (.iload_n 1, 1) := by decide +kernel
theorem dX8_writeBits_36 : decode cX8_writeBits 36 = .ok (.invokevirtual 117, 3) := by decide +kernel
theorem dX8_writeBits_39 : decode cX8_writeBits 39 = .ok (.aload_n 0, 1) := by decide +kernel
theorem dX8_writeBits_40 : decode cX8_writeBits 40 = .ok (.iconst 0, 1) := by decide +kernel
theorem dX8_writeBits_41 : decode cX8_writeBits 41 = .ok (.putfield 372, 3) := by decide +kernel
theorem dX8_writeBits_44 : decode cX8_writeBits 44 = .ok (.iload_n 2, 1) := by decide +kernel
theorem dX8_writeBits_45 : decode cX8_writeBits 45 = .ok (.istore 4, 2) := by decide +kernel
theorem dX8_writeBits_47 : decode cX8_writeBits 47 = .ok (.iload 4, 2) := by decide +kernel
theorem dX8_writeBits_49 : decode cX8_writeBits 49 = .ok (.iload_n 3, 1) := by decide +kernel
theorem dX8_writeBits_50 : decode cX8_writeBits 50 = .ok (.if_icmp .gt 22, 3) := by decide +kernel
theorem dX8_writeBits_53 : decode cX8_writeBits 53 = .ok (.aload_n 0, 1) := by decide +kernel
theorem dX8_writeBits_54 : decode cX8_writeBits 54 = .ok (.bipush 48, 2) := by decide +kernel
theorem dX8_writeBits_56 : decode cX8_writeBits 56 = .ok (.aload_n 0, 1) := by decide +kernel
theorem dX8_writeBits_57 : decode cX8_writeBits 57 = .ok (.iload 4, 2) := by decide +kernel
theorem dX8_writeBits_59 : decode cX8_writeBits 59 = .ok (.invokevirtual 234, 3) := by decide +kernel
theorem dX8_writeBits_62 : decode cX8_writeBits 62 = .ok (.iadd, 1) := by decide +kernel
theorem dX8_writeBits_63 : decode cX8_writeBits 63 = .ok (.invokevirtual 375, 3) := by decide +kernel
theorem dX8_writeBits_66 : decode cX8_writeBits 66 = .ok (.iinc 4 1, 3) := by decide +kernel
theorem dX8_writeBits_69 : decode cX8_writeBits 69 = .ok (.goto (-22), 3) := by decide +kernel
theorem dX8_writeBits_72 : decode cX8_writeBits 72 = .ok (.aload_n 0, 1) := by decide +kernel
theorem dX8_writeBits_73 : decode cX8_writeBits 73 = .ok (.getfield 372, 3) := by decide +kernel
theorem dX8_writeBits_76 : decode cX8_writeBits 76 = .ok (.ireturn, 1) := by decide +kernel
theorem dX8_saysTree_0 : decode cX8_saysTree 0 = .ok (.iload_n 1, 1) := by decide +kernel
theorem dX8_saysTree_1 : decode cX8_saysTree 1 = .ok (.ifCond .ne 14, 3) := by decide +kernel
theorem dX8_saysTree_4 : decode cX8_saysTree 4 = .ok (.aload_n 0, 1) := by decide +kernel
theorem dX8_saysTree_5 : decode cX8_saysTree 5 = .ok (.aload_n 0, 1) := by decide +kernel
theorem dX8_saysTree_6 : decode cX8_saysTree 6 = .ok (.getfield 23, 3) := by decide +kernel
theorem dX8_saysTree_9 : decode cX8_saysTree 9 = .ok (.iload_n 2, 1) := by decide +kernel
theorem dX8_saysTree_10 : decode cX8_saysTree 10 = .ok (.iaload, 1) := by decide +kernel
theorem dX8_saysTree_11 : decode cX8_saysTree 11 = .ok (.invokevirtual 381, 3) := by decide +kernel
theorem dX8_saysTree_14 : decode cX8_saysTree 14 = .ok (.return_, 1) := by decide +kernel
theorem dX8_saysTree_15 : decode cX8_saysTree 15 = .ok (.aload_n 0, 1) := by decide +kernel
theorem dX8_saysTree_16 : decode cX8_saysTree 16 = .ok (.bipush 40, 2) := by decide +kernel
theorem dX8_saysTree_18 : decode cX8_saysTree 18 = .ok (.invokevirtual 375, 3) := by decide +kernel
theorem dX8_saysTree_21 : decode cX8_saysTree 21 = .ok (.iconst 0, 1) := by decide +kernel
theorem dX8_saysTree_22 : decode cX8_saysTree 22 = .ok (.istore_n 3, 1) := by decide +kernel
theorem dX8_saysTree_23 : decode cX8_saysTree 23 = .ok (.iload_n 3, 1) := by decide +kernel
theorem dX8_saysTree_24 : decode cX8_saysTree 24 = .ok (.iconst 4, 1) := by decide +kernel
theorem dX8_saysTree_25 : decode cX8_saysTree 25 = .ok (.if_icmp .ge 77, 3) := by decide +kernel
theorem dX8_saysTree_28 : decode cX8_saysTree 28 = .ok (.iconst 4, 1) := by decide +kernel
theorem dX8_saysTree_29 : decode cX8_saysTree 29 = .ok (.iload_n 2, 1) := by decide +kernel
theorem dX8_saysTree_30 : decode cX8_saysTree 30 = .ok (.imul, 1) := by decide +kernel
theorem dX8_saysTree_31 : decode cX8_saysTree 31 = .ok (.iload_n 3, 1) := by decide +kernel
theorem dX8_saysTree_32 : decode cX8_saysTree 32 = .ok (.iadd, 1) := by decide +kernel
theorem dX8_saysTree_33 : decode cX8_saysTree 33 = .ok (.istore 4, 2) := by decide +kernel
theorem dX8_saysTree_35 : decode cX8_saysTree 35 = .ok (.aload_n 0, 1) := by decide +kernel
theorem dX8_saysTree_36 : decode cX8_saysTree 36 = .ok (.getfield 29, 3) := by decide +kernel
theorem dX8_saysTree_39 : decode cX8_saysTree 39 = .ok (.aload_n 0, 1) := by decide +kernel
theorem dX8_saysTree_40 : decode cX8_saysTree 40 = .ok (.iload_n 1, 1) := by decide +kernel
theorem dX8_saysTree_41 : decode cX8_saysTree 41 = .ok (.iconst 1, 1) := by decide +kernel
theorem dX8_saysTree_42 : decode cX8_saysTree 42 = .ok (.isub, 1) := by decide +kernel
theorem dX8_saysTree_43 : decode cX8_saysTree 43 = .ok (.iload 4, 2) := by decide +kernel
theorem dX8_saysTree_45 : decode cX8_saysTree 45 = .ok (.invokevirtual 97, 3) := by decide +kernel
theorem dX8_saysTree_48 : decode cX8_saysTree 48 = .ok (.iaload, 1) := by decide +kernel
theorem dX8_saysTree_49 : decode cX8_saysTree 49 = .ok (.istore 5, 2) := by decide +kernel
theorem dX8_saysTree_51 : decode cX8_saysTree 51 = .ok (.iload 5, 2) := by decide +kernel
theorem dX8_saysTree_53 : decode cX8_saysTree 53 = .ok (.iconst 2, 1) := by decide +kernel
theorem dX8_saysTree_54 : decode cX8_saysTree 54 = .ok (.if_icmp .ne 15, 3) := by decide +kernel
theorem dX8_saysTree_57 : decode cX8_saysTree 57 = .ok (.aload_n 0, 1) := by decide +kernel
theorem dX8_saysTree_58 : decode cX8_saysTree 58 = .ok (.iload_n 1, 1) := by decide +kernel
theorem dX8_saysTree_59 : decode cX8_saysTree 59 = .ok (.iconst 1, 1) := by decide +kernel
theorem dX8_saysTree_60 : decode cX8_saysTree 60 = .ok (.isub, 1) := by decide +kernel
theorem dX8_saysTree_61 : decode cX8_saysTree 61 = .ok (.iload 4, 2) := by decide +kernel
theorem dX8_saysTree_63 : decode cX8_saysTree 63 = .ok (.invokevirtual 384, 3) := by decide +kernel
theorem dX8_saysTree_66 : decode cX8_saysTree 66 = .ok (.goto 30, 3) := by decide +kernel
theorem dX8_saysTree_69 : decode cX8_saysTree 69 = .ok (.aload_n 0, 1) := by decide +kernel
theorem dX8_saysTree_70 : decode cX8_saysTree 70 = .ok (.iload 5, 2) := by decide +kernel
theorem dX8_saysTree_72 : decode cX8_saysTree 72 = .ok (.ifCond .ne 8, 3) := by decide +kernel
theorem dX8_saysTree_75 : decode cX8_saysTree 75 = .ok (.bipush 45, 2) := by decide +kernel
theorem dX8_saysTree_77 : decode cX8_saysTree 77 = .ok (.goto 16, 3) := by decide +kernel
theorem dX8_saysTree_80 : decode cX8_saysTree 80 = .ok (.iload 5, 2) := by decide +kernel
theorem dX8_saysTree_82 : decode cX8_saysTree 82 = .ok (.iconst 1, 1) := by decide +kernel
theorem dX8_saysTree_83 : decode cX8_saysTree 83 = .ok (.if_icmp .ne 8, 3) := by decide +kernel
theorem dX8_saysTree_86 : decode cX8_saysTree 86 = .ok (.bipush 43, 2) := by decide +kernel
theorem dX8_saysTree_88 : decode cX8_saysTree 88 = .ok (.goto 5, 3) := by decide +kernel
theorem dX8_saysTree_91 : decode cX8_saysTree 91 = .ok (.bipush 61, 2) := by decide +kernel
theorem dX8_saysTree_93 : decode cX8_saysTree 93 = .ok (.invokevirtual 375, 3) := by decide +kernel
theorem dX8_saysTree_96 : decode cX8_saysTree 96 = .ok (.iinc 3 1, 3) := by decide +kernel
theorem dX8_saysTree_99 : decode cX8_saysTree 99 = .ok (.goto (-76), 3) := by decide +kernel
theorem dX8_saysTree_102 : decode cX8_saysTree 102 = .ok (.aload_n 0, 1) := by decide +kernel
theorem dX8_saysTree_103 : decode cX8_saysTree 103 = .ok (.bipush 41, 2) := by decide +kernel
theorem dX8_saysTree_105 : decode cX8_saysTree 105 = .ok (.invokevirtual 375, 3) := by decide +kernel
theorem dX8_saysTree_108 : decode cX8_saysTree 108 = .ok (.return_, 1) := by decide +kernel
theorem dX8_writeTree_0 : decode cX8_writeTree 0 = .ok (.aload_n 0, 1) := by decide +kernel
theorem dX8_writeTree_1 : decode cX8_writeTree 1 = .ok (.iload_n 1, 1) := by decide +kernel
theorem dX8_writeTree_2 : decode cX8_writeTree 2 = .ok (.invokevirtual 292, 3) := by decide +kernel
theorem dX8_writeTree_5 : decode cX8_writeTree 5 = .ok (.ifCond .eq 5, 3) := by decide +kernel
theorem dX8_writeTree_8 : decode cX8_writeTree 8 = .ok (.iconst 0, 1) := by decide +kernel
theorem dX8_writeTree_9 : decode cX8_writeTree 9 = .ok (.ireturn, 1) := by decide +kernel
theorem dX8_writeTree_10 : decode cX8_writeTree 10 = .ok (.aload_n 0, 1) := by decide +kernel
theorem dX8_writeTree_11 : decode cX8_writeTree 11 = .ok (.iload_n 1, 1) := by decide +kernel
theorem dX8_writeTree_12 : decode cX8_writeTree 12 = .ok (.invokevirtual 286, 3) := by decide +kernel
theorem dX8_writeTree_15 : decode cX8_writeTree 15 = .ok (.aload_n 0, 1) := by decide +kernel
theorem dX8_writeTree_16 : decode cX8_writeTree 16 = .ok (.iconst 0, 1) := by decide +kernel
theorem dX8_writeTree_17 : decode cX8_writeTree 17 = .ok (.putfield 372, 3) := by decide +kernel
theorem dX8_writeTree_20 : decode cX8_writeTree 20 = .ok (.aload_n 0, 1) := by decide +kernel
theorem dX8_writeTree_21 : decode cX8_writeTree 21 = .ok (.aload_n 0, 1) := by decide +kernel
theorem dX8_writeTree_22 : decode cX8_writeTree 22 = .ok (.getfield 83, 3) := by decide +kernel
theorem dX8_writeTree_25 : decode cX8_writeTree 25 = .ok (.iconst 0, 1) := by decide +kernel
theorem dX8_writeTree_26 : decode cX8_writeTree 26 = .ok (.invokevirtual 384, 3) := by decide +kernel
theorem dX8_writeTree_29 : decode cX8_writeTree 29 = .ok (.aload_n 0, 1) := by decide +kernel
theorem dX8_writeTree_30 : decode cX8_writeTree 30 = .ok (.getfield 372, 3) := by decide +kernel
theorem dX8_writeTree_33 : decode cX8_writeTree 33 = .ok (.ireturn, 1) := by decide +kernel
theorem dX8_textByte_0 : decode cX8_textByte 0 = .ok (.aload_n 0, 1) := by decide +kernel
theorem dX8_textByte_1 : decode cX8_textByte 1 = .ok (.iconst 0, 1) := by decide +kernel
theorem dX8_textByte_2 : decode cX8_textByte 2 = .ok (.putfield 57, 3) := by decide +kernel
theorem dX8_textByte_5 : decode cX8_textByte 5 = .ok (.aload_n 0, 1) := by decide +kernel
theorem dX8_textByte_6 : decode cX8_textByte 6 = .ok (.iload_n 1, 1) := by decide +kernel
theorem dX8_textByte_7 : decode cX8_textByte 7 = .ok (.iconst 0, 1) := by decide +kernel
theorem dX8_textByte_8 : decode cX8_textByte 8 = .ok (.aload_n 0, 1) := by decide +kernel
theorem dX8_textByte_9 : decode cX8_textByte 9 = .ok (.getfield 372, 3) := by decide +kernel
theorem dX8_textByte_12 : decode cX8_textByte 12 = .ok (.iconst 1, 1) := by decide +kernel
theorem dX8_textByte_13 : decode cX8_textByte 13 = .ok (.isub, 1) := by decide +kernel
theorem dX8_textByte_14 : decode cX8_textByte 14 = .ok (.invokestatic 71, 3) := by decide +kernel
theorem dX8_textByte_17 : decode cX8_textByte 17 = .ok (.ifCond .ne 7, 3) := by decide +kernel
theorem dX8_textByte_20 : decode cX8_textByte 20 = .ok (.iconst 1, 1) := by decide +kernel
theorem dX8_textByte_21 : decode cX8_textByte 21 = .ok (.goto 4, 3) := by decide +kernel
theorem dX8_textByte_24 : decode cX8_textByte 24 = .ok (.iconst 0, 1) := by decide +kernel
theorem dX8_textByte_25 : decode cX8_textByte 25 = .ok (.iconst 1, 1) := by decide +kernel
theorem dX8_textByte_26 : decode cX8_textByte 26 = .ok (.invokevirtual 64, 3) := by decide +kernel
theorem dX8_textByte_29 : decode cX8_textByte 29 = .ok (.ifCond .eq 7, 3) := by decide +kernel
theorem dX8_textByte_32 : decode cX8_textByte 32 = .ok (.iconst 0, 1) := by decide +kernel
theorem dX8_textByte_33 : decode cX8_textByte 33 = .ok (.goto 9, 3) := by decide +kernel
theorem dX8_textByte_36 : decode cX8_textByte 36 = .ok (.aload_n 0, 1) := by decide +kernel
theorem dX8_textByte_37 : decode cX8_textByte 37 = .ok (.getfield 54, 3) := by decide +kernel
theorem dX8_textByte_40 : decode cX8_textByte 40 = .ok (.iload_n 1, 1) := by decide +kernel
theorem dX8_textByte_41 : decode cX8_textByte 41 = .ok (.iaload, 1) := by decide +kernel
theorem dX8_textByte_42 : decode cX8_textByte 42 = .ok (.ireturn, 1) := by decide +kernel
theorem dX8_keeps_0 : decode cX8_keeps 0 = .ok (.iconst 0, 1) := by decide +kernel
theorem dX8_keeps_1 : decode cX8_keeps 1 = .ok (.istore_n 2, 1) := by decide +kernel
theorem dX8_keeps_2 : decode cX8_keeps 2 = .ok (.iload_n 2, 1) := by decide +kernel
theorem dX8_keeps_3 : decode cX8_keeps 3 = .ok (.sipush 1536, 3) := by decide +kernel
theorem dX8_keeps_6 : decode cX8_keeps 6 = .ok (.if_icmp .ge 27, 3) := by decide +kernel
theorem dX8_keeps_9 : decode cX8_keeps 9 = .ok (.aload_n 0, 1) := by decide +kernel
theorem dX8_keeps_10 : decode cX8_keeps 10 = .ok (.getfield 16, 3) := by decide +kernel
theorem dX8_keeps_13 : decode cX8_keeps 13 = .ok (.sipush 1536, 3) := by decide +kernel
theorem dX8_keeps_16 : decode cX8_keeps 16 = .ok (.iload_n 1, 1) := by decide +kernel
theorem dX8_keeps_17 : decode cX8_keeps 17 = .ok (.imul, 1) := by decide +kernel
theorem dX8_keeps_18 : decode cX8_keeps 18 = .ok (.iload_n 2, 1) := by decide +kernel
theorem dX8_keeps_19 : decode cX8_keeps 19 = .ok (.iadd, 1) := by decide +kernel
theorem dX8_keeps_20 : decode cX8_keeps 20 = .ok (.aload_n 0, 1) := by decide +kernel
theorem dX8_keeps_21 : decode cX8_keeps 21 = .ok (.getfield 13, 3) := by decide +kernel
theorem dX8_keeps_24 : decode cX8_keeps 24 = .ok (.iload_n 2, 1) := by decide +kernel
theorem dX8_keeps_25 : decode cX8_keeps 25 = .ok (.iaload, 1) := by decide +kernel
theorem dX8_keeps_26 : decode cX8_keeps 26 = .ok (.iastore, 1) := by decide +kernel
theorem dX8_keeps_27 : decode cX8_keeps 27 = .ok (.iinc 2 1, 3) := by decide +kernel
theorem dX8_keeps_30 : decode cX8_keeps 30 = .ok (.goto (-28), 3) := by decide +kernel
theorem dX8_keeps_33 : decode cX8_keeps 33 = .ok (.return_, 1) := by decide +kernel
theorem dX8_fetchesState_0 : decode cX8_fetchesState 0 = .ok (.iconst 0, 1) := by decide +kernel
theorem dX8_fetchesState_1 : decode cX8_fetchesState 1 = .ok (.istore_n 2, 1) := by decide +kernel
theorem dX8_fetchesState_2 : decode cX8_fetchesState 2 = .ok (.iload_n 2, 1) := by decide +kernel
theorem dX8_fetchesState_3 : decode cX8_fetchesState 3 = .ok (.sipush 1536, 3) := by decide +kernel
theorem dX8_fetchesState_6 : decode cX8_fetchesState 6 = .ok (.if_icmp .ge 27, 3) := by decide +kernel
theorem dX8_fetchesState_9 : decode cX8_fetchesState 9 = .ok (.aload_n 0, 1) := by decide +kernel
theorem dX8_fetchesState_10 : decode cX8_fetchesState 10 = .ok (.getfield 13, 3) := by decide +kernel
theorem dX8_fetchesState_13 : decode cX8_fetchesState 13 = .ok (.iload_n 2, 1) := by decide +kernel
theorem dX8_fetchesState_14 : decode cX8_fetchesState 14 = .ok (.aload_n 0, 1) := by decide +kernel
theorem dX8_fetchesState_15 : decode cX8_fetchesState 15 = .ok (.getfield 16, 3) := by decide +kernel
theorem dX8_fetchesState_18 : decode cX8_fetchesState 18 = .ok (.sipush 1536, 3) := by decide +kernel
theorem dX8_fetchesState_21 : decode cX8_fetchesState 21 = .ok (.iload_n 1, 1) := by decide +kernel
theorem dX8_fetchesState_22 : decode cX8_fetchesState 22 = .ok (.imul, 1) := by decide +kernel
theorem dX8_fetchesState_23 : decode cX8_fetchesState 23 = .ok (.iload_n 2, 1) := by decide +kernel
theorem dX8_fetchesState_24 : decode cX8_fetchesState 24 = .ok (.iadd, 1) := by decide +kernel
theorem dX8_fetchesState_25 : decode cX8_fetchesState 25 = .ok (.iaload, 1) := by decide +kernel
theorem dX8_fetchesState_26 : decode cX8_fetchesState 26 = .ok (.iastore, 1) := by decide +kernel
theorem dX8_fetchesState_27 : decode cX8_fetchesState 27 = .ok (.iinc 2 1, 3) := by decide +kernel
theorem dX8_fetchesState_30 : decode cX8_fetchesState 30 = .ok (.goto (-28), 3) := by decide +kernel
theorem dX8_fetchesState_33 : decode cX8_fetchesState 33 = .ok (.return_, 1) := by decide +kernel
theorem dX8_keepsAll_0 : decode cX8_keepsAll 0 = .ok (.aload_n 0, 1) := by decide +kernel
theorem dX8_keepsAll_1 : decode cX8_keepsAll 1 = .ok (.getfield 280, 3) := by decide +kernel
theorem dX8_keepsAll_4 : decode cX8_keepsAll 4 = .ok (.bipush 8, 2) := by decide +kernel
theorem dX8_keepsAll_6 : decode cX8_keepsAll 6 = .ok (.if_icmp .ne 44, 3) := by decide +kernel
theorem dX8_keepsAll_9 : decode cX8_keepsAll 9 = .ok (.iconst 0, 1) := by decide +kernel
theorem dX8_keepsAll_10 : decode cX8_keepsAll 10 = .ok (.istore_n 1, 1) := by decide +kernel
theorem dX8_keepsAll_11 : decode cX8_keepsAll 11 = .ok (.iload_n 1, 1) := by decide +kernel
theorem dX8_keepsAll_12 : decode cX8_keepsAll 12 = .ok (.sipush 10752, 3) := by decide +kernel
theorem dX8_keepsAll_15 : decode cX8_keepsAll 15 = .ok (.if_icmp .ge 25, 3) := by decide +kernel
theorem dX8_keepsAll_18 : decode cX8_keepsAll 18 = .ok (.aload_n 0, 1) := by decide +kernel
theorem dX8_keepsAll_19 : decode cX8_keepsAll 19 = .ok (.getfield 16, 3) := by decide +kernel
theorem dX8_keepsAll_22 : decode cX8_keepsAll 22 = .ok (.iload_n 1, 1) := by decide +kernel
theorem dX8_keepsAll_23 : decode cX8_keepsAll 23 = .ok (.aload_n 0, 1) := by decide +kernel
theorem dX8_keepsAll_24 : decode cX8_keepsAll 24 = .ok (.getfield 16, 3) := by decide +kernel
theorem dX8_keepsAll_27 : decode cX8_keepsAll 27 = .ok (.iload_n 1, 1) := by decide +kernel
theorem dX8_keepsAll_28 : decode cX8_keepsAll 28 = .ok (.sipush 1536, 3) := by decide +kernel
theorem dX8_keepsAll_31 : decode cX8_keepsAll 31 = .ok (.iadd, 1) := by decide +kernel
theorem dX8_keepsAll_32 : decode cX8_keepsAll 32 = .ok (.iaload, 1) := by decide +kernel
theorem dX8_keepsAll_33 : decode cX8_keepsAll 33 = .ok (.iastore, 1) := by decide +kernel
theorem dX8_keepsAll_34 : decode cX8_keepsAll 34 = .ok (.iinc 1 1, 3) := by decide +kernel
theorem dX8_keepsAll_37 : decode cX8_keepsAll 37 = .ok (.goto (-26), 3) := by decide +kernel
theorem dX8_keepsAll_40 : decode cX8_keepsAll 40 = .ok (.aload_n 0, 1) := by decide +kernel
theorem dX8_keepsAll_41 : decode cX8_keepsAll 41 = .ok (.dup, 1) := by decide +kernel
theorem dX8_keepsAll_42 : decode cX8_keepsAll 42 = .ok (.getfield 280, 3) := by decide +kernel
theorem dX8_keepsAll_45 : decode cX8_keepsAll 45 = .ok (.iconst 1, 1) := by decide +kernel
theorem dX8_keepsAll_46 : decode cX8_keepsAll 46 = .ok (.isub, 1) := by decide +kernel
theorem dX8_keepsAll_47 : decode cX8_keepsAll 47 = .ok (.putfield 280, 3) := by decide +kernel
theorem dX8_keepsAll_50 : decode cX8_keepsAll 50 = .ok (.aload_n 0, 1) := by decide +kernel
theorem dX8_keepsAll_51 : decode cX8_keepsAll 51 = .ok (.iconst 0, 1) := by decide +kernel
theorem dX8_keepsAll_52 : decode cX8_keepsAll 52 = .ok (.aload_n 0, 1) := by decide +kernel
theorem dX8_keepsAll_53 : decode cX8_keepsAll 53 = .ok (.getfield 280, 3) := by decide +kernel
theorem dX8_keepsAll_56 : decode cX8_keepsAll 56 = .ok (.iadd, 1) := by decide +kernel
theorem dX8_keepsAll_57 : decode cX8_keepsAll 57 = .ok (.invokevirtual 387, 3) := by decide +kernel
theorem dX8_keepsAll_60 : decode cX8_keepsAll 60 = .ok (.aload_n 0, 1) := by decide +kernel
theorem dX8_keepsAll_61 : decode cX8_keepsAll 61 = .ok (.dup, 1) := by decide +kernel
theorem dX8_keepsAll_62 : decode cX8_keepsAll 62 = .ok (.getfield 280, 3) := by decide +kernel
theorem dX8_keepsAll_65 : decode cX8_keepsAll 65 = .ok (.iconst 1, 1) := by decide +kernel
theorem dX8_keepsAll_66 : decode cX8_keepsAll 66 = .ok (.iadd, 1) := by decide +kernel
theorem dX8_keepsAll_67 : decode cX8_keepsAll 67 = .ok (.putfield 280, 3) := by decide +kernel
theorem dX8_keepsAll_70 : decode cX8_keepsAll 70 = .ok (.return_, 1) := by decide +kernel
theorem dX8_fill_0 : decode cX8_fill 0 = .ok (.aload_n 0, 1) := by decide +kernel
theorem dX8_fill_1 : decode cX8_fill 1 = .ok (.iload_n 1, 1) := by decide +kernel
theorem dX8_fill_2 : decode cX8_fill 2 = .ok (.iload_n 2, 1) := by decide +kernel
theorem dX8_fill_3 : decode cX8_fill 3 = .ok (.iload_n 3, 1) := by decide +kernel
theorem dX8_fill_4 : decode cX8_fill 4 = .ok (.invokevirtual 302, 3) := by decide +kernel
theorem dX8_fill_7 : decode cX8_fill 7 = .ok (.ifCond .ne 24, 3) := by decide +kernel
theorem dX8_fill_10 : decode cX8_fill 10 = .ok (.aload_n 0, 1) := by decide +kernel
theorem dX8_fill_11 : decode cX8_fill 11 = .ok (.iload 4, 2) := by decide +kernel
theorem dX8_fill_13 : decode cX8_fill 13 = .ok (.invokestatic 308, 3) := by decide +kernel
theorem dX8_fill_16 : decode cX8_fill 16 = .ok (.ifCond .ne 7, 3) := by decide +kernel
theorem dX8_fill_19 : decode cX8_fill 19 = .ok (.iconst 1, 1) := by decide +kernel
theorem dX8_fill_20 : decode cX8_fill 20 = .ok (.goto 4, 3) := by decide +kernel
theorem dX8_fill_23 : decode cX8_fill 23 = .ok (.iconst 0, 1) := by decide +kernel
theorem dX8_fill_24 : decode cX8_fill 24 = .ok (.iconst 3, 1) := by decide +kernel
theorem dX8_fill_25 : decode cX8_fill 25 = .ok (.invokevirtual 64, 3) := by decide +kernel
theorem dX8_fill_28 : decode cX8_fill 28 = .ok (.ifCond .eq 5, 3) := by decide +kernel
theorem dX8_fill_31 : decode cX8_fill 31 = .ok (.iconst 0, 1) := by decide +kernel
theorem dX8_fill_32 : decode cX8_fill 32 = .ok (.ireturn, 1) := by decide +kernel
theorem dX8_fill_33 : decode cX8_fill 33 = .ok (.aload_n 0, 1) := by decide +kernel
theorem dX8_fill_34 : decode cX8_fill 34 = .ok (.invokevirtual 390, 3) := by decide +kernel
theorem dX8_fill_37 : decode cX8_fill 37 = .ok (.aload_n 0, 1) := by decide +kernel
theorem dX8_fill_38 : decode cX8_fill 38 = .ok (.iload_n 1, 1) := by decide +kernel
theorem dX8_fill_39 : decode cX8_fill 39 = .ok (.invokevirtual 117, 3) := by decide +kernel
theorem dX8_fill_42 : decode cX8_fill 42 = .ok (.aload_n 0, 1) := by decide +kernel
theorem dX8_fill_43 : decode cX8_fill 43 = .ok (.iload_n 2, 1) := by decide +kernel
theorem dX8_fill_44 : decode cX8_fill 44 = .ok (.iload_n 3, 1) := by decide +kernel
theorem dX8_fill_45 : decode cX8_fill 45 = .ok (.iload 4, 2) := by decide +kernel
theorem dX8_fill_47 : decode cX8_fill 47 = .ok (.invokevirtual 366, 3) := by decide +kernel
theorem dX8_fill_50 : decode cX8_fill 50 = .ok (.istore 5, 2) := by decide +kernel
theorem dX8_fill_52 : decode cX8_fill 52 = .ok (.aload_n 0, 1) := by decide +kernel
theorem dX8_fill_53 : decode cX8_fill 53 = .ok (.iload_n 1, 1) := by decide +kernel
theorem dX8_fill_54 : decode cX8_fill 54 = .ok (.invokevirtual 393, 3) := by decide +kernel
theorem dX8_fill_57 : decode cX8_fill 57 = .ok (.iload 5, 2) := by decide +kernel
theorem dX8_fill_59 : decode cX8_fill 59 = .ok (.ireturn, 1) := by decide +kernel
theorem dX8_flip_0 : decode cX8_flip 0 = .ok (.aload_n 0, 1) := by decide +kernel
theorem dX8_flip_1 : decode cX8_flip 1 = .ok (.iload_n 1, 1) := by decide +kernel
theorem dX8_flip_2 : decode cX8_flip 2 = .ok (.iload_n 2, 1) := by decide +kernel
theorem dX8_flip_3 : decode cX8_flip 3 = .ok (.iload_n 3, 1) := by decide +kernel
theorem dX8_flip_4 : decode cX8_flip 4 = .ok (.invokevirtual 302, 3) := by decide +kernel
theorem dX8_flip_7 : decode cX8_flip 7 = .ok (.ifCond .eq 5, 3) := by decide +kernel
theorem dX8_flip_10 : decode cX8_flip 10 = .ok (.iconst 0, 1) := by decide +kernel
theorem dX8_flip_11 : decode cX8_flip 11 = .ok (.ireturn, 1) := by decide +kernel
theorem dX8_flip_12 : decode cX8_flip 12 = .ok (.aload_n 0, 1) := by decide +kernel
theorem dX8_flip_13 : decode cX8_flip 13 = .ok (.invokevirtual 390, 3) := by decide +kernel
theorem dX8_flip_16 : decode cX8_flip 16 = .ok (.aload_n 0, 1) := by decide +kernel
theorem dX8_flip_17 : decode cX8_flip 17 = .ok (.iload_n 1, 1) := by decide +kernel
theorem dX8_flip_18 : decode cX8_flip 18 = .ok (.invokevirtual 286, 3) := by decide +kernel
theorem dX8_flip_21 : decode cX8_flip 21 = .ok (.aload_n 0, 1) := by decide +kernel
theorem dX8_flip_22 : decode cX8_flip 22 = .ok (.getfield 101, 3) := by decide +kernel
theorem dX8_flip_25 : decode cX8_flip 25 = .ok (.istore 4, 2) := by decide +kernel
theorem dX8_flip_27 : decode cX8_flip 27 = .ok (.iload_n 2, 1) := by decide +kernel
theorem dX8_flip_28 : decode cX8_flip 28 = .ok (.istore 5, 2) := by decide +kernel
theorem dX8_flip_30 : decode cX8_flip 30 = .ok (.iload 5, 2) := by decide +kernel
theorem dX8_flip_32 : decode cX8_flip 32 = .ok (.iload_n 3, 1) := by decide +kernel
theorem dX8_flip_33 : decode cX8_flip 33 = .ok (.if_icmp .gt 23, 3) := by decide +kernel
theorem dX8_flip_36 : decode cX8_flip 36 = .ok (.aload_n 0, 1) := by decide +kernel
theorem dX8_flip_37 : decode cX8_flip 37 = .ok (.iload 5, 2) := by decide +kernel
theorem dX8_flip_39 : decode cX8_flip 39 = .ok (.iconst 1, 1) := by decide +kernel
theorem dX8_flip_40 : decode cX8_flip 40 = .ok (.aload_n 0, 1) := by decide +kernel
theorem dX8_flip_41 : decode cX8_flip 41 = .ok (.iload 5, 2) := by decide +kernel
theorem dX8_flip_43 : decode cX8_flip 43 = .ok (.invokevirtual 234, 3) := by decide +kernel
theorem dX8_flip_46 : decode cX8_flip 46 = .ok (.isub, 1) := by decide +kernel
theorem dX8_flip_47 : decode cX8_flip 47 = .ok (.invokevirtual 237, 3) := by decide +kernel
theorem dX8_flip_50 : decode cX8_flip 50 = .ok (.iinc 5 1, 3) := by decide +kernel
theorem dX8_flip_53 : decode cX8_flip 53 = .ok (.goto (-23), 3) := by decide +kernel
theorem dX8_flip_56 : decode cX8_flip 56 = .ok (.aload_n 0, 1) := by decide +kernel
theorem dX8_flip_57 : decode cX8_flip 57 = .ok (.iload_n 1, 1) := by decide +kernel
theorem dX8_flip_58 : decode cX8_flip 58 = .ok (.invokevirtual 393, 3) := by decide +kernel
theorem dX8_flip_61 : decode cX8_flip 61 = .ok (.aload_n 0, 1) := by decide +kernel
theorem dX8_flip_62 : decode cX8_flip 62 = .ok (.invokevirtual 121, 3) := by decide +kernel
theorem dX8_flip_65 : decode cX8_flip 65 = .ok (.aload_n 0, 1) := by decide +kernel
theorem dX8_flip_66 : decode cX8_flip 66 = .ok (.getfield 101, 3) := by decide +kernel
theorem dX8_flip_69 : decode cX8_flip 69 = .ok (.iload 4, 2) := by decide +kernel
theorem dX8_flip_71 : decode cX8_flip 71 = .ok (.isub, 1) := by decide +kernel
theorem dX8_flip_72 : decode cX8_flip 72 = .ok (.ireturn, 1) := by decide +kernel
theorem dX8_combine_0 : decode cX8_combine 0 = .ok (.aload_n 0, 1) := by decide +kernel
theorem dX8_combine_1 : decode cX8_combine 1 = .ok (.iload_n 2, 1) := by decide +kernel
theorem dX8_combine_2 : decode cX8_combine 2 = .ok (.iload_n 3, 1) := by decide +kernel
theorem dX8_combine_3 : decode cX8_combine 3 = .ok (.invokevirtual 341, 3) := by decide +kernel
theorem dX8_combine_6 : decode cX8_combine 6 = .ok (.ifCond .ne 47, 3) := by decide +kernel
theorem dX8_combine_9 : decode cX8_combine 9 = .ok (.aload_n 0, 1) := by decide +kernel
theorem dX8_combine_10 : decode cX8_combine 10 = .ok (.aload_n 0, 1) := by decide +kernel
theorem dX8_combine_11 : decode cX8_combine 11 = .ok (.iload 4, 2) := by decide +kernel
theorem dX8_combine_13 : decode cX8_combine 13 = .ok (.invokevirtual 79, 3) := by decide +kernel
theorem dX8_combine_16 : decode cX8_combine 16 = .ok (.ifCond .ne 7, 3) := by decide +kernel
theorem dX8_combine_19 : decode cX8_combine 19 = .ok (.iconst 1, 1) := by decide +kernel
theorem dX8_combine_20 : decode cX8_combine 20 = .ok (.goto 4, 3) := by decide +kernel
theorem dX8_combine_23 : decode cX8_combine 23 = .ok (.iconst 0, 1) := by decide +kernel
theorem dX8_combine_24 : decode cX8_combine 24 = .ok (.iconst 2, 1) := by decide +kernel
theorem dX8_combine_25 : decode cX8_combine 25 = .ok (.invokevirtual 64, 3) := by decide +kernel
theorem dX8_combine_28 : decode cX8_combine 28 = .ok (.ifCond .ne 25, 3) := by decide +kernel
theorem dX8_combine_31 : decode cX8_combine 31 = .ok (.aload_n 0, 1) := by decide +kernel
theorem dX8_combine_32 : decode cX8_combine 32 = .ok (.iload_n 1, 1) := by decide +kernel
theorem dX8_combine_33 : decode cX8_combine 33 = .ok (.iconst 0, 1) := by decide +kernel
theorem dX8_combine_34 : decode cX8_combine 34 = .ok (.iconst 3, 1) := by decide +kernel
theorem dX8_combine_35 : decode cX8_combine 35 = .ok (.invokestatic 71, 3) := by decide +kernel
theorem dX8_combine_38 : decode cX8_combine 38 = .ok (.ifCond .ne 7, 3) := by decide +kernel
theorem dX8_combine_41 : decode cX8_combine 41 = .ok (.iconst 1, 1) := by decide +kernel
theorem dX8_combine_42 : decode cX8_combine 42 = .ok (.goto 4, 3) := by decide +kernel
theorem dX8_combine_45 : decode cX8_combine 45 = .ok (.iconst 0, 1) := by decide +kernel
theorem dX8_combine_46 : decode cX8_combine 46 = .ok (.iconst 3, 1) := by decide +kernel
theorem dX8_combine_47 : decode cX8_combine 47 = .ok (.invokevirtual 64, 3) := by decide +kernel
theorem dX8_combine_50 : decode cX8_combine 50 = .ok (.ifCond .eq 5, 3) := by decide +kernel
theorem dX8_combine_53 : decode cX8_combine 53 = .ok (.iconst 0, 1) := by decide +kernel
theorem dX8_combine_54 : decode cX8_combine 54 = .ok (.ireturn, 1) := by decide +kernel
theorem dX8_combine_55 : decode cX8_combine 55 = .ok (.aload_n 0, 1) := by decide +kernel
theorem dX8_combine_56 : decode cX8_combine 56 = .ok (.invokevirtual 390, 3) := by decide +kernel
theorem dX8_combine_59 : decode cX8_combine 59 = .ok (.aload_n 0, 1) := by decide +kernel
theorem dX8_combine_60 : decode cX8_combine 60 = .ok (.iload_n 1, 1) := by decide +kernel
theorem dX8_combine_61 : decode cX8_combine 61 = .ok (.iload_n 2, 1) := by decide +kernel
theorem dX8_combine_62 : decode cX8_combine 62 = .ok (.iload_n 3, 1) := by decide +kernel
theorem dX8_combine_63 : decode cX8_combine 63 = .ok (.invokevirtual 357, 3) := by decide +kernel
theorem dX8_combine_66 : decode cX8_combine 66 = .ok (.aload_n 0, 1) := by decide +kernel
theorem dX8_combine_67 : decode cX8_combine 67 = .ok (.iload 4, 2) := by decide +kernel
theorem dX8_combine_69 : decode cX8_combine 69 = .ok (.invokevirtual 393, 3) := by decide +kernel
theorem dX8_combine_72 : decode cX8_combine 72 = .ok (.aload_n 0, 1) := by decide +kernel
theorem dX8_combine_73 : decode cX8_combine 73 = .ok (.iconst 0, 1) := by decide +kernel
theorem dX8_combine_74 : decode cX8_combine 74 = .ok (.aload_n 0, 1) := by decide +kernel
theorem dX8_combine_75 : decode cX8_combine 75 = .ok (.invokevirtual 225, 3) := by decide +kernel
theorem dX8_combine_78 : decode cX8_combine 78 = .ok (.iconst 1, 1) := by decide +kernel
theorem dX8_combine_79 : decode cX8_combine 79 = .ok (.isub, 1) := by decide +kernel
theorem dX8_combine_80 : decode cX8_combine 80 = .ok (.invokevirtual 305, 3) := by decide +kernel
theorem dX8_combine_83 : decode cX8_combine 83 = .ok (.ireturn, 1) := by decide +kernel
theorem dX8_copyBlock_0 : decode cX8_copyBlock 0 = .ok (.aload_n 0, 1) := by decide +kernel
theorem dX8_copyBlock_1 : decode cX8_copyBlock 1 = .ok (.iload_n 1, 1) := by decide +kernel
theorem dX8_copyBlock_2 : decode cX8_copyBlock 2 = .ok (.iload_n 2, 1) := by decide +kernel
theorem dX8_copyBlock_3 : decode cX8_copyBlock 3 = .ok (.iload_n 3, 1) := by decide +kernel
theorem dX8_copyBlock_4 : decode cX8_copyBlock 4 = .ok (.invokevirtual 335, 3) := by decide +kernel
theorem dX8_copyBlock_7 : decode cX8_copyBlock 7 = .ok (.ifCond .ne 26, 3) := by decide +kernel
theorem dX8_copyBlock_10 : decode cX8_copyBlock 10 = .ok (.aload_n 0, 1) := by decide +kernel
theorem dX8_copyBlock_11 : decode cX8_copyBlock 11 = .ok (.aload_n 0, 1) := by decide +kernel
theorem dX8_copyBlock_12 : decode cX8_copyBlock 12 = .ok (.iload_n 2, 1) := by decide +kernel
theorem dX8_copyBlock_13 : decode cX8_copyBlock 13 = .ok (.iload 4, 2) := by decide +kernel
theorem dX8_copyBlock_15 : decode cX8_copyBlock 15 = .ok (.invokevirtual 332, 3) := by decide +kernel
theorem dX8_copyBlock_18 : decode cX8_copyBlock 18 = .ok (.ifCond .ne 7, 3) := by decide +kernel
theorem dX8_copyBlock_21 : decode cX8_copyBlock 21 = .ok (.iconst 1, 1) := by decide +kernel
theorem dX8_copyBlock_22 : decode cX8_copyBlock 22 = .ok (.goto 4, 3) := by decide +kernel
theorem dX8_copyBlock_25 : decode cX8_copyBlock 25 = .ok (.iconst 0, 1) := by decide +kernel
theorem dX8_copyBlock_26 : decode cX8_copyBlock 26 = .ok (.iconst 2, 1) := by decide +kernel
theorem dX8_copyBlock_27 : decode cX8_copyBlock 27 = .ok (.invokevirtual 64, 3) := by decide +kernel
theorem dX8_copyBlock_30 : decode cX8_copyBlock 30 = .ok (.ifCond .eq 5, 3) := by decide +kernel
theorem dX8_copyBlock_33 : decode cX8_copyBlock 33 = .ok (.iconst 0, 1) := by decide +kernel
theorem dX8_copyBlock_34 : decode cX8_copyBlock 34 = .ok (.ireturn, 1) := by decide +kernel
theorem dX8_copyBlock_35 : decode cX8_copyBlock 35 = .ok (.aload_n 0, 1) := by decide +kernel
theorem dX8_copyBlock_36 : decode cX8_copyBlock 36 = .ok (.invokevirtual 390, 3) := by decide +kernel
theorem dX8_copyBlock_39 : decode cX8_copyBlock 39 = .ok (.aload_n 0, 1) := by decide +kernel
theorem dX8_copyBlock_40 : decode cX8_copyBlock 40 = .ok (.iload_n 1, 1) := by decide +kernel
theorem dX8_copyBlock_41 : decode cX8_copyBlock 41 = .ok (.invokevirtual 117, 3) := by decide +kernel
theorem dX8_copyBlock_44 : decode cX8_copyBlock 44 = .ok (.aload_n 0, 1) := by decide +kernel
theorem dX8_copyBlock_45 : decode cX8_copyBlock 45 = .ok (.iload_n 2, 1) := by decide +kernel
theorem dX8_copyBlock_46 : decode cX8_copyBlock 46 = .ok (.iload_n 3, 1) := by decide +kernel
theorem dX8_copyBlock_47 : decode cX8_copyBlock 47 = .ok (.iload 4, 2) := by decide +kernel
theorem dX8_copyBlock_49 : decode cX8_copyBlock 49 = .ok (.invokevirtual 143, 3) := by decide +kernel
theorem dX8_copyBlock_52 : decode cX8_copyBlock 52 = .ok (.aload_n 0, 1) := by decide +kernel
theorem dX8_copyBlock_53 : decode cX8_copyBlock 53 = .ok (.iload_n 1, 1) := by decide +kernel
theorem dX8_copyBlock_54 : decode cX8_copyBlock 54 = .ok (.invokevirtual 393, 3) := by decide +kernel
theorem dX8_copyBlock_57 : decode cX8_copyBlock 57 = .ok (.aload_n 0, 1) := by decide +kernel
theorem dX8_copyBlock_58 : decode cX8_copyBlock 58 = .ok (.invokevirtual 121, 3) := by decide +kernel
theorem dX8_copyBlock_61 : decode cX8_copyBlock 61 = .ok (.aload_n 0, 1) := by decide +kernel
theorem dX8_copyBlock_62 : decode cX8_copyBlock 62 = .ok (.getfield 101, 3) := by decide +kernel
theorem dX8_copyBlock_65 : decode cX8_copyBlock 65 = .ok (.ireturn, 1) := by decide +kernel
theorem dX8_shift_0 : decode cX8_shift 0 = .ok (.aload_n 0, 1) := by decide +kernel
theorem dX8_shift_1 : decode cX8_shift 1 = .ok (.iload_n 1, 1) := by decide +kernel
theorem dX8_shift_2 : decode cX8_shift 2 = .ok (.invokevirtual 292, 3) := by decide +kernel
theorem dX8_shift_5 : decode cX8_shift 5 = .ok (.ifCond .eq 5, 3) := by decide +kernel
theorem dX8_shift_8 : decode cX8_shift 8 = .ok (.iconst 0, 1) := by decide +kernel
theorem dX8_shift_9 : decode cX8_shift 9 = .ok (.ireturn, 1) := by decide +kernel
theorem dX8_shift_10 : decode cX8_shift 10 = .ok (.aload_n 0, 1) := by decide +kernel
theorem dX8_shift_11 : decode cX8_shift 11 = .ok (.invokevirtual 390, 3) := by decide +kernel
theorem dX8_shift_14 : decode cX8_shift 14 = .ok (.aload_n 0, 1) := by decide +kernel
theorem dX8_shift_15 : decode cX8_shift 15 = .ok (.iload_n 1, 1) := by decide +kernel
theorem dX8_shift_16 : decode cX8_shift 16 = .ok (.invokevirtual 117, 3) := by decide +kernel
theorem dX8_shift_19 : decode cX8_shift 19 = .ok (.aload_n 0, 1) := by decide +kernel
theorem dX8_shift_20 : decode cX8_shift 20 = .ok (.iload_n 2, 1) := by decide +kernel
theorem dX8_shift_21 : decode cX8_shift 21 = .ok (.invokevirtual 369, 3) := by decide +kernel
theorem dX8_shift_24 : decode cX8_shift 24 = .ok (.istore_n 3, 1) := by decide +kernel
theorem dX8_shift_25 : decode cX8_shift 25 = .ok (.aload_n 0, 1) := by decide +kernel
theorem dX8_shift_26 : decode cX8_shift 26 = .ok (.iload_n 1, 1) := by decide +kernel
theorem dX8_shift_27 : decode cX8_shift 27 = .ok (.invokevirtual 393, 3) := by decide +kernel
theorem dX8_shift_30 : decode cX8_shift 30 = .ok (.iload_n 3, 1) := by decide +kernel
theorem dX8_shift_31 : decode cX8_shift 31 = .ok (.ireturn, 1) := by decide +kernel
theorem dX8_mirror_0 : decode cX8_mirror 0 = .ok (.aload_n 0, 1) := by decide +kernel
theorem dX8_mirror_1 : decode cX8_mirror 1 = .ok (.iload_n 1, 1) := by decide +kernel
theorem dX8_mirror_2 : decode cX8_mirror 2 = .ok (.invokevirtual 292, 3) := by decide +kernel
theorem dX8_mirror_5 : decode cX8_mirror 5 = .ok (.ifCond .eq 5, 3) := by decide +kernel
theorem dX8_mirror_8 : decode cX8_mirror 8 = .ok (.iconst 0, 1) := by decide +kernel
theorem dX8_mirror_9 : decode cX8_mirror 9 = .ok (.ireturn, 1) := by decide +kernel
theorem dX8_mirror_10 : decode cX8_mirror 10 = .ok (.aload_n 0, 1) := by decide +kernel
theorem dX8_mirror_11 : decode cX8_mirror 11 = .ok (.invokevirtual 390, 3) := by decide +kernel
theorem dX8_mirror_14 : decode cX8_mirror 14 = .ok (.aload_n 0, 1) := by decide +kernel
theorem dX8_mirror_15 : decode cX8_mirror 15 = .ok (.iload_n 1, 1) := by decide +kernel
theorem dX8_mirror_16 : decode cX8_mirror 16 = .ok (.invokevirtual 117, 3) := by decide +kernel
theorem dX8_mirror_19 : decode cX8_mirror 19 = .ok (.iconst 0, 1) := by decide +kernel
theorem dX8_mirror_20 : decode cX8_mirror 20 = .ok (.istore_n 2, 1) := by decide +kernel
theorem dX8_mirror_21 : decode cX8_mirror 21 = .ok (.aload_n 0, 1) := by decide +kernel
theorem dX8_mirror_22 : decode cX8_mirror 22 = .ok (.invokevirtual 225, 3) := by decide +kernel
theorem dX8_mirror_25 : decode cX8_mirror 25 = .ok (.iconst 1, 1) := by decide +kernel
theorem dX8_mirror_26 : decode cX8_mirror 26 = .ok (.isub, 1) := by decide +kernel
theorem dX8_mirror_27 : decode cX8_mirror 27 = .ok (.istore_n 3, 1) := by decide +kernel
theorem dX8_mirror_28 : decode cX8_mirror 28 = .ok (.iload_n 2, 1) := by decide +kernel
theorem dX8_mirror_29 : decode cX8_mirror 29 = .ok (.iload_n 3, 1) := by decide +kernel
theorem dX8_mirror_30 : decode cX8_mirror 30 = .ok (.if_icmp .ge 36, 3) := by decide +kernel
theorem dX8_mirror_33 : decode cX8_mirror 33 = .ok (.aload_n 0, 1) := by decide +kernel
theorem dX8_mirror_34 : decode cX8_mirror 34 = .ok (.iload_n 2, 1) := by decide +kernel
theorem dX8_mirror_35 : decode cX8_mirror 35 = .ok (.invokevirtual 234, 3) := by decide +kernel
theorem dX8_mirror_38 : decode cX8_mirror 38 = .ok (.istore 4, 2) := by decide +kernel
theorem dX8_mirror_40 : decode cX8_mirror 40 = .ok (.aload_n 0, 1) := by decide +kernel
theorem dX8_mirror_41 : decode cX8_mirror 41 = .ok (.iload_n 2, 1) := by decide +kernel
theorem dX8_mirror_42 : decode cX8_mirror 42 = .ok (.aload_n 0, 1) := by decide +kernel
theorem dX8_mirror_43 : decode cX8_mirror 43 = .ok (.iload_n 3, 1) := by decide +kernel
theorem dX8_mirror_44 : decode cX8_mirror 44 = .ok (.invokevirtual 234, 3) := by decide +kernel
theorem dX8_mirror_47 : decode cX8_mirror 47 = .ok (.invokevirtual 237, 3) := by decide +kernel
theorem dX8_mirror_50 : decode cX8_mirror 50 = .ok (.aload_n 0, 1) := by decide +kernel
theorem dX8_mirror_51 : decode cX8_mirror 51 = .ok (.iload_n 3, 1) := by decide +kernel
theorem dX8_mirror_52 : decode cX8_mirror 52 = .ok (.iload 4, 2) := by decide +kernel
theorem dX8_mirror_54 : decode cX8_mirror 54 = .ok (.invokevirtual 237, 3) := by decide +kernel
theorem dX8_mirror_57 : decode cX8_mirror 57 = .ok (.iinc 2 1, 3) := by decide +kernel
theorem dX8_mirror_60 : decode cX8_mirror 60 = .ok (.iinc 3 (-1), 3) := by decide +kernel
theorem dX8_mirror_63 : decode cX8_mirror 63 = .ok (.goto (-35), 3) := by decide +kernel
theorem dX8_mirror_66 : decode cX8_mirror 66 = .ok (.aload_n 0, 1) := by decide +kernel
theorem dX8_mirror_67 : decode cX8_mirror 67 = .ok (.iload_n 1, 1) := by decide +kernel
theorem dX8_mirror_68 : decode cX8_mirror 68 = .ok (.invokevirtual 393, 3) := by decide +kernel
theorem dX8_mirror_71 : decode cX8_mirror 71 = .ok (.aload_n 0, 1) := by decide +kernel
theorem dX8_mirror_72 : decode cX8_mirror 72 = .ok (.invokevirtual 121, 3) := by decide +kernel
theorem dX8_mirror_75 : decode cX8_mirror 75 = .ok (.aload_n 0, 1) := by decide +kernel
theorem dX8_mirror_76 : decode cX8_mirror 76 = .ok (.getfield 101, 3) := by decide +kernel
theorem dX8_mirror_79 : decode cX8_mirror 79 = .ok (.ireturn, 1) := by decide +kernel
theorem dX8_read_0 : decode cX8_read 0 = .ok (.aload_n 0, 1) := by decide +kernel
theorem dX8_read_1 : decode cX8_read 1 = .ok (.iload_n 1, 1) := by decide +kernel
theorem dX8_read_2 : decode cX8_read 2 = .ok (.invokevirtual 292, 3) := by decide +kernel
theorem dX8_read_5 : decode cX8_read 5 = .ok (.ifCond .ne 28, 3) := by decide +kernel
theorem dX8_read_8 : decode cX8_read 8 = .ok (.aload_n 0, 1) := by decide +kernel
theorem dX8_read_9 : decode cX8_read 9 = .ok (.iload_n 2, 1) := by decide +kernel
theorem dX8_read_10 : decode cX8_read 10 = .ok (.iconst 0, 1) := by decide +kernel
theorem dX8_read_11 : decode cX8_read 11 = .ok (.aload_n 0, 1) := by decide +kernel
theorem dX8_read_12 : decode cX8_read 12 = .ok (.getfield 152, 3) := by decide +kernel
theorem dX8_read_15 : decode cX8_read 15 = .ok (.invokestatic 71, 3) := by decide +kernel
theorem dX8_read_18 : decode cX8_read 18 = .ok (.ifCond .ne 7, 3) := by decide +kernel
theorem dX8_read_21 : decode cX8_read 21 = .ok (.iconst 1, 1) := by decide +kernel
theorem dX8_read_22 : decode cX8_read 22 = .ok (.goto 4, 3) := by decide +kernel
theorem dX8_read_25 : decode cX8_read 25 = .ok (.iconst 0, 1) := by decide +kernel
theorem dX8_read_26 : decode cX8_read 26 = .ok (.iconst 2, 1) := by decide +kernel
theorem dX8_read_27 : decode cX8_read 27 = .ok (.invokevirtual 64, 3) := by decide +kernel
theorem dX8_read_30 : decode cX8_read 30 = .ok (.ifCond .eq 5, 3) := by decide +kernel
theorem dX8_read_33 : decode cX8_read 33 = .ok (.iconst 0, 1) := by decide +kernel
theorem dX8_read_34 : decode cX8_read 34 = .ok (.ireturn, 1) := by decide +kernel
theorem dX8_read_35 : decode cX8_read 35 = .ok (.aload_n 0, 1) := by decide +kernel
theorem dX8_read_36 : decode cX8_read 36 = .ok (.iload_n 2, 1) := by decide +kernel
theorem dX8_read_37 : decode cX8_read 37 = .ok (.invokevirtual 283, 3) := by decide +kernel
theorem dX8_read_40 : decode cX8_read 40 = .ok (.istore_n 3, 1) := by decide +kernel
theorem dX8_read_41 : decode cX8_read 41 = .ok (.aload_n 0, 1) := by decide +kernel
theorem dX8_read_42 : decode cX8_read 42 = .ok (.iload_n 3, 1) := by decide +kernel
theorem dX8_read_43 : decode cX8_read 43 = .ok (.iconst (-1), 1) := by decide +kernel
theorem dX8_read_44 : decode cX8_read 44 = .ok (.if_icmp .eq 7, 3) := by decide +kernel
theorem dX8_read_47 : decode cX8_read 47 = .ok (.iconst 1, 1) := by decide +kernel
theorem dX8_read_48 : decode cX8_read 48 = .ok (.goto 4, 3) := by decide +kernel
theorem dX8_read_51 : decode cX8_read 51 = .ok (.iconst 0, 1) := by decide +kernel
theorem dX8_read_52 : decode cX8_read 52 = .ok (.iconst 3, 1) := by decide +kernel
theorem dX8_read_53 : decode cX8_read 53 = .ok (.invokevirtual 64, 3) := by decide +kernel
theorem dX8_read_56 : decode cX8_read 56 = .ok (.ifCond .eq 5, 3) := by decide +kernel
theorem dX8_read_59 : decode cX8_read 59 = .ok (.iconst 0, 1) := by decide +kernel
theorem dX8_read_60 : decode cX8_read 60 = .ok (.ireturn, 1) := by decide +kernel
theorem dX8_read_61 : decode cX8_read 61 = .ok (.aload_n 0, 1) := by decide +kernel
theorem dX8_read_62 : decode cX8_read 62 = .ok (.invokevirtual 390, 3) := by decide +kernel
theorem dX8_read_65 : decode cX8_read 65 = .ok (.aload_n 0, 1) := by decide +kernel
theorem dX8_read_66 : decode cX8_read 66 = .ok (.iload_n 1, 1) := by decide +kernel
theorem dX8_read_67 : decode cX8_read 67 = .ok (.invokevirtual 393, 3) := by decide +kernel
theorem dX8_read_70 : decode cX8_read 70 = .ok (.aload_n 0, 1) := by decide +kernel
theorem dX8_read_71 : decode cX8_read 71 = .ok (.iconst 0, 1) := by decide +kernel
theorem dX8_read_72 : decode cX8_read 72 = .ok (.aload_n 0, 1) := by decide +kernel
theorem dX8_read_73 : decode cX8_read 73 = .ok (.invokevirtual 225, 3) := by decide +kernel
theorem dX8_read_76 : decode cX8_read 76 = .ok (.iconst 1, 1) := by decide +kernel
theorem dX8_read_77 : decode cX8_read 77 = .ok (.isub, 1) := by decide +kernel
theorem dX8_read_78 : decode cX8_read 78 = .ok (.invokevirtual 305, 3) := by decide +kernel
theorem dX8_read_81 : decode cX8_read 81 = .ok (.ireturn, 1) := by decide +kernel
theorem dX8_undo_0 : decode cX8_undo 0 = .ok (.aload_n 0, 1) := by decide +kernel
theorem dX8_undo_1 : decode cX8_undo 1 = .ok (.iconst 0, 1) := by decide +kernel
theorem dX8_undo_2 : decode cX8_undo 2 = .ok (.putfield 57, 3) := by decide +kernel
theorem dX8_undo_5 : decode cX8_undo 5 = .ok (.aload_n 0, 1) := by decide +kernel
theorem dX8_undo_6 : decode cX8_undo 6 = .ok (.aload_n 0, 1) := by decide +kernel
theorem dX8_undo_7 : decode cX8_undo 7 = .ok (.getfield 280, 3) := by decide +kernel
theorem dX8_undo_10 : decode cX8_undo 10 = .ok (.ifCond .ne 7, 3) := by decide +kernel
theorem dX8_undo_13 : decode cX8_undo 13 = .ok (.iconst 1, 1) := by decide +kernel
theorem dX8_undo_14 : decode cX8_undo 14 = .ok (.goto 4, 3) := by decide +kernel
theorem dX8_undo_17 : decode cX8_undo 17 = .ok (.iconst 0, 1) := by decide +kernel
theorem dX8_undo_18 : decode cX8_undo 18 = .ok (.iconst 1, 1) := by decide +kernel
theorem dX8_undo_19 : decode cX8_undo 19 = .ok (.invokevirtual 64, 3) := by decide +kernel
theorem dX8_undo_22 : decode cX8_undo 22 = .ok (.ifCond .eq 5, 3) := by decide +kernel
theorem dX8_undo_25 : decode cX8_undo 25 = .ok (.iconst 0, 1) := by decide +kernel
theorem dX8_undo_26 : decode cX8_undo 26 = .ok (.ireturn, 1) := by decide +kernel
theorem dX8_undo_27 : decode cX8_undo 27 = .ok (.aload_n 0, 1) := by decide +kernel
theorem dX8_undo_28 : decode cX8_undo 28 = .ok (.dup, 1) := by decide +kernel
theorem dX8_undo_29 : decode cX8_undo 29 = .ok (.getfield 280, 3) := by decide +kernel
theorem dX8_undo_32 : decode cX8_undo 32 = .ok (.iconst 1, 1) := by decide +kernel
theorem dX8_undo_33 : decode cX8_undo 33 = .ok (.isub, 1) := by decide +kernel
theorem dX8_undo_34 : decode cX8_undo 34 = .ok (.putfield 280, 3) := by decide +kernel
theorem dX8_undo_37 : decode cX8_undo 37 = .ok (.aload_n 0, 1) := by decide +kernel
theorem dX8_undo_38 : decode cX8_undo 38 = .ok (.iconst 0, 1) := by decide +kernel
theorem dX8_undo_39 : decode cX8_undo 39 = .ok (.aload_n 0, 1) := by decide +kernel
theorem dX8_undo_40 : decode cX8_undo 40 = .ok (.getfield 280, 3) := by decide +kernel
theorem dX8_undo_43 : decode cX8_undo 43 = .ok (.iadd, 1) := by decide +kernel
theorem dX8_undo_44 : decode cX8_undo 44 = .ok (.invokevirtual 396, 3) := by decide +kernel
theorem dX8_undo_47 : decode cX8_undo 47 = .ok (.aload_n 0, 1) := by decide +kernel
theorem dX8_undo_48 : decode cX8_undo 48 = .ok (.getfield 280, 3) := by decide +kernel
theorem dX8_undo_51 : decode cX8_undo 51 = .ok (.ireturn, 1) := by decide +kernel
theorem dX8_undoable_0 : decode cX8_undoable 0 = .ok (.aload_n 0, 1) := by decide +kernel
theorem dX8_undoable_1 : decode cX8_undoable 1 = .ok (.iconst 0, 1) := by decide +kernel
theorem dX8_undoable_2 : decode cX8_undoable 2 = .ok (.putfield 57, 3) := by decide +kernel
theorem dX8_undoable_5 : decode cX8_undoable 5 = .ok (.aload_n 0, 1) := by decide +kernel
theorem dX8_undoable_6 : decode cX8_undoable 6 = .ok (.getfield 280, 3) := by decide +kernel
theorem dX8_undoable_9 : decode cX8_undoable 9 = .ok (.ireturn, 1) := by decide +kernel
theorem dX8_save_0 : decode cX8_save 0 = .ok (.aload_n 0, 1) := by decide +kernel
theorem dX8_save_1 : decode cX8_save 1 = .ok (.invokevirtual 75, 3) := by decide +kernel
theorem dX8_save_4 : decode cX8_save 4 = .ok (.ifCond .ne 25, 3) := by decide +kernel
theorem dX8_save_7 : decode cX8_save 7 = .ok (.aload_n 0, 1) := by decide +kernel
theorem dX8_save_8 : decode cX8_save 8 = .ok (.iload_n 1, 1) := by decide +kernel
theorem dX8_save_9 : decode cX8_save 9 = .ok (.iconst 0, 1) := by decide +kernel
theorem dX8_save_10 : decode cX8_save 10 = .ok (.iconst 1, 1) := by decide +kernel
theorem dX8_save_11 : decode cX8_save 11 = .ok (.invokestatic 71, 3) := by decide +kernel
theorem dX8_save_14 : decode cX8_save 14 = .ok (.ifCond .ne 7, 3) := by decide +kernel
theorem dX8_save_17 : decode cX8_save 17 = .ok (.iconst 1, 1) := by decide +kernel
theorem dX8_save_18 : decode cX8_save 18 = .ok (.goto 4, 3) := by decide +kernel
theorem dX8_save_21 : decode cX8_save 21 = .ok (.iconst 0, 1) := by decide +kernel
theorem dX8_save_22 : decode cX8_save 22 = .ok (.iconst 2, 1) := by decide +kernel
theorem dX8_save_23 : decode cX8_save 23 = .ok (.invokevirtual 64, 3) := by decide +kernel
theorem dX8_save_26 : decode cX8_save 26 = .ok (.ifCond .eq 5, 3) := by decide +kernel
theorem dX8_save_29 : decode cX8_save 29 = .ok (.iconst 0, 1) := by decide +kernel
theorem dX8_save_30 : decode cX8_save 30 = .ok (.ireturn, 1) := by decide +kernel
theorem dX8_save_31 : decode cX8_save 31 = .ok (.aload_n 0, 1) := by decide +kernel
theorem dX8_save_32 : decode cX8_save 32 = .ok (.bipush 8, 2) := by decide +kernel
theorem dX8_save_34 : decode cX8_save 34 = .ok (.iload_n 1, 1) := by decide +kernel
theorem dX8_save_35 : decode cX8_save 35 = .ok (.iadd, 1) := by decide +kernel
theorem dX8_save_36 : decode cX8_save 36 = .ok (.invokevirtual 387, 3) := by decide +kernel
theorem dX8_save_39 : decode cX8_save 39 = .ok (.aload_n 0, 1) := by decide +kernel
theorem dX8_save_40 : decode cX8_save 40 = .ok (.getfield 19, 3) := by decide +kernel
theorem dX8_save_43 : decode cX8_save 43 = .ok (.iload_n 1, 1) := by decide +kernel
theorem dX8_save_44 : decode cX8_save 44 = .ok (.iconst 1, 1) := by decide +kernel
theorem dX8_save_45 : decode cX8_save 45 = .ok (.bastore, 1) := by decide +kernel
theorem dX8_save_46 : decode cX8_save 46 = .ok (.aload_n 0, 1) := by decide +kernel
theorem dX8_save_47 : decode cX8_save 47 = .ok (.invokevirtual 289, 3) := by decide +kernel
theorem dX8_save_50 : decode cX8_save 50 = .ok (.ireturn, 1) := by decide +kernel
theorem dX8_restore_0 : decode cX8_restore 0 = .ok (.aload_n 0, 1) := by decide +kernel
theorem dX8_restore_1 : decode cX8_restore 1 = .ok (.iconst 0, 1) := by decide +kernel
theorem dX8_restore_2 : decode cX8_restore 2 = .ok (.putfield 57, 3) := by decide +kernel
theorem dX8_restore_5 : decode cX8_restore 5 = .ok (.aload_n 0, 1) := by decide +kernel
theorem dX8_restore_6 : decode cX8_restore 6 = .ok (.iload_n 1, 1) := by decide +kernel
theorem dX8_restore_7 : decode cX8_restore 7 = .ok (.iconst 0, 1) := by decide +kernel
theorem dX8_restore_8 : decode cX8_restore 8 = .ok (.iconst 1, 1) := by decide +kernel
theorem dX8_restore_9 : decode cX8_restore 9 = .ok (.invokestatic 71, 3) := by decide +kernel
theorem dX8_restore_12 : decode cX8_restore 12 = .ok (.ifCond .ne 7, 3) := by decide +kernel
theorem dX8_restore_15 : decode cX8_restore 15 = .ok (.iconst 1, 1) := by decide +kernel
theorem dX8_restore_16 : decode cX8_restore 16 = .ok (.goto 4, 3) := by decide +kernel
theorem dX8_restore_19 : decode cX8_restore 19 = .ok (.iconst 0, 1) := by decide +kernel
theorem dX8_restore_20 : decode cX8_restore 20 = .ok (.iconst 1, 1) := by decide +kernel
theorem dX8_restore_21 : decode cX8_restore 21 = .ok (.invokevirtual 64, 3) := by decide +kernel
theorem dX8_restore_24 : decode cX8_restore 24 = .ok (.ifCond .ne 25, 3) := by decide +kernel
theorem dX8_restore_27 : decode cX8_restore 27 = .ok (.aload_n 0, 1) := by decide +kernel
theorem dX8_restore_28 : decode cX8_restore 28 = .ok (.aload_n 0, 1) := by decide +kernel
theorem dX8_restore_29 : decode cX8_restore 29 = .ok (.getfield 19, 3) := by decide +kernel
theorem dX8_restore_32 : decode cX8_restore 32 = .ok (.iload_n 1, 1) := by decide +kernel
theorem dX8_restore_33 : decode cX8_restore 33 = .ok (.baload, 1) := by decide +kernel
theorem dX8_restore_34 : decode cX8_restore 34 = .ok (.ifCond .ne 7, 3) := by decide +kernel
theorem dX8_restore_37 : decode cX8_restore 37 = .ok (.iconst 1, 1) := by decide +kernel
theorem dX8_restore_38 : decode cX8_restore 38 = .ok (.goto 4, 3) := by decide +kernel
theorem dX8_restore_41 : decode cX8_restore 41 = .ok (.iconst 0, 1) := by decide +kernel
theorem dX8_restore_42 : decode cX8_restore 42 = .ok (.iconst 2, 1) := by decide +kernel
theorem dX8_restore_43 : decode cX8_restore 43 = .ok (.invokevirtual 64, 3) := by decide +kernel
theorem dX8_restore_46 : decode cX8_restore 46 = .ok (.ifCond .eq 5, 3) := by decide +kernel
theorem dX8_restore_49 : decode cX8_restore 49 = .ok (.iconst 0, 1) := by decide +kernel
theorem dX8_restore_50 : decode cX8_restore 50 = .ok (.ireturn, 1) := by decide +kernel
theorem dX8_restore_51 : decode cX8_restore 51 = .ok (.aload_n 0, 1) := by decide +kernel
theorem dX8_restore_52 : decode cX8_restore 52 = .ok (.bipush 8, 2) := by decide +kernel
theorem dX8_restore_54 : decode cX8_restore 54 = .ok (.iload_n 1, 1) := by decide +kernel
theorem dX8_restore_55 : decode cX8_restore 55 = .ok (.iadd, 1) := by decide +kernel
theorem dX8_restore_56 : decode cX8_restore 56 = .ok (.invokevirtual 396, 3) := by decide +kernel
theorem dX8_restore_59 : decode cX8_restore 59 = .ok (.aload_n 0, 1) := by decide +kernel
theorem dX8_restore_60 : decode cX8_restore 60 = .ok (.iconst 0, 1) := by decide +kernel
theorem dX8_restore_61 : decode cX8_restore 61 = .ok (.putfield 280, 3) := by decide +kernel
theorem dX8_restore_64 : decode cX8_restore 64 = .ok (.aload_n 0, 1) := by decide +kernel
theorem dX8_restore_65 : decode cX8_restore 65 = .ok (.invokevirtual 289, 3) := by decide +kernel
theorem dX8_restore_68 : decode cX8_restore 68 = .ok (.ireturn, 1) := by decide +kernel
theorem dJ6_bitCount_0f7a4_0 : decode cJ6_bitCount_0f7a4 0 = .ok (.iload_n 0, 1) := by decide +kernel
theorem dJ6_bitCount_0f7a4_1 : decode cJ6_bitCount_0f7a4 1 = .ok (.iload_n 0, 1) := by decide +kernel
theorem dJ6_bitCount_0f7a4_2 : decode cJ6_bitCount_0f7a4 2 = .ok (.iconst 1, 1) := by decide +kernel
theorem dJ6_bitCount_0f7a4_3 : decode cJ6_bitCount_0f7a4 3 = .ok (.iushr, 1) := by decide +kernel
theorem dJ6_bitCount_0f7a4_4 : decode cJ6_bitCount_0f7a4 4 = .ok (.ldc_w 265, 3) := by decide +kernel
theorem dJ6_bitCount_0f7a4_7 : decode cJ6_bitCount_0f7a4 7 = .ok (.iand, 1) := by decide +kernel
theorem dJ6_bitCount_0f7a4_8 : decode cJ6_bitCount_0f7a4 8 = .ok (.isub, 1) := by decide +kernel
theorem dJ6_bitCount_0f7a4_9 : decode cJ6_bitCount_0f7a4 9 = .ok (.istore_n 0, 1) := by decide +kernel
theorem dJ6_bitCount_0f7a4_10 : decode cJ6_bitCount_0f7a4 10 = .ok (.iload_n 0, 1) := by decide +kernel
theorem dJ6_bitCount_0f7a4_11 : decode cJ6_bitCount_0f7a4 11 = .ok (.ldc_w 266, 3) := by decide +kernel
theorem dJ6_bitCount_0f7a4_14 : decode cJ6_bitCount_0f7a4 14 = .ok (.iand, 1) := by decide +kernel
theorem dJ6_bitCount_0f7a4_15 : decode cJ6_bitCount_0f7a4 15 = .ok (.iload_n 0, 1) := by decide +kernel
theorem dJ6_bitCount_0f7a4_16 : decode cJ6_bitCount_0f7a4 16 = .ok (.iconst 2, 1) := by decide +kernel
theorem dJ6_bitCount_0f7a4_17 : decode cJ6_bitCount_0f7a4 17 = .ok (.iushr, 1) := by decide +kernel
theorem dJ6_bitCount_0f7a4_18 : decode cJ6_bitCount_0f7a4 18 = .ok (.ldc_w 266, 3) := by decide +kernel
theorem dJ6_bitCount_0f7a4_21 : decode cJ6_bitCount_0f7a4 21 = .ok (.iand, 1) := by decide +kernel
theorem dJ6_bitCount_0f7a4_22 : decode cJ6_bitCount_0f7a4 22 = .ok (.iadd, 1) := by decide +kernel
theorem dJ6_bitCount_0f7a4_23 : decode cJ6_bitCount_0f7a4 23 = .ok (.istore_n 0, 1) := by decide +kernel
theorem dJ6_bitCount_0f7a4_24 : decode cJ6_bitCount_0f7a4 24 = .ok (.iload_n 0, 1) := by decide +kernel
theorem dJ6_bitCount_0f7a4_25 : decode cJ6_bitCount_0f7a4 25 = .ok (.iload_n 0, 1) := by decide +kernel
theorem dJ6_bitCount_0f7a4_26 : decode cJ6_bitCount_0f7a4 26 = .ok (.iconst 4, 1) := by decide +kernel
theorem dJ6_bitCount_0f7a4_27 : decode cJ6_bitCount_0f7a4 27 = .ok (.iushr, 1) := by decide +kernel
theorem dJ6_bitCount_0f7a4_28 : decode cJ6_bitCount_0f7a4 28 = .ok (.iadd, 1) := by decide +kernel
theorem dJ6_bitCount_0f7a4_29 : decode cJ6_bitCount_0f7a4 29 = .ok (.ldc_w 267, 3) := by decide +kernel
theorem dJ6_bitCount_0f7a4_32 : decode cJ6_bitCount_0f7a4 32 = .ok (.iand, 1) := by decide +kernel
theorem dJ6_bitCount_0f7a4_33 : decode cJ6_bitCount_0f7a4 33 = .ok (.istore_n 0, 1) := by decide +kernel
theorem dJ6_bitCount_0f7a4_34 : decode cJ6_bitCount_0f7a4 34 = .ok (.iload_n 0, 1) := by decide +kernel
theorem dJ6_bitCount_0f7a4_35 : decode cJ6_bitCount_0f7a4 35 = .ok (.iload_n 0, 1) := by decide +kernel
theorem dJ6_bitCount_0f7a4_36 : decode cJ6_bitCount_0f7a4 36 = .ok (.bipush 8, 2) := by decide +kernel
theorem dJ6_bitCount_0f7a4_38 : decode cJ6_bitCount_0f7a4 38 = .ok (.iushr, 1) := by decide +kernel
theorem dJ6_bitCount_0f7a4_39 : decode cJ6_bitCount_0f7a4 39 = .ok (.iadd, 1) := by decide +kernel
theorem dJ6_bitCount_0f7a4_40 : decode cJ6_bitCount_0f7a4 40 = .ok (.istore_n 0, 1) := by decide +kernel
theorem dJ6_bitCount_0f7a4_41 : decode cJ6_bitCount_0f7a4 41 = .ok (.iload_n 0, 1) := by decide +kernel
theorem dJ6_bitCount_0f7a4_42 : decode cJ6_bitCount_0f7a4 42 = .ok (.iload_n 0, 1) := by decide +kernel
theorem dJ6_bitCount_0f7a4_43 : decode cJ6_bitCount_0f7a4 43 = .ok (.bipush 16, 2) := by decide +kernel
theorem dJ6_bitCount_0f7a4_45 : decode cJ6_bitCount_0f7a4 45 = .ok (.iushr, 1) := by decide +kernel
theorem dJ6_bitCount_0f7a4_46 : decode cJ6_bitCount_0f7a4 46 = .ok (.iadd, 1) := by decide +kernel
theorem dJ6_bitCount_0f7a4_47 : decode cJ6_bitCount_0f7a4 47 = .ok (.istore_n 0, 1) := by decide +kernel
theorem dJ6_bitCount_0f7a4_48 : decode cJ6_bitCount_0f7a4 48 = .ok (.iload_n 0, 1) := by decide +kernel
theorem dJ6_bitCount_0f7a4_49 : decode cJ6_bitCount_0f7a4 49 = .ok (.bipush 63, 2) := by decide +kernel
theorem dJ6_bitCount_0f7a4_51 : decode cJ6_bitCount_0f7a4 51 = .ok (.iand, 1) := by decide +kernel
theorem dJ6_bitCount_0f7a4_52 : decode cJ6_bitCount_0f7a4 52 = .ok (.ireturn, 1) := by decide +kernel
theorem dJ9_max_7cf53_0 : decode cJ9_max_7cf53 0 = .ok (.iload_n 0, 1) := by decide +kernel
theorem dJ9_max_7cf53_1 : decode cJ9_max_7cf53 1 = .ok (.iload_n 1, 1) := by decide +kernel
theorem dJ9_max_7cf53_2 : decode cJ9_max_7cf53 2 = .ok (.if_icmp .lt 7, 3) := by decide +kernel
theorem dJ9_max_7cf53_5 : decode cJ9_max_7cf53 5 = .ok (.iload_n 0, 1) := by decide +kernel
theorem dJ9_max_7cf53_6 : decode cJ9_max_7cf53 6 = .ok (.goto 4, 3) := by decide +kernel
theorem dJ9_max_7cf53_9 : decode cJ9_max_7cf53 9 = .ok (.iload_n 1, 1) := by decide +kernel
theorem dJ9_max_7cf53_10 : decode cJ9_max_7cf53 10 = .ok (.ireturn, 1) := by decide +kernel
theorem dJ9_min_7cf53_0 : decode cJ9_min_7cf53 0 = .ok (.iload_n 0, 1) := by decide +kernel
theorem dJ9_min_7cf53_1 : decode cJ9_min_7cf53 1 = .ok (.iload_n 1, 1) := by decide +kernel
theorem dJ9_min_7cf53_2 : decode cJ9_min_7cf53 2 = .ok (.if_icmp .gt 7, 3) := by decide +kernel
theorem dJ9_min_7cf53_5 : decode cJ9_min_7cf53 5 = .ok (.iload_n 0, 1) := by decide +kernel
theorem dJ9_min_7cf53_6 : decode cJ9_min_7cf53 6 = .ok (.goto 4, 3) := by decide +kernel
theorem dJ9_min_7cf53_9 : decode cJ9_min_7cf53 9 = .ok (.iload_n 1, 1) := by decide +kernel
theorem dJ9_min_7cf53_10 : decode cJ9_min_7cf53 10 = .ok (.ireturn, 1) := by decide +kernel
theorem dJ0_length_8abf5_0 : decode cJ0_length_8abf5 0 = .ok (.aload_n 0, 1) := by decide +kernel
theorem dJ0_length_8abf5_1 : decode cJ0_length_8abf5 1 = .ok (.getfield 9, 3) := by decide +kernel
theorem dJ0_length_8abf5_4 : decode cJ0_length_8abf5 4 = .ok (.arraylength, 1) := by decide +kernel
theorem dJ0_length_8abf5_5 : decode cJ0_length_8abf5 5 = .ok (.aload_n 0, 1) := by decide +kernel
theorem dJ0_length_8abf5_6 : decode cJ0_length_8abf5 6 = .ok (.invokevirtual 335, 3) := by decide +kernel
theorem dJ0_length_8abf5_9 : decode cJ0_length_8abf5 9 = .ok (.ishr, 1) := by decide +kernel
theorem dJ0_length_8abf5_10 : decode cJ0_length_8abf5 10 = .ok (.ireturn, 1) := by decide +kernel
theorem dJ0_charAt_5068e_0 : decode cJ0_charAt_5068e 0 = .ok (.aload_n 0, 1) := by decide +kernel
theorem dJ0_charAt_5068e_1 : decode cJ0_charAt_5068e 1 = .ok (.invokevirtual 492, 3) := by decide +kernel
theorem dJ0_charAt_5068e_4 : decode cJ0_charAt_5068e 4 = .ok (.ifCond .eq 12, 3) := by decide +kernel
theorem dJ0_charAt_5068e_7 : decode cJ0_charAt_5068e 7 = .ok (.aload_n 0, 1) := by decide +kernel
theorem dJ0_charAt_5068e_8 : decode cJ0_charAt_5068e 8 = .ok (.getfield 9, 3) := by decide +kernel
theorem dJ0_charAt_5068e_11 : decode cJ0_charAt_5068e 11 = .ok (.iload_n 1, 1) := by decide +kernel
theorem dJ0_charAt_5068e_12 : decode cJ0_charAt_5068e 12 = .ok (.invokestatic 495, 3) := by decide +kernel
theorem dJ0_charAt_5068e_15 : decode cJ0_charAt_5068e 15 = .ok (.ireturn, 1) := by decide +kernel
theorem dJ0_charAt_5068e_16 : decode cJ0_charAt_5068e 16 = .ok (.aload_n 0, 1) := by decide +kernel
theorem dJ0_charAt_5068e_17 : decode cJ0_charAt_5068e 17 = .ok (.getfield 9, 3) := by decide +kernel
theorem dJ0_charAt_5068e_20 : decode cJ0_charAt_5068e 20 = .ok (.iload_n 1, 1) := by decide +kernel
theorem dJ0_charAt_5068e_21 : decode cJ0_charAt_5068e 21 = .ok (.invokestatic 498, 3) := by decide +kernel
theorem dJ0_charAt_5068e_24 : decode cJ0_charAt_5068e 24 = .ok (.ireturn, 1) := by decide +kernel
theorem dJ0_coder_7d493_0 : decode cJ0_coder_7d493 0 = .ok (.getstatic 38, 3) := by decide +kernel
theorem dJ0_coder_7d493_3 : decode cJ0_coder_7d493 3 = .ok (.ifCond .eq 10, 3) := by decide +kernel
theorem dJ0_coder_7d493_6 : decode cJ0_coder_7d493 6 = .ok (.aload_n 0, 1) := by decide +kernel
theorem dJ0_coder_7d493_7 : decode cJ0_coder_7d493 7 = .ok (.getfield 15, 3) := by decide +kernel
theorem dJ0_coder_7d493_10 : decode cJ0_coder_7d493 10 = .ok (.goto 4, 3) := by decide +kernel
theorem dJ0_coder_7d493_13 : decode cJ0_coder_7d493 13 = .ok (.iconst 1, 1) := by decide +kernel
theorem dJ0_coder_7d493_14 : decode cJ0_coder_7d493 14 = .ok (.ireturn, 1) := by decide +kernel
theorem dJ0_isLatin1_aae02_0 : decode cJ0_isLatin1_aae02 0 = .ok (.getstatic 38, 3) := by decide +kernel
theorem dJ0_isLatin1_aae02_3 : decode cJ0_isLatin1_aae02 3 = .ok (.ifCond .eq 14, 3) := by decide +kernel
theorem dJ0_isLatin1_aae02_6 : decode cJ0_isLatin1_aae02 6 = .ok (.aload_n 0, 1) := by decide +kernel
theorem dJ0_isLatin1_aae02_7 : decode cJ0_isLatin1_aae02 7 = .ok (.getfield 15, 3) := by decide +kernel
theorem dJ0_isLatin1_aae02_10 : decode cJ0_isLatin1_aae02 10 = .ok (.ifCond .ne 7, 3) := by decide +kernel
theorem dJ0_isLatin1_aae02_13 : decode cJ0_isLatin1_aae02 13 = .ok (.iconst 1, 1) := by decide +kernel
theorem dJ0_isLatin1_aae02_14 : decode cJ0_isLatin1_aae02 14 = .ok (.goto 4, 3) := by decide +kernel
theorem dJ0_isLatin1_aae02_17 : decode cJ0_isLatin1_aae02 17 = .ok (.iconst 0, 1) := by decide +kernel
theorem dJ0_isLatin1_aae02_18 : decode cJ0_isLatin1_aae02 18 = .ok (.ireturn, 1) := by decide +kernel
theorem dJ0_checkIndex_df160_0 : decode cJ0_checkIndex_df160 0 = .ok (.iload_n 0, 1) := by decide +kernel
theorem dJ0_checkIndex_df160_1 : decode cJ0_checkIndex_df160 1 = .ok (.iload_n 1, 1) := by decide +kernel
theorem dJ0_checkIndex_df160_2 : decode cJ0_checkIndex_df160 2 = .ok (.getstatic 1053, 3) := by decide +kernel
theorem dJ0_checkIndex_df160_5 : decode cJ0_checkIndex_df160 5 = .ok (.invokestatic 1059, 3) := by decide +kernel
theorem dJ0_checkIndex_df160_8 : decode cJ0_checkIndex_df160 8 = .ok (.pop, 1) := by decide +kernel
theorem dJ0_checkIndex_df160_9 : decode cJ0_checkIndex_df160 9 = .ok (.return_, 1) := by decide +kernel
theorem dJ1_charAt_3b067_0 : decode cJ1_charAt_3b067 0 = .ok (.iload_n 1, 1) := by decide +kernel
theorem dJ1_charAt_3b067_1 : decode cJ1_charAt_3b067 1 = .ok (.aload_n 0, 1) := by decide +kernel
theorem dJ1_charAt_3b067_2 : decode cJ1_charAt_3b067 2 = .ok (.arraylength, 1) := by decide +kernel
theorem dJ1_charAt_3b067_3 : decode cJ1_charAt_3b067 3 = .ok (.invokestatic 9, 3) := by decide +kernel
theorem dJ1_charAt_3b067_6 : decode cJ1_charAt_3b067 6 = .ok (.aload_n 0, 1) := by decide +kernel
theorem dJ1_charAt_3b067_7 : decode cJ1_charAt_3b067 7 = .ok (.iload_n 1, 1) := by decide +kernel
theorem dJ1_charAt_3b067_8 : decode cJ1_charAt_3b067 8 = .ok (.baload, 1) := by decide +kernel
theorem dJ1_charAt_3b067_9 : decode cJ1_charAt_3b067 9 = .ok (.sipush 255, 3) := by decide +kernel
theorem dJ1_charAt_3b067_12 : decode cJ1_charAt_3b067 12 = .ok (.iand, 1) := by decide +kernel
theorem dJ1_charAt_3b067_13 : decode cJ1_charAt_3b067 13 = .ok (.i2c, 1) := by decide +kernel
theorem dJ1_charAt_3b067_14 : decode cJ1_charAt_3b067 14 = .ok (.ireturn, 1) := by decide +kernel
theorem dJ2_getChar_3b067_0 : decode cJ2_getChar_3b067 0 = .ok (.getstatic 44, 3) := by decide +kernel
theorem dJ2_getChar_3b067_3 : decode cJ2_getChar_3b067 3 = .ok (.ifCond .ne 25, 3) := by decide +kernel
theorem dJ2_getChar_3b067_6 : decode cJ2_getChar_3b067 6 = .ok (.iload_n 1, 1) := by decide +kernel
theorem dJ2_getChar_3b067_7 : decode cJ2_getChar_3b067 7 = .ok (.ifCond .lt 11, 3) := by decide +kernel
theorem dJ2_getChar_3b067_10 : decode cJ2_getChar_3b067 10 = .ok (.iload_n 1, 1) := by decide +kernel
theorem dJ2_getChar_3b067_11 : decode cJ2_getChar_3b067 11 = .ok (.aload_n 0, 1) := by decide +kernel
theorem dJ2_getChar_3b067_12 : decode cJ2_getChar_3b067 12 = .ok (.invokestatic 48, 3) := by decide +kernel
theorem dJ2_getChar_3b067_15 : decode cJ2_getChar_3b067 15 = .ok (.if_icmp .lt 13, 3) := by decide +kernel
theorem dJ2_getChar_3b067_18 : decode cJ2_getChar_3b067 18 = .ok (.new 52, 3) := by decide +kernel
theorem dJ2_getChar_3b067_21 : decode cJ2_getChar_3b067 21 = .ok (.dup, 1) := by decide +kernel
theorem dJ2_getChar_3b067_22 : decode cJ2_getChar_3b067 22 = .ok (.ldc 54, 2) := by decide +kernel
theorem dJ2_getChar_3b067_24 : decode cJ2_getChar_3b067 24 = .ok (.invokespecial 56, 3) := by decide +kernel
theorem dJ2_getChar_3b067_27 : decode cJ2_getChar_3b067 27 = .ok (.athrow, 1) := by decide +kernel
theorem dJ2_getChar_3b067_28 : decode cJ2_getChar_3b067 28 = .ok (.iload_n 1, 1) := by decide +kernel
theorem dJ2_getChar_3b067_29 : decode cJ2_getChar_3b067 29 = .ok (.iconst 1, 1) := by decide +kernel
theorem dJ2_getChar_3b067_30 : decode cJ2_getChar_3b067 30 = .ok (.ishl, 1) := by decide +kernel
theorem dJ2_getChar_3b067_31 : decode cJ2_getChar_3b067 31 = .ok (.istore_n 1, 1) := by decide +kernel
theorem dJ2_getChar_3b067_32 : decode cJ2_getChar_3b067 32 = .ok (.aload_n 0, 1) := by decide +kernel
theorem dJ2_getChar_3b067_33 : decode cJ2_getChar_3b067 33 = .ok (.iload_n 1, 1) := by decide +kernel
theorem dJ2_getChar_3b067_34 : decode cJ2_getChar_3b067 34 = .ok (.iinc 1 1, 3) := by decide +kernel
theorem dJ2_getChar_3b067_37 : decode cJ2_getChar_3b067 37 = .ok (.baload, 1) := by decide +kernel
theorem dJ2_getChar_3b067_38 : decode cJ2_getChar_3b067 38 = .ok (.sipush 255, 3) := by decide +kernel
theorem dJ2_getChar_3b067_41 : decode cJ2_getChar_3b067 41 = .ok (.iand, 1) := by decide +kernel
theorem dJ2_getChar_3b067_42 : decode cJ2_getChar_3b067 42 = .ok (.getstatic 59, 3) := by decide +kernel
theorem dJ2_getChar_3b067_45 : decode cJ2_getChar_3b067 45 = .ok (.ishl, 1) := by decide +kernel
theorem dJ2_getChar_3b067_46 : decode cJ2_getChar_3b067 46 = .ok (.aload_n 0, 1) := by decide +kernel
theorem dJ2_getChar_3b067_47 : decode cJ2_getChar_3b067 47 = .ok (.iload_n 1, 1) := by decide +kernel
theorem dJ2_getChar_3b067_48 : decode cJ2_getChar_3b067 48 = .ok (.baload, 1) := by decide +kernel
theorem dJ2_getChar_3b067_49 : decode cJ2_getChar_3b067 49 = .ok (.sipush 255, 3) := by decide +kernel
theorem dJ2_getChar_3b067_52 : decode cJ2_getChar_3b067 52 = .ok (.iand, 1) := by decide +kernel
theorem dJ2_getChar_3b067_53 : decode cJ2_getChar_3b067 53 = .ok (.getstatic 63, 3) := by decide +kernel
theorem dJ2_getChar_3b067_56 : decode cJ2_getChar_3b067 56 = .ok (.ishl, 1) := by decide +kernel
theorem dJ2_getChar_3b067_57 : decode cJ2_getChar_3b067 57 = .ok (.ior, 1) := by decide +kernel
theorem dJ2_getChar_3b067_58 : decode cJ2_getChar_3b067 58 = .ok (.i2c, 1) := by decide +kernel
theorem dJ2_getChar_3b067_59 : decode cJ2_getChar_3b067 59 = .ok (.ireturn, 1) := by decide +kernel
theorem dJ2_length_9d52b_0 : decode cJ2_length_9d52b 0 = .ok (.aload_n 0, 1) := by decide +kernel
theorem dJ2_length_9d52b_1 : decode cJ2_length_9d52b 1 = .ok (.arraylength, 1) := by decide +kernel
theorem dJ2_length_9d52b_2 : decode cJ2_length_9d52b 2 = .ok (.iconst 1, 1) := by decide +kernel
theorem dJ2_length_9d52b_3 : decode cJ2_length_9d52b 3 = .ok (.ishr, 1) := by decide +kernel
theorem dJ2_length_9d52b_4 : decode cJ2_length_9d52b 4 = .ok (.ireturn, 1) := by decide +kernel
theorem dJ2_charAt_3b067_0 : decode cJ2_charAt_3b067 0 = .ok (.iload_n 1, 1) := by decide +kernel
theorem dJ2_charAt_3b067_1 : decode cJ2_charAt_3b067 1 = .ok (.aload_n 0, 1) := by decide +kernel
theorem dJ2_charAt_3b067_2 : decode cJ2_charAt_3b067 2 = .ok (.invokestatic 67, 3) := by decide +kernel
theorem dJ2_charAt_3b067_5 : decode cJ2_charAt_3b067 5 = .ok (.aload_n 0, 1) := by decide +kernel
theorem dJ2_charAt_3b067_6 : decode cJ2_charAt_3b067 6 = .ok (.iload_n 1, 1) := by decide +kernel
theorem dJ2_charAt_3b067_7 : decode cJ2_charAt_3b067 7 = .ok (.invokestatic 71, 3) := by decide +kernel
theorem dJ2_charAt_3b067_10 : decode cJ2_charAt_3b067 10 = .ok (.ireturn, 1) := by decide +kernel
theorem dJ2_checkIndex_2214a_0 : decode cJ2_checkIndex_2214a 0 = .ok (.iload_n 0, 1) := by decide +kernel
theorem dJ2_checkIndex_2214a_1 : decode cJ2_checkIndex_2214a 1 = .ok (.aload_n 1, 1) := by decide +kernel
theorem dJ2_checkIndex_2214a_2 : decode cJ2_checkIndex_2214a 2 = .ok (.invokestatic 48, 3) := by decide +kernel
theorem dJ2_checkIndex_2214a_5 : decode cJ2_checkIndex_2214a 5 = .ok (.invokestatic 414, 3) := by decide +kernel
theorem dJ2_checkIndex_2214a_8 : decode cJ2_checkIndex_2214a 8 = .ok (.return_, 1) := by decide +kernel
theorem dJ3_checkIndex_8e157_0 : decode cJ3_checkIndex_8e157 0 = .ok (.iload_n 0, 1) := by decide +kernel
theorem dJ3_checkIndex_8e157_1 : decode cJ3_checkIndex_8e157 1 = .ok (.ifCond .lt 8, 3) := by decide +kernel
theorem dJ3_checkIndex_8e157_4 : decode cJ3_checkIndex_8e157 4 = .ok (.iload_n 0, 1) := by decide +kernel
theorem dJ3_checkIndex_8e157_5 : decode cJ3_checkIndex_8e157 5 = .ok (.iload_n 1, 1) := by decide +kernel
theorem dJ3_checkIndex_8e157_6 : decode cJ3_checkIndex_8e157 6 = .ok (.if_icmp .lt 10, 3) := by decide +kernel
theorem dJ3_checkIndex_8e157_9 : decode cJ3_checkIndex_8e157 9 = .ok (.aload_n 2, 1) := by decide +kernel
theorem dJ3_checkIndex_8e157_10 : decode cJ3_checkIndex_8e157 10 = .ok (.iload_n 0, 1) := by decide +kernel
theorem dJ3_checkIndex_8e157_11 : decode cJ3_checkIndex_8e157 11 = .ok (.iload_n 1, 1) := by decide +kernel
theorem dJ3_checkIndex_8e157_12 : decode cJ3_checkIndex_8e157 12 = .ok (.invokestatic 95, 3) := by decide +kernel
theorem dJ3_checkIndex_8e157_15 : decode cJ3_checkIndex_8e157 15 = .ok (.athrow, 1) := by decide +kernel
theorem dJ3_checkIndex_8e157_16 : decode cJ3_checkIndex_8e157 16 = .ok (.iload_n 0, 1) := by decide +kernel
theorem dJ3_checkIndex_8e157_17 : decode cJ3_checkIndex_8e157 17 = .ok (.ireturn, 1) := by decide +kernel
abbrev vwCl : List vw_C := [(RX0, TX0, 1), (RX1, TX1, 2), (RX2, TX2, 4), (RX3, TX3, 13), (RX4, TX4, 8), (RX5, TX5, 1), (RX6, TX6, 9), (RX7, TX7, 14), (RX8, TX8, 36)]

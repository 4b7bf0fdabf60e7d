/-! The world of all objects of the class and of the reference: object o's address is ad o, its number k (a field, an element) is M o k. -/
def zI (z : Int) : Int32 := Int32.ofInt z
def zR (z : Int) : Prop := -2147483648 ≤ z ∧ z < 2147483648
theorem zI_toInt {z : Int} (h : zR z) : (zI z).toInt = z := by
  unfold zI zR at *
  rw [Int32.toInt_ofInt]
  exact Int.bmod_eq_of_le (by have := h.1; simp [Int32.size]; omega) (by have := h.2; simp [Int32.size]; omega)
theorem zI_of (x : Int32) : zI x.toInt = x := Int32.ofInt_toInt x
theorem zR_of (x : Int32) : zR x.toInt := ⟨Int32.le_toInt x, Int32.toInt_lt x⟩
theorem zI_add (a b : Int) : zI a + zI b = zI (a + b) := (Int32.ofInt_add a b).symm
theorem zI_sub (a b : Int) : zI a - zI b = zI (a - b) := (Int32.ofInt_sub a b).symm
theorem zI_mul (a b : Int) : zI a * zI b = zI (a * b) := (Int32.ofInt_mul a b).symm
theorem zI_neg (a : Int) : - zI a = zI (-a) := (Int32.ofInt_neg a).symm
theorem zI_lt {a b : Int} (ha : zR a) (hb : zR b) : zI a < zI b ↔ a < b := by rw [Int32.lt_iff_toInt_lt, zI_toInt ha, zI_toInt hb]
theorem zI_le {a b : Int} (ha : zR a) (hb : zR b) : zI a ≤ zI b ↔ a ≤ b := by rw [Int32.le_iff_toInt_le, zI_toInt ha, zI_toInt hb]
theorem zI_eq {a b : Int} (ha : zR a) (hb : zR b) : zI a = zI b ↔ a = b := ⟨fun h => by rw [← zI_toInt ha, ← zI_toInt hb, h], fun h => by rw [h]⟩
theorem zR0 : zR 0 := by unfold zR; omega
theorem zI0 : zI 0 = 0 := rfl
theorem zI_clamp {z : Int} (h : 0 ≤ z) (h2 : z < 2147483648) : (zI z).toNatClampNeg = z.toNat := by
  show (zI z).toInt.toNat = z.toNat
  rw [zI_toInt ⟨by omega, h2⟩]
theorem zI_in {z : Int} {n : Nat} (h : 0 ≤ z) (h2 : z < n) (hn : n < 2147483648) : vp_in (zI z) n := by
  rw [vp_in_iff, zI_toInt ⟨by omega, by omega⟩]
  exact ⟨h, h2⟩
abbrev qM : Type := Nat → Int → Int
abbrev qK : Type := (Nat × List (Option Nat)) ⊕ (Nat × Bool)
def qup (M : qM) (o : Nat) (k z : Int) : qM := fun o' k' => if o' = o ∧ k' = k then z else M o' k'
theorem qup_s (M : qM) (o : Nat) (k z : Int) : qup M o k z o k = z := by simp [qup]
theorem qup_k (M : qM) (o : Nat) {k k' : Int} (z : Int) (h : k' ≠ k) : qup M o k z o k' = M o k' := by simp [qup, h]
theorem qup_o (M : qM) {o o' : Nat} (k k' z : Int) (h : o' ≠ o) : qup M o k z o' k' = M o' k' := by simp [qup, h]
def qFs (ad : Nat → Nat) (g : Int → Int) (fs : List (Option Nat)) : List Value := fs.mapIdx (fun j f => f.elim (.int (zI (g j))) (fun r => .ref (ad r)))
def qCell (cyI cyZ : ClassId) (ad : Nat → Nat) (g : Int → Int) (k : qK) : va_E := Sum.elim (fun q => .inr (q.1, qFs ad g q.2)) (fun q => .inl (if q.2 then cyZ else cyI, q.1, .inl (fun j => zI (g j)))) k
def qLay : List qK := [.inl (7, [some 1, some 3, some 5, some 18, some 25, some 28, some 31, some 33, some 35, none, none, none, none, none]),
  .inl (1, [some 2, none]),
  .inr (700, false),
  .inl (0, [some 4]),
  .inr (8448, false),
  .inl (6, [some 3, some 6, some 7, some 8, some 9, some 10, some 11, none, none]),
  .inl (5, [some 12]),
  .inl (5, [some 13]),
  .inl (5, [some 14]),
  .inl (5, [some 15]),
  .inl (5, [some 16]),
  .inl (5, [some 17]),
  .inr (341, false),
  .inr (341, false),
  .inr (341, false),
  .inr (341, false),
  .inr (341, false),
  .inr (341, false),
  .inl (4, [some 3, some 19, some 20, some 21, none, none, none, none]),
  .inl (5, [some 22]),
  .inl (5, [some 23]),
  .inl (5, [some 24]),
  .inr (5, false),
  .inr (5, false),
  .inr (5, false),
  .inl (3, [some 1, some 3, some 18, some 26, none, none, none, none, none, none, none, none, none]),
  .inl (5, [some 27]),
  .inr (6, false),
  .inl (2, [some 3, some 29, none, none]),
  .inl (5, [some 30]),
  .inr (8, false),
  .inl (1, [some 32, none]),
  .inr (1023, false),
  .inl (5, [some 34]),
  .inr (6, false),
  .inl (5, [some 36]),
  .inr (2, false),
  .inl (8, [none, none, none, none, some 38, some 39, some 40, none, some 41, none, some 42, some 43, none, some 44, some 45, some 46, some 47, none, none, none, some 48, none, none, none, none, none, none, none, none, none, none, none, some 49, some 50, some 51, none]),
  .inr (36, false),
  .inr (1536, false),
  .inr (15360, false),
  .inr (2, true),
  .inr (256, false),
  .inr (400, false),
  .inr (341, false),
  .inr (341, false),
  .inr (341, false),
  .inr (700, false),
  .inr (700, false),
  .inr (36, false),
  .inr (1536, false),
  .inr (1400, false)]
def qWd (cyI cyZ : ClassId) (ad : Nat → Nat) (M : qM) : va_W := qLay.mapIdx (fun o k => (ad o, qCell cyI cyZ ad (M o) k))
theorem qWd_get {cyI cyZ : ClassId} {ad : Nat → Nat} {M : qM} {o : Nat} {k : qK} (h : qLay[o]? = some k) : (qWd cyI cyZ ad M)[o]? = some (ad o, qCell cyI cyZ ad (M o) k) := by simp [qWd, h]
theorem qWd_inv {cyI cyZ : ClassId} {ad : Nat → Nat} {M : qM} {o : Nat} {q : Nat × va_E} (h : (qWd cyI cyZ ad M)[o]? = some q) : ∃ k, qLay[o]? = some k ∧ q = (ad o, qCell cyI cyZ ad (M o) k) := by
  simp only [qWd, List.getElem?_mapIdx, Option.map_eq_some_iff] at h
  obtain ⟨k, h1, h2⟩ := h
  exact ⟨k, h1, h2.symm⟩
theorem qFs_get {ad : Nat → Nat} {g : Int → Int} {fs : List (Option Nat)} {k : Nat} {f : Option Nat} (h : fs[k]? = some f) : (qFs ad g fs)[k]? = some (f.elim (.int (zI (g k))) (fun r => .ref (ad r))) := by simp [qFs, h]
theorem qFs_len {ad : Nat → Nat} {g : Int → Int} {fs : List (Option Nat)} : (qFs ad g fs).length = fs.length := by simp [qFs]
theorem qFs_set {ad : Nat → Nat} {g : Int → Int} {fs : List (Option Nat)} {k : Nat} {z : Int} (h : fs[k]? = some none) : (qFs ad g fs).set k (.int (zI z)) = qFs ad (fun j => if j = (k : Int) then z else g j) fs := by
  apply List.ext_getElem?
  intro i
  have hk : k < fs.length := (List.getElem?_eq_some_iff.mp h).1
  by_cases e : k = i
  · subst e
    rw [List.getElem?_set_self (by rw [qFs_len]; exact hk), qFs_get h]
    simp
  · rw [List.getElem?_set_ne e]
    simp only [qFs, List.getElem?_mapIdx]
    have : ¬ ((i : Int) = (k : Int)) := by omega
    cases fs[i]? with
    | none => rfl
    | some f => simp [this]
theorem qWd_ne {cyI cyZ : ClassId} {ad : Nat → Nat} {M : qM} {o : Nat} {e : va_E} {M' : qM} {k : qK} (hl : qLay[o]? = some k) (he : e = qCell cyI cyZ ad (M' o) k) (hM : ∀ o', o' ≠ o → M' o' = M o') : (qWd cyI cyZ ad M).set o (ad o, e) = qWd cyI cyZ ad M' := by
  apply List.ext_getElem?
  intro i
  by_cases h : o = i
  · subst h
    rw [List.getElem?_set_self (by simp only [qWd, List.length_mapIdx]; exact (List.getElem?_eq_some_iff.mp hl).1), qWd_get hl, he]
  · rw [List.getElem?_set_ne h]
    simp only [qWd, List.getElem?_mapIdx]
    cases qLay[i]? with
    | none => rfl
    | some q => simp only [Option.map_some]; rw [hM i (fun e => h e.symm)]
theorem qup_other (M : qM) (o : Nat) (k z : Int) : ∀ o', o' ≠ o → qup M o k z o' = M o' := fun o' h => by funext k'; simp [qup, h]
theorem qWd_fld {cyI cyZ : ClassId} {ad : Nat → Nat} {M : qM} {o ci k : Nat} {fs : List (Option Nat)} {z : Int} (hl : qLay[o]? = some (.inl (ci, fs))) (hk : fs[k]? = some none) : (qWd cyI cyZ ad M).set o (ad o, .inr (ci, (qFs ad (M o) fs).set k (.int (zI z)))) = qWd cyI cyZ ad (qup M o k z) := by
  refine qWd_ne hl ?_ (qup_other M o k z)
  rw [qFs_set hk]
  show _ = Sum.inr (ci, qFs ad (qup M o k z o) fs)
  congr 2
  congr 1
  funext j
  simp [qup]
theorem qWd_arr {cyI cyZ : ClassId} {ad : Nat → Nat} {M : qM} {o n : Nat} {b : Bool} {i z : Int} (hl : qLay[o]? = some (.inr (n, b))) (h0 : 0 ≤ i) (h1 : i < 2147483648) : (qWd cyI cyZ ad M).set o (ad o, .inl (if b then cyZ else cyI, n, .inl (upd (fun j => zI (M o j)) (zI i).toNatClampNeg (zI z)))) = qWd cyI cyZ ad (qup M o i z) := by
  refine qWd_ne hl ?_ (qup_other M o i z)
  show _ = Sum.inl (if b then cyZ else cyI, n, Sum.inl (fun j : Nat => zI (qup M o i z o j)))
  congr 4
  funext j
  rw [zI_clamp h0 h1]
  by_cases e : j = i.toNat
  · have e2 : (j : Int) = i := by omega
    simp [upd, qup, e, Int.toNat_of_nonneg h0]
  · have e2 : ¬ (j : Int) = i := by omega
    simp [upd, qup, e, e2]
def qN : Nat := 52
theorem qLay_len : qLay.length = qN := by decide
def qTr (ad : Nat → Nat) : Value → Value := fun v => match v with
  | .ref o => .ref (ad o)
  | .int x => .int x
  | .long x => .long x
  | .float x => .float x
  | .double x => .double x
  | .null => .null
  | .retAddr x => .retAddr x
theorem qTr_cat (ad : Nat → Nat) (v : Value) : (qTr ad v).category = v.category := by cases v <;> rfl
theorem qTr_cats (ad : Nat → Nat) (st : List Value) : ((st.map (qTr ad)).map fun v => v.category).sum = (st.map fun v => v.category).sum := by
  rw [List.map_map]; congr 1; apply List.map_congr_left; intro v _; exact qTr_cat ad v
def qAs (ad : Nat → Nat) : Nat → List (Option Value) → List (Nat × Value)
  | _, [] => []
  | i, none :: t => qAs ad (i + 1) t
  | i, some v :: t => (i, qTr ad v) :: qAs ad (i + 1) t
theorem qAs_mem {ad : Nat → Nat} {q : Nat × Value} : ∀ {L : List (Option Value)} {i : Nat}, q ∈ qAs ad i L ↔ ∃ j w, L[j]? = some (some w) ∧ q = (i + j, qTr ad w) := by
  intro L
  induction L with
  | nil => intro i; simp [qAs]
  | cons x t ih =>
    intro i
    cases x with
    | none =>
      rw [qAs, ih]
      constructor
      · rintro ⟨j, w, h1, h2⟩
        exact ⟨j + 1, w, by simpa using h1, by rw [h2]; congr 1; omega⟩
      · rintro ⟨j, w, h1, h2⟩
        cases j with
        | zero => simp at h1
        | succ j => exact ⟨j, w, by simpa using h1, by rw [h2]; congr 1; omega⟩
    | some v =>
      rw [qAs, List.mem_cons, ih]
      constructor
      · rintro (h | ⟨j, w, h1, h2⟩)
        · exact ⟨0, v, by simp, by rw [h]; rfl⟩
        · exact ⟨j + 1, w, by simpa using h1, by rw [h2]; congr 1; omega⟩
      · rintro ⟨j, w, h1, h2⟩
        cases j with
        | zero =>
          simp at h1
          subst h1
          exact Or.inl h2
        | succ j => exact Or.inr ⟨j, w, by simpa using h1, by rw [h2]; congr 1; omega⟩
abbrev qLs (ad : Nat → Nat) (ls : Array Slot) (n : Nat) (L : List (Option Value)) : Prop := lv_has ls n (qAs ad 0 L)
theorem qLs_at {ad : Nat → Nat} {ls : Array Slot} {n : Nat} {L : List (Option Value)} (h : qLs ad ls n L) {i : Nat} {v : Value} (hi : L[i]? = some (some v)) : ls[i]? = some (.val (qTr ad v)) := by
  have := h.2.2 (i, qTr ad v) (qAs_mem.mpr ⟨i, v, hi, by simp⟩)
  exact this
def qOk1 (L : List (Option Value)) (i : Nat) : Bool := match i with
  | 0 => true
  | j + 1 => (L.getD j none).elim true (fun v => v.category == 1)
theorem qLs_set {ad : Nat → Nat} {ls : Array Slot} {n i : Nat} {L : List (Option Value)} {v : Value} (ho : qOk1 L i = true) (h : lv_has ls n ((i, qTr ad v) :: (qAs ad 0 L).filter (fun q => !(q.1 == i) && !(q.1 + 1 == i && q.2.category == 2)))) : qLs ad ls n (L.set i (some v)) := by
  refine ⟨h.1, h.2.1, fun q hq => ?_⟩
  obtain ⟨j, w, h1, rfl⟩ := qAs_mem.mp hq
  by_cases e : i = j
  · subst e
    have hlt : i < L.length := by
      have := (List.getElem?_eq_some_iff.mp h1).1
      simpa using this
    rw [List.getElem?_set_self hlt] at h1
    have e2 : v = w := by simpa using h1
    subst e2
    have := h.2.2 (i, qTr ad v) List.mem_cons_self
    simpa using this
  · rw [List.getElem?_set_ne e] at h1
    refine h.2.2 _ (List.mem_cons_of_mem _ (List.mem_filter.mpr ⟨qAs_mem.mpr ⟨j, w, h1, rfl⟩, ?_⟩))
    have e2 : ¬ j = i := fun q => e q.symm
    by_cases e3 : j + 1 = i
    · subst e3
      have hc : w.category = 1 := by
        simp only [qOk1, List.getD_eq_getElem?_getD, h1] at ho
        simpa using ho
      simp [qTr_cat, hc]
    · simp [e2, e3]
theorem qLs_weak {ad : Nat → Nat} {ls : Array Slot} {n : Nat} {L L' : List (Option Value)} (h : qLs ad ls n L) (hw : ∀ (i : Nat) (v : Value), L'[i]? = some (some v) → L[i]? = some (some v)) : qLs ad ls n L' := by
  refine ⟨h.1, h.2.1, fun q hq => ?_⟩
  obtain ⟨j, w, h1, rfl⟩ := qAs_mem.mp hq
  exact h.2.2 _ (qAs_mem.mpr ⟨j, w, hw _ _ h1, rfl⟩)
/-- the texts of exceptions: own class, place in its pool, text -/
def qXs : List (Nat × Nat × String) := [(7, 328, "the buffer has not so many bytes"), (7, 103, "the text has an error"), (7, 326, "no text was loaded"), (7, 170, "no such count"), (7, 330, "no such map"), (7, 332, "no such position"), (7, 334, "the range ends before it begins"), (7, 344, "a bit is 0 or 1"), (7, 194, "k is negative"), (7, 340, "no such byte"), (7, 211, "no such part"), (7, 336, "no such level"), (7, 338, "no such block"), (7, 241, "no such property"), (7, 249, "no such code of a block that is left out"), (7, 346, "no such combination"), (7, 289, "the range has too many bits"), (7, 295, "no such byte of the text"), (7, 310, "the bytes are not the tree of a map"), (7, 315, "no change can be undone"), (7, 342, "no such slot"), (7, 324, "nothing is saved there")]
/-- the words of the grammar, each an object 100 + i -/
def qWs : List (Nat × Nat × String × Nat) := [(3, 64, "level", 100), (3, 84, "map", 101), (3, 92, "fill", 102), (3, 97, "clear", 103), (3, 99, "flip", 104), (3, 101, "or", 105), (3, 106, "tree", 106), (8, 273, "level", 100), (8, 246, "map", 101), (8, 255, "fill", 102), (8, 260, "clear", 103), (8, 262, "flip", 104), (8, 264, "or", 105), (8, 269, "tree", 106)]
def qWl : List Nat := [5, 3, 4, 5, 4, 2, 4]
def qWb : List (List Int32) := [[108, 101, 118, 101, 108], [109, 97, 112], [102, 105, 108, 108], [99, 108, 101, 97, 114], [102, 108, 105, 112], [111, 114], [116, 114, 101, 101]]
def qNests : List (Nat × Nat × MethodName) := [(3, 128, yX7_cellsIn), (4, 69, yX7_codeIn), (4, 76, yX7_cellsIn), (6, 46, yX7_cellsIn), (6, 63, yX7_blocksAt), (7, 16, yX0_init)]
def qCs : List String := ["java/lang/IllegalStateException", "java/lang/IllegalArgumentException", "java/lang/IndexOutOfBoundsException"]
def qDs : List String := ["java/lang/RuntimeException", "java/lang/Exception", "java/lang/Throwable"]
def qEnv (ad : Nat → Nat) (A : Nat → Prop) (U : State) (H : Heap) : Prop :=
  vx_Zq Bundle.tN "UNASSIGNED_STACK" Bundle.steD A U H ∧ vx_Zq Bundle.tN "SUPPRESSED_SENTINEL" Bundle.listD A U H ∧ (∀ q ∈ qXs, ∃ sa, vk_R (qNm q.1) q.2.1 q.2.2 sa U) ∧
  (∀ q ∈ qWs, vk_R (qNm q.1) q.2.1 q.2.2.1 (ad q.2.2.2) U) ∧ vk_S 7 qWl qWb (fun i => ad (100 + i)) (fun i => ad (110 + i)) A U H ∧
  va_Z "java/lang/String" "COMPACT_STRINGS" "Z" (.int 1) A U H ∧ (va_Z "jdk/internal/util/Preconditions" "SIOOBE_FORMATTER" "Ljava/util/function/BiFunction;" .null A U H ∨ va_Z "jdk/internal/util/Preconditions" "SIOOBE_FORMATTER" "Ljava/util/function/BiFunction;" (.ref (ad 120)) A U H) ∧ (∀ q ∈ qNests, va_Nw (.methodLinkNest (qNm q.1) q.2.1 q.2.2 (qNm 7)) U) ∧ (∀ q ∈ qCs, va_Nw (.castable q q) U) ∧ ∀ q ∈ qDs, va_Nw (.declares ⟨q, "<init>", "(Ljava/lang/String;)V"⟩) U
theorem qEnv.to {ad : Nat → Nat} {A B : Nat → Prop} {u U : State} {H H1 : Heap} (h : qEnv ad A u H) (hW : u.WarmedH U.vm) (hq : ∀ a : Nat, a < H.size → ¬ A a → H1[a]? = H[a]?) (hAB : ∀ q, B q → A q) : qEnv ad B U H1 := by
  have hvm : u.vm.Alike U.vm := hW.alike
  obtain ⟨h1, h2, h3, h4, h5, h6, h7, h8, h9, h10⟩ := h
  exact ⟨((h1.kept hq).narrow hAB).moved hvm, ((h2.kept hq).narrow hAB).moved hvm, fun q hq => (h3 q hq).elim fun sa hs => ⟨sa, hs.warm hW⟩, fun q hq => (h4 q hq).warm hW,
    ((h5.kept hq).narrow hAB).moved hvm, ((h6.kept hq).narrow hAB).moved hvm, h7.elim (fun h => Or.inl (((h.kept hq).narrow hAB).moved hvm)) (fun h => Or.inr (((h.kept hq).narrow hAB).moved hvm)), fun q hq => (h8 q hq).warmM hW, fun q hq => (h9 q hq).warmC hW, fun q hq => (h10 q hq).warmD hW⟩
def qA (ad : Nat → Nat) (sz : Nat) : Nat → Prop := fun q => (∃ k, k < qN ∧ q = ad k) ∨ sz ≤ q
def qInj (ad : Nat → Nat) : Prop := ∀ i j, i < qN → j < qN → ad i = ad j → i = j
abbrev qX : Type := Program × Launch × Env × State × MethodId × Array Value × List Frame × Method × Code × (Nat → ClassId) × (Nat → Nat → Nat) × ClassId × ClassId × (Nat → Nat)
abbrev qJ : Type := Nat × ByteArray × Nat × Option FieldType × Nat × Nat
abbrev qP : Type := (Option Value → qM → Prop) × (String → qM → Prop)
def qRm (u d : Nat) : Room := { frames := d + 6, cells := u, slots := 6 * u, locals := 100 + 40 * d }
section
variable {p : Program} {l : Launch} {e : Env} {R : Room} {s : State} {m : MethodId} {args : Array Value} {below : List Frame} {meth : Method} {c : Code} {H : Heap} {locs : List Loc} {cells slots : Nat}
variable {T : State}
theorem vx_callSN (X : Stand p l e R s m args below meth c T locs cells slots) (hexec : p.tables.exec = Jvm.exec) {own : String} {index : Nat} {host : String} {y : MethodName} {bytes : ByteArray} {maxL : Nat} {ret : Option FieldType}
    (hown : s.vm.findClass own = some m.cls) (hlink : (Cond.methodLinkNest own index y host).before args s = true) (hstat : (Cond.static y).before args s = true) (hinit : (Cond.initialized y.cls).before args s = true)
    (hcode : (Cond.code y bytes maxL ret).before args s = true) (hy : y.cls ≠ "java/lang/invoke/MethodHandle" ∧ y.cls ≠ "java/lang/invoke/VarHandle")
    {W : Nat} {Pre : Pt → Array Value → Prop} {Post : Pt → Array Value → Option Value → Pt → Prop} {PostX : Pt → Array Value → Addr → Pt → Prop} (hK : vx_Back l R p e below s args y 3 W Pre Post PostX)
    {g : JFrame} (hg : g.method = m) (hsize : g.locals.size = c.maxLocals) {argsL rest : List Value} (hlen : ∀ sig, parseMethodDescriptor y.desc = some sig → argsL.length = sig.parameters.length)
    (hstack : g.stack = argsL.reverse ++ rest) (hW : 2 * g.monitorRoom + (rest.map fun v => v.category).sum ≤ W) (hdg : decode c.code g.pc = .ok (.invokestatic index, 3))
    (hpre : ∀ vm₁, s.WarmedH vm₁ → Pre ⟨T.setVm vm₁, locs, cells, slots⟩ argsL.toArray) :
    (∃ (v : Option Value) (vm₁ : Vm) (B : Pt), s.WarmedH vm₁ ∧ Stand p l e R s m args below meth c B.U B.locs B.cells B.slots ∧ Post ⟨T.setVm vm₁, locs, cells, slots⟩ argsL.toArray v B ∧
      ∀ target, Steps p.tables e below (B.U.setTop { g with pc := g.pc + 3, stack := v.toList ++ rest }) target → Steps p.tables e below (T.setTop g) target) ∨
    (∃ (q : Addr) (vm₁ : Vm) (B : Pt), s.WarmedH vm₁ ∧ Stand p l e R s m args below meth c B.U B.locs B.cells B.slots ∧ PostX ⟨T.setVm vm₁, locs, cells, slots⟩ argsL.toArray q B ∧
      Steps p.tables e below (T.setTop g) ((B.U.setTop { g with stack := rest }).pushFrame (.throwing q))) := by
  obtain ⟨mk, hnamed⟩ := Cond.code_named hcode
  obtain ⟨methM, cM, hmethM, -, -, -, -, -, -, hsigM⟩ := Cond.code_spec hnamed hcode
  have hstatic : methM.isStatic = true := Cond.static_spec hnamed hmethM hstat
  obtain ⟨kP, hkP, -⟩ := className_of_methodNamed hnamed
  have hinitP : kP.init = .initialized := Cond.initialized_spec (findClass_of_methodNamed hnamed) hkP hinit
  obtain ⟨vm₁, X₁, hstep₁⟩ := X.invokestaticNest hexec hown hlink hnamed hmethM hstatic hkP hinitP hy (g := g) hg (argsL := argsL) (rest := rest) (hlen _ hsigM) hstack hdg
  rcases hK m meth c ⟨T.setVm vm₁, locs, cells, slots⟩ { g with stack := rest } (.invokestatic index) mk argsL.toArray X₁ hg hsize hdg hW (X₁.named hnamed) (hpre vm₁ X₁.warmed) with ⟨v, B, X', hpost, hsteps⟩ | ⟨q, B, X', hpost, hsteps⟩
  · exact Or.inl ⟨v, vm₁, B, X₁.warmed, X', hpost, fun target h => hstep₁ _ fun acts => by rw [doInvoke_state]; exact hsteps.trans h⟩
  · exact Or.inr ⟨q, vm₁, B, X₁.warmed, X', hpost, hstep₁ _ fun acts => by rw [doInvoke_state]; exact hsteps⟩
theorem vx_runSN {y : MethodName} {bytes cc : ByteArray} {maxL nL mc ms n index : Nat} {ret : Option FieldType} {ws : List Cond} {rm : Room} {Pc : Array Value → State → Prop} {Qc : Array Value → State → Outcome → State → Prop} {XC : String → State → State → Prop} {free : Addr → Prop} {Ts : List Cond} {own host : String} {As rest : List Value} {g : JFrame}
    (S : CallFix p m c cc nL s args Ts own) (hM : vx_Met l y ws rm Pc Qc XC mc ms free) (cw : va_CN R s args own index y host bytes maxL ret ws rm mc ms n ∧ (Cond.static y).before args s = true ∧ True) (hp : PreS s H Pc As)
    (hg : g.method = m) (hn : As.length = n) (hsize : g.locals.size = nL) (hstack : g.stack = As.reverse ++ rest) (hW : 2 * g.monitorRoom + (rest.map fun v => v.category).sum ≤ 8) (hdg : decode cc g.pc = .ok (.invokestatic index, 3)) (hf : cells + mc ≤ R.cells ∧ slots + ms ≤ R.slots) :
    vx_Run p l e R s m args below meth c H locs cells slots mc ms g rest (Qc As.toArray) XC free := by
  obtain ⟨⟨⟨hrc, hrs, hfr, hlo, hws, hcw⟩, hcode, hini, hy, hlen, hl⟩, hx1, hx2⟩ := cw
  have hK : vx_Back l R p e below s args y 3 8 (PreOf R mc ms Pc) (PostOf Qc mc ms free) (vx_Post XC mc ms free) := vx_back (bytes := bytes) (maxL := maxL) (ret := ret) hM hp.1 hrc hrs hfr hlo hws hcw (fun a' U hW => word_at hW (Or.inl (by first | rfl | simp [Cond.onTables, Cond.keeps, Cond.steady])) hini)
  obtain ⟨hx, hb, hml, ho, -⟩ := S
  have hPc := hp.2
  intro T hT X
  rcases vx_callSN X hx (bytes := bytes) (maxL := maxL) (ret := ret) ho hl hx1 hini hcode hy hK hg (hsize.trans hml.symm) (argsL := As) (rest := rest) (fun sig h => hn.trans (hlen sig h)) hstack hW (by rw [hb]; exact hdg)
    (fun vm₁ hW₁ => ⟨hf.1, hf.2, hPc (T.setVm vm₁) hT hW₁⟩) with ⟨v, vm₁, ⟨U', l2, c2, s2⟩, hW₁, X', ⟨g', mk, t, L, e1, e2, hq, h1, hL, h2, h3⟩, st⟩ | ⟨q, vm₁, ⟨U', l2, c2, s2⟩, hW₁, X', ⟨g', mk, t, L, E, ce, e1, e2, hq, hce, hcv, hcl, h1, hL, h2, h3⟩, st⟩
  · dsimp only [Pt.U, Pt.locs, Pt.cells, Pt.slots] at X' e1 e2 h1 h2 h3 st
    subst h1; subst h2; subst h3
    exact Or.inl ⟨v, (T.setVm vm₁).calling g' mk As.toArray, t, U', L, hT, X', hL, e1, e2, hq, st⟩
  · dsimp only [Pt.U, Pt.locs, Pt.cells, Pt.slots] at X' e1 e2 h1 h2 h3 st hcl
    subst h1; subst h2; subst h3
    exact Or.inr ⟨q, (T.setVm vm₁).calling g' mk As.toArray, t, U', L, E, ce, hT, X', hL, e1, e2, hq, hce, hcv, vx_cls hW₁ hcl, st⟩
end
def qOk (p : Program) (l : Launch) (s : State) (m : MethodId) (args : Array Value) (meth : Method) (c : Code) (dC : Nat → ClassId) (dI : Nat → Nat → Nat) (cyI cyZ : ClassId) (ad : Nat → Nat) (own : Nat) (cc : ByteArray) (nL : Nat) (ret : Option FieldType) : Prop :=
  p.tables.exec = Jvm.exec ∧ c.code = cc ∧ c.maxLocals = nL ∧ s.vm.findClass (qNm own) = some m.cls ∧ (∀ w ∈ qT, w.before args s = true) ∧ meth.sig.returnType = ret ∧ meth.locks = false ∧ (∀ x ∈ c.exceptionTable.toList, False) ∧
  va_K (dC, dI) vwCl [(cyI, .int), (cyZ, .boolean)] s ∧ qInj ad ∧ qEnv ad (qA ad s.heap.size) s s.heap ∧ l.stackTraces = false
def qQc (dC : Nat → ClassId) (dI : Nat → Nat → Nat) (cyI cyZ : ClassId) (ad : Nat → Nat) (sz : Nat) (P : qP) : Array Value → State → Outcome → State → Prop := fun _ st oc t =>
  (∃ (v : Option Value) (M' : qM), oc = .returned (v.map (qTr ad)) ∧ P.1 v M' ∧ va_P (dC, dI) vwCl (qWd cyI cyZ ad M') t.heap) ∧ va_F (qA ad sz) st t
def qXC (dC : Nat → ClassId) (dI : Nat → Nat → Nat) (cyI cyZ : ClassId) (ad : Nat → Nat) (sz : Nat) (P : qP) : String → State → State → Prop := fun E st t =>
  ∃ M' : qM, P.2 E M' ∧ va_P (dC, dI) vwCl (qWd cyI cyZ ad M') t.heap ∧ va_F (qA ad sz) st t
/-- at pc with these locals, this stack and these numbers, the body comes to an end as P says; b throws are left -/
def QW : qX → qJ → qP → Nat → Nat → List (Option Value) → List Value → qM → Prop := fun ⟨p, l, e, s, m, args, below, meth, c, dC, dI, cyI, cyZ, ad⟩ ⟨own, cc, nL, ret, u, d⟩ P b pc L st M =>
  qOk p l s m args meth c dC dI cyI cyZ ad own cc nL ret → ∀ (H : Heap) (locs : List Loc) (cells slots : Nat) (ls : Array Slot), va_P (dC, dI) vwCl (qWd cyI cyZ ad M) H → va_S (qA ad s.heap.size) s.heap H locs → qLs ad ls nL L → cells + b ≤ u → slots + 6 * b ≤ 6 * u →
    W p l e (qRm u d) s m args below meth c H locs cells slots (vx_MQ below (qQc dC dI cyI cyZ ad s.heap.size P) (qXC dC dI cyI cyZ ad s.heap.size P) args s u (6 * u) (qA ad s.heap.size)) (F0 m pc ls (st.map (qTr ad)))
/-- a contract: called with these values over these numbers -/
def qPc (dC : Nat → ClassId) (dI : Nat → Nat → Nat) (cyI cyZ : ClassId) (ad : Nat → Nat) (sz : Nat) (av : List Value) (M : qM) : Array Value → State → Prop := fun v U =>
  v = (av.map (qTr ad)).toArray ∧ U.heap.size = sz ∧ va_P (dC, dI) vwCl (qWd cyI cyZ ad M) U.heap ∧ va_K (dC, dI) vwCl [(cyI, .int), (cyZ, .boolean)] U ∧ qInj ad ∧ qEnv ad (qA ad sz) U U.heap
def qCt (y : qY) (u d : Nat) (av : List Value) (M : qM) (P : qP) : Prop := ∀ (l : Launch), l.stackTraces = false → ∀ (dC : Nat → ClassId) (dI : Nat → Nat → Nat) (cyI cyZ : ClassId) (ad : Nat → Nat) (sz : Nat),
  vx_Met l y.1 (Cond.code y.1 y.2.1 y.2.2.1 y.2.2.2 :: qT) (qRm u d) (qPc dC dI cyI cyZ ad sz av M) (qQc dC dI cyI cyZ ad sz P) (qXC dC dI cyI cyZ ad sz P) u (6 * u) (qA ad sz)
theorem qWarm0 (s : State) : s.WarmedH s.vm := State.WarmedH.refl s
theorem qPc_blind {dC : Nat → ClassId} {dI : Nat → Nat → Nat} {cyI cyZ : ClassId} {ad : Nat → Nat} {sz : Nat} {av : List Value} {M : qM} : FrameBlind (qPc dC dI cyI cyZ ad sz av M) := by
  intro a U g mk h
  obtain ⟨h1, h2, h3, h4, h5, h6⟩ := h
  exact ⟨h1, h2, h3, va_K.moved (u := U) (U := U.calling g mk a) (Vm.Alike.refl U.vm) h4, h5, h6.to (qWarm0 U) (fun _ _ _ => rfl) (fun _ h => h)⟩
theorem qD_of {cyI cyZ : ClassId} {ad : Nat → Nat} {M : qM} {sz : Nat} (h : qInj ad) : va_D (qA ad sz) (qWd cyI cyZ ad M) := by
  have key : ∀ {k : Nat} {q : Nat × va_E}, (qWd cyI cyZ ad M)[k]? = some q → k < qN ∧ q.1 = ad k := by
    intro k q hk
    obtain ⟨x, h1, h2⟩ := qWd_inv hk
    exact ⟨by rw [← qLay_len]; exact (List.getElem?_eq_some_iff.mp h1).1, by rw [h2]⟩
  refine ⟨fun i j p q hi hj e => ?_, fun k q hk => ?_⟩
  · obtain ⟨a1, a2⟩ := key hi
    obtain ⟨b1, b2⟩ := key hj
    exact h i j a1 b1 (by rw [← a2, ← b2, e])
  · obtain ⟨a1, a2⟩ := key hk
    exact Or.inl ⟨k, a1, a2⟩
theorem qA_ge {ad : Nat → Nat} {sz z : Nat} (h : sz ≤ z) : ∀ q, qA ad z q → qA ad sz q := fun q hq => hq.elim Or.inl fun h2 => Or.inr (Nat.le_trans h h2)
theorem lv1_args (ad : Nat → Nat) : ∀ (av : List Value) (i n : Nat), (∀ v ∈ av, v.category = 1) → lv_args i (av.map (qTr ad)) = qAs ad i (av.map some ++ List.replicate n none) := by
  intro av
  induction av with
  | nil =>
    intro i n _
    have : ∀ n i, qAs ad i (List.replicate n none) = [] := by
      intro n
      induction n with
      | zero => intro i; rfl
      | succ n ih => intro i; rw [List.replicate_succ, qAs]; exact ih (i + 1)
    simp [lv_args, this]
  | cons v t ih =>
    intro i n h
    have hv : (qTr ad v).category = 1 := by rw [qTr_cat]; exact h v List.mem_cons_self
    simp only [List.map_cons, lv_args, hv, List.cons_append, qAs]
    rw [if_neg (by decide), ih (i + 1) n (fun w hw => h w (List.mem_cons_of_mem _ hw))]
theorem lg1_len (ad : Nat → Nat) : ∀ (av : List Value), (∀ v ∈ av, v.category = 1) → (lg_sl (av.map (qTr ad))).length = av.length := by
  intro av
  induction av with
  | nil => intro _; rfl
  | cons v t ih =>
    intro h
    have hv : (qTr ad v).category = 1 := by rw [qTr_cat]; exact h v List.mem_cons_self
    have := ih (fun w hw => h w (List.mem_cons_of_mem _ hw))
    simp only [lg_sl, List.map_cons, List.flatMap_cons, hv] at this ⊢
    rw [if_neg (by decide)]
    simp only [List.length_append, List.length_cons, List.length_nil] at this ⊢
    omega
set_option maxHeartbeats 1000000 in
theorem q_intro {y : qY} {n own u d : Nat} {st : Bool} {av : List Value} {M : qM} {P : qP} {L : List (Option Value)} (hm : q_Md y n st) (ho : qNm own = y.1.cls) (hL : L = av.map some ++ List.replicate (y.2.2.1 - av.length) none) (hc : (av.map fun v => v.category).all (· == 1) = true) (hn : av.length ≤ y.2.2.1)
    (k : ∀ X : qX, QW X (own, y.2.1, y.2.2.1, y.2.2.2, u, d) P u 0 L [] M) : qCt y u d av M P := by
  intro l hl dC dI cyI cyZ ad sz
  have hcat : ∀ v ∈ av, v.category = 1 := fun v hv => by
    have := List.all_eq_true.mp hc v.category (List.mem_map_of_mem hv)
    simpa using this
  refine vx_ofW hm.2.2.2.2.2 rfl ?_
  intro p e s m args below meth c s₁ B hml hex hpc
  obtain ⟨h1, h2, h3, h4, h5, h6⟩ := hpc
  subst h1
  subst h2
  have hts : ∀ w ∈ qT, w.before (av.map (qTr ad)).toArray s = true := fun w hw => atoms_spec (ws := Cond.code y.1 y.2.1 y.2.2.1 y.2.2.2 :: qT) B.pre w (List.mem_cons_of_mem _ hw)
  have hown : s.vm.findClass (qNm own) = some m.cls := by rw [ho]; exact findClass_of_methodNamed B.named
  rw [lg_entry_eq]
  have hl0 := lv_entry (av.map (qTr ad)) (n := y.2.2.1) (by rw [lg1_len ad av hcat]; exact hn)
  rw [lv1_args ad av 0 (y.2.2.1 - av.length) hcat, ← hL] at hl0
  exact k (p, l, e, s, m, _, below, meth, c, dC, dI, cyI, cyZ, ad) ⟨B.exec, B.bytes, hml, hown, hts, B.returns, B.notSynchronized, hex, h4, h5, h6, hl⟩ s.heap [] 0 0 _ h3 va_S.rf hl0 (by omega) (by omega)
section QR
variable {X : qX} {own : Nat} {cc : ByteArray} {nL : Nat} {ret : Option FieldType} {u d : Nat} {P : qP} {b pc : Nat} {L : List (Option Value)} {st : List Value} {M : qM}
theorem q_iload_n {i : Fin 4} {z : Int} (dd : decode cc pc = .ok (.iload_n i, 1)) (hv : L[(i : Nat)]? = some (some (.int (zI z)))) (k : QW X (own, cc, nL, ret, u, d) P b (pc + 1) L (.int (zI z) :: st) M) : QW X (own, cc, nL, ret, u, d) P b pc L st M := by
  obtain ⟨p, l, e, s, m, args, below, meth, c, dC, dI, cyI, cyZ, ad⟩ := X
  intro ok H locs cells slots ls hP hS hl h1 h2
  obtain ⟨hx, hb, hml, hown, hts, hret, hlocks, hex, hK, hinj, henv, hst⟩ := id ok
  exact lv_iload_n hx hb dd rfl (qLs_at hl hv) (k ok H locs cells slots ls hP hS hl h1 h2)
theorem q_iload {i : Nat} {z : Int} (dd : decode cc pc = .ok (.iload i, 2)) (hv : L[i]? = some (some (.int (zI z)))) (k : QW X (own, cc, nL, ret, u, d) P b (pc + 2) L (.int (zI z) :: st) M) : QW X (own, cc, nL, ret, u, d) P b pc L st M := by
  obtain ⟨p, l, e, s, m, args, below, meth, c, dC, dI, cyI, cyZ, ad⟩ := X
  intro ok H locs cells slots ls hP hS hl h1 h2
  obtain ⟨hx, hb, hml, hown, hts, hret, hlocks, hex, hK, hinj, henv, hst⟩ := id ok
  exact lv_iload hx hb dd (qLs_at hl hv) (k ok H locs cells slots ls hP hS hl h1 h2)
theorem q_aload_n {i : Fin 4} {o : Nat} (dd : decode cc pc = .ok (.aload_n i, 1)) (hv : L[(i : Nat)]? = some (some (.ref o))) (k : QW X (own, cc, nL, ret, u, d) P b (pc + 1) L (.ref o :: st) M) : QW X (own, cc, nL, ret, u, d) P b pc L st M := by
  obtain ⟨p, l, e, s, m, args, below, meth, c, dC, dI, cyI, cyZ, ad⟩ := X
  intro ok H locs cells slots ls hP hS hl h1 h2
  obtain ⟨hx, hb, hml, hown, hts, hret, hlocks, hex, hK, hinj, henv, hst⟩ := id ok
  exact lv_aload_n hx hb dd rfl (qLs_at hl hv) (k ok H locs cells slots ls hP hS hl h1 h2)
theorem q_aload {i : Nat} {o : Nat} (dd : decode cc pc = .ok (.aload i, 2)) (hv : L[i]? = some (some (.ref o))) (k : QW X (own, cc, nL, ret, u, d) P b (pc + 2) L (.ref o :: st) M) : QW X (own, cc, nL, ret, u, d) P b pc L st M := by
  obtain ⟨p, l, e, s, m, args, below, meth, c, dC, dI, cyI, cyZ, ad⟩ := X
  intro ok H locs cells slots ls hP hS hl h1 h2
  obtain ⟨hx, hb, hml, hown, hts, hret, hlocks, hex, hK, hinj, henv, hst⟩ := id ok
  exact lv_aload hx hb dd (qLs_at hl hv) (k ok H locs cells slots ls hP hS hl h1 h2)
theorem q_istore_n {i : Fin 4} {x : Int32} (dd : decode cc pc = .ok (.istore_n i, 1)) (hn : (i : Nat) < nL) (ho : qOk1 L (i : Nat) = true) (k : QW X (own, cc, nL, ret, u, d) P b (pc + 1) (L.set (i : Nat) (some (.int x))) st M) : QW X (own, cc, nL, ret, u, d) P b pc L ((.int x) :: st) M := by
  obtain ⟨p, l, e, s, m, args, below, meth, c, dC, dI, cyI, cyZ, ad⟩ := X
  intro ok H locs cells slots ls hP hS hl h1 h2
  obtain ⟨hx, hb, hml, hown, hts, hret, hlocks, hex, hK, hinj, henv, hst⟩ := id ok
  exact lv_istore_n hx hb dd rfl hl hn rfl (fun ls' hl' => k ok H locs cells slots ls' hP hS (qLs_set ho hl') h1 h2)
theorem q_istore {i : Nat} {x : Int32} (dd : decode cc pc = .ok (.istore i, 2)) (hn : i < nL) (ho : qOk1 L i = true) (k : QW X (own, cc, nL, ret, u, d) P b (pc + 2) (L.set i (some (.int x))) st M) : QW X (own, cc, nL, ret, u, d) P b pc L ((.int x) :: st) M := by
  obtain ⟨p, l, e, s, m, args, below, meth, c, dC, dI, cyI, cyZ, ad⟩ := X
  intro ok H locs cells slots ls hP hS hl h1 h2
  obtain ⟨hx, hb, hml, hown, hts, hret, hlocks, hex, hK, hinj, henv, hst⟩ := id ok
  exact lv_istore hx hb dd hl hn rfl (fun ls' hl' => k ok H locs cells slots ls' hP hS (qLs_set ho hl') h1 h2)
theorem q_astore_n {i : Fin 4} {x : Nat} (dd : decode cc pc = .ok (.astore_n i, 1)) (hn : (i : Nat) < nL) (ho : qOk1 L (i : Nat) = true) (k : QW X (own, cc, nL, ret, u, d) P b (pc + 1) (L.set (i : Nat) (some (.ref x))) st M) : QW X (own, cc, nL, ret, u, d) P b pc L ((.ref x) :: st) M := by
  obtain ⟨p, l, e, s, m, args, below, meth, c, dC, dI, cyI, cyZ, ad⟩ := X
  intro ok H locs cells slots ls hP hS hl h1 h2
  obtain ⟨hx, hb, hml, hown, hts, hret, hlocks, hex, hK, hinj, henv, hst⟩ := id ok
  exact lv_astore_n hx hb dd rfl hl hn rfl (fun ls' hl' => k ok H locs cells slots ls' hP hS (qLs_set ho hl') h1 h2)
theorem q_astore {i : Nat} {x : Nat} (dd : decode cc pc = .ok (.astore i, 2)) (hn : i < nL) (ho : qOk1 L i = true) (k : QW X (own, cc, nL, ret, u, d) P b (pc + 2) (L.set i (some (.ref x))) st M) : QW X (own, cc, nL, ret, u, d) P b pc L ((.ref x) :: st) M := by
  obtain ⟨p, l, e, s, m, args, below, meth, c, dC, dI, cyI, cyZ, ad⟩ := X
  intro ok H locs cells slots ls hP hS hl h1 h2
  obtain ⟨hx, hb, hml, hown, hts, hret, hlocks, hex, hK, hinj, henv, hst⟩ := id ok
  exact lv_astore hx hb dd hl hn rfl (fun ls' hl' => k ok H locs cells slots ls' hP hS (qLs_set ho hl') h1 h2)
theorem q_iinc {i : Nat} {n : Int} {z : Int} (dd : decode cc pc = .ok (.iinc i n, 3)) (hv : L[i]? = some (some (.int (zI z)))) (hn : i < nL) (ho : qOk1 L i = true) (k : QW X (own, cc, nL, ret, u, d) P b (pc + 3) (L.set i (some (.int (zI (z + n))))) st M) : QW X (own, cc, nL, ret, u, d) P b pc L st M := by
  obtain ⟨p, l, e, s, m, args, below, meth, c, dC, dI, cyI, cyZ, ad⟩ := X
  intro ok H locs cells slots ls hP hS hl h1 h2
  obtain ⟨hx, hb, hml, hown, hts, hret, hlocks, hex, hK, hinj, henv, hst⟩ := id ok
  obtain ⟨kk, hk⟩ := List.getElem?_of_mem (qAs_mem.mpr ⟨i, _, hv, rfl⟩ : (0 + i, qTr ad (.int (zI z))) ∈ qAs ad 0 L)
  rw [Nat.zero_add] at hk
  exact lv_iinc (v := zI (z + n)) hx hb dd hl hk (by rw [← zI_add]; rfl) hn rfl (fun ls' hl' => k ok H locs cells slots ls' hP hS (qLs_set ho hl') h1 h2)
theorem q_iconst {n : Int} (dd : decode cc pc = .ok (.iconst n, 1))  (k : QW X (own, cc, nL, ret, u, d) P b (pc + 1) L (.int (zI n) :: st) M) : QW X (own, cc, nL, ret, u, d) P b pc L st M := by
  obtain ⟨p, l, e, s, m, args, below, meth, c, dC, dI, cyI, cyZ, ad⟩ := X
  intro ok H locs cells slots ls hP hS hl h1 h2
  obtain ⟨hx, hb, hml, hown, hts, hret, hlocks, hex, hK, hinj, henv, hst⟩ := id ok
  exact lv_iconst hx hb dd rfl (k ok H locs cells slots ls hP hS hl h1 h2)
theorem q_bipush {n : Int} (dd : decode cc pc = .ok (.bipush n, 2)) (hv : (Int8.ofInt n).toInt32 = zI n) (k : QW X (own, cc, nL, ret, u, d) P b (pc + 2) L (.int (zI n) :: st) M) : QW X (own, cc, nL, ret, u, d) P b pc L st M := by
  obtain ⟨p, l, e, s, m, args, below, meth, c, dC, dI, cyI, cyZ, ad⟩ := X
  intro ok H locs cells slots ls hP hS hl h1 h2
  obtain ⟨hx, hb, hml, hown, hts, hret, hlocks, hex, hK, hinj, henv, hst⟩ := id ok
  exact lv_bipush hx hb dd hv (k ok H locs cells slots ls hP hS hl h1 h2)
theorem q_sipush {n : Int} (dd : decode cc pc = .ok (.sipush n, 3)) (hv : (Int16.ofInt n).toInt32 = zI n) (k : QW X (own, cc, nL, ret, u, d) P b (pc + 3) L (.int (zI n) :: st) M) : QW X (own, cc, nL, ret, u, d) P b pc L st M := by
  obtain ⟨p, l, e, s, m, args, below, meth, c, dC, dI, cyI, cyZ, ad⟩ := X
  intro ok H locs cells slots ls hP hS hl h1 h2
  obtain ⟨hx, hb, hml, hown, hts, hret, hlocks, hex, hK, hinj, henv, hst⟩ := id ok
  exact lv_sipush hx hb dd hv (k ok H locs cells slots ls hP hS hl h1 h2)
theorem q_dup {v : Value} (dd : decode cc pc = .ok (.dup, 1)) (hv : v.category = 1) (k : QW X (own, cc, nL, ret, u, d) P b (pc + 1) L (v :: v :: st) M) : QW X (own, cc, nL, ret, u, d) P b pc L (v :: st) M := by
  obtain ⟨p, l, e, s, m, args, below, meth, c, dC, dI, cyI, cyZ, ad⟩ := X
  intro ok H locs cells slots ls hP hS hl h1 h2
  obtain ⟨hx, hb, hml, hown, hts, hret, hlocks, hex, hK, hinj, henv, hst⟩ := id ok
  exact lv_dup hx hb dd ((qTr_cat ad v).trans hv) (k ok H locs cells slots ls hP hS hl h1 h2)
theorem q_pop {v : Value} (dd : decode cc pc = .ok (.pop, 1)) (hv : v.category = 1) (k : QW X (own, cc, nL, ret, u, d) P b (pc + 1) L st M) : QW X (own, cc, nL, ret, u, d) P b pc L (v :: st) M := by
  obtain ⟨p, l, e, s, m, args, below, meth, c, dC, dI, cyI, cyZ, ad⟩ := X
  intro ok H locs cells slots ls hP hS hl h1 h2
  obtain ⟨hx, hb, hml, hown, hts, hret, hlocks, hex, hK, hinj, henv, hst⟩ := id ok
  exact lv_pop hx hb dd ((qTr_cat ad v).trans hv) (k ok H locs cells slots ls hP hS hl h1 h2)
theorem q_dup2 {v w : Value} (dd : decode cc pc = .ok (.dup2, 1)) (hv : v.category = 1) (hw : w.category = 1) (k : QW X (own, cc, nL, ret, u, d) P b (pc + 1) L (v :: w :: v :: w :: st) M) : QW X (own, cc, nL, ret, u, d) P b pc L (v :: w :: st) M := by
  obtain ⟨p, l, e, s, m, args, below, meth, c, dC, dI, cyI, cyZ, ad⟩ := X
  intro ok H locs cells slots ls hP hS hl h1 h2
  obtain ⟨hx, hb, hml, hown, hts, hret, hlocks, hex, hK, hinj, henv, hst⟩ := id ok
  exact lv_dup2_11 hx hb dd ((qTr_cat ad v).trans hv) ((qTr_cat ad w).trans hw) (k ok H locs cells slots ls hP hS hl h1 h2)
def zdiv (a b : Int) : Int := (zI a / zI b).toInt
def zrem (a b : Int) : Int := (zI a - zI a / zI b * zI b).toInt
def zand (a b : Int) : Int := (zI a &&& zI b).toInt
def zor (a b : Int) : Int := (zI a ||| zI b).toInt
def zxor (a b : Int) : Int := (zI a ^^^ zI b).toInt
def zshl (a b : Int) : Int := (zI a <<< (zI b &&& 31)).toInt
def zshr (a b : Int) : Int := (zI a >>> (zI b &&& 31)).toInt
def zushr (a b : Int) : Int := ((zI a).toUInt32 >>> ((zI b).toUInt32 &&& Int32.toUInt32 31)).toInt32.toInt
theorem q_ldcw {idx : Nat} {z : Int} (dd : decode cc pc = .ok (.ldc_w idx, 3)) (hw : Cond.constant (qNm own) idx (zI z) ∈ qT) (k : QW X (own, cc, nL, ret, u, d) P b (pc + 3) L (.int (zI z) :: st) M) : QW X (own, cc, nL, ret, u, d) P b pc L st M := by
  obtain ⟨p, l, e, s, m, args, below, meth, c, dC, dI, cyI, cyZ, ad⟩ := X
  intro ok H locs cells slots ls hP hS hl h1 h2
  obtain ⟨hx, hb, hml, hown, hts, hret, hlocks, hex, hK, hinj, henv, hst⟩ := id ok
  exact lv_ldcw hx hb hown (hts _ hw) dd (k ok H locs cells slots ls hP hS hl h1 h2)
theorem q_iadd {a b' : Int} (dd : decode cc pc = .ok (.iadd, 1)) (k : QW X (own, cc, nL, ret, u, d) P b (pc + 1) L (.int (zI (a + b')) :: st) M) : QW X (own, cc, nL, ret, u, d) P b pc L (.int (zI b') :: .int (zI a) :: st) M := by
  obtain ⟨p, l, e, s, m, args, below, meth, c, dC, dI, cyI, cyZ, ad⟩ := X
  intro ok H locs cells slots ls hP hS hl h1 h2
  obtain ⟨hx, hb, hml, hown, hts, hret, hlocks, hex, hK, hinj, henv, hst⟩ := id ok
  refine lv_iadd hx hb dd ?_
  rw [zI_add]
  exact k ok H locs cells slots ls hP hS hl h1 h2
theorem q_isub {a b' : Int} (dd : decode cc pc = .ok (.isub, 1)) (k : QW X (own, cc, nL, ret, u, d) P b (pc + 1) L (.int (zI (a - b')) :: st) M) : QW X (own, cc, nL, ret, u, d) P b pc L (.int (zI b') :: .int (zI a) :: st) M := by
  obtain ⟨p, l, e, s, m, args, below, meth, c, dC, dI, cyI, cyZ, ad⟩ := X
  intro ok H locs cells slots ls hP hS hl h1 h2
  obtain ⟨hx, hb, hml, hown, hts, hret, hlocks, hex, hK, hinj, henv, hst⟩ := id ok
  refine lv_isub hx hb dd ?_
  rw [zI_sub]
  exact k ok H locs cells slots ls hP hS hl h1 h2
theorem q_imul {a b' : Int} (dd : decode cc pc = .ok (.imul, 1)) (k : QW X (own, cc, nL, ret, u, d) P b (pc + 1) L (.int (zI (a * b')) :: st) M) : QW X (own, cc, nL, ret, u, d) P b pc L (.int (zI b') :: .int (zI a) :: st) M := by
  obtain ⟨p, l, e, s, m, args, below, meth, c, dC, dI, cyI, cyZ, ad⟩ := X
  intro ok H locs cells slots ls hP hS hl h1 h2
  obtain ⟨hx, hb, hml, hown, hts, hret, hlocks, hex, hK, hinj, henv, hst⟩ := id ok
  refine lv_imul hx hb dd ?_
  rw [zI_mul]
  exact k ok H locs cells slots ls hP hS hl h1 h2
theorem q_iand {a b' : Int} (dd : decode cc pc = .ok (.iand, 1)) (k : QW X (own, cc, nL, ret, u, d) P b (pc + 1) L (.int (zI (zand a b')) :: st) M) : QW X (own, cc, nL, ret, u, d) P b pc L (.int (zI b') :: .int (zI a) :: st) M := by
  obtain ⟨p, l, e, s, m, args, below, meth, c, dC, dI, cyI, cyZ, ad⟩ := X
  intro ok H locs cells slots ls hP hS hl h1 h2
  obtain ⟨hx, hb, hml, hown, hts, hret, hlocks, hex, hK, hinj, henv, hst⟩ := id ok
  refine lv_iand hx hb dd ?_
  have k2 := k ok H locs cells slots ls hP hS hl h1 h2
  unfold zand at k2
  rw [zI_of] at k2
  exact k2
theorem q_ior {a b' : Int} (dd : decode cc pc = .ok (.ior, 1)) (k : QW X (own, cc, nL, ret, u, d) P b (pc + 1) L (.int (zI (zor a b')) :: st) M) : QW X (own, cc, nL, ret, u, d) P b pc L (.int (zI b') :: .int (zI a) :: st) M := by
  obtain ⟨p, l, e, s, m, args, below, meth, c, dC, dI, cyI, cyZ, ad⟩ := X
  intro ok H locs cells slots ls hP hS hl h1 h2
  obtain ⟨hx, hb, hml, hown, hts, hret, hlocks, hex, hK, hinj, henv, hst⟩ := id ok
  refine lv_ior hx hb dd ?_
  have k2 := k ok H locs cells slots ls hP hS hl h1 h2
  unfold zor at k2
  rw [zI_of] at k2
  exact k2
theorem q_ixor {a b' : Int} (dd : decode cc pc = .ok (.ixor, 1)) (k : QW X (own, cc, nL, ret, u, d) P b (pc + 1) L (.int (zI (zxor a b')) :: st) M) : QW X (own, cc, nL, ret, u, d) P b pc L (.int (zI b') :: .int (zI a) :: st) M := by
  obtain ⟨p, l, e, s, m, args, below, meth, c, dC, dI, cyI, cyZ, ad⟩ := X
  intro ok H locs cells slots ls hP hS hl h1 h2
  obtain ⟨hx, hb, hml, hown, hts, hret, hlocks, hex, hK, hinj, henv, hst⟩ := id ok
  refine lv_ixor hx hb dd ?_
  have k2 := k ok H locs cells slots ls hP hS hl h1 h2
  unfold zxor at k2
  rw [zI_of] at k2
  exact k2
theorem q_ishl {a b' : Int} (dd : decode cc pc = .ok (.ishl, 1)) (k : QW X (own, cc, nL, ret, u, d) P b (pc + 1) L (.int (zI (zshl a b')) :: st) M) : QW X (own, cc, nL, ret, u, d) P b pc L (.int (zI b') :: .int (zI a) :: st) M := by
  obtain ⟨p, l, e, s, m, args, below, meth, c, dC, dI, cyI, cyZ, ad⟩ := X
  intro ok H locs cells slots ls hP hS hl h1 h2
  obtain ⟨hx, hb, hml, hown, hts, hret, hlocks, hex, hK, hinj, henv, hst⟩ := id ok
  refine lv_ishl hx hb dd ?_
  have k2 := k ok H locs cells slots ls hP hS hl h1 h2
  unfold zshl at k2
  rw [zI_of] at k2
  exact k2
theorem q_ishr {a b' : Int} (dd : decode cc pc = .ok (.ishr, 1)) (k : QW X (own, cc, nL, ret, u, d) P b (pc + 1) L (.int (zI (zshr a b')) :: st) M) : QW X (own, cc, nL, ret, u, d) P b pc L (.int (zI b') :: .int (zI a) :: st) M := by
  obtain ⟨p, l, e, s, m, args, below, meth, c, dC, dI, cyI, cyZ, ad⟩ := X
  intro ok H locs cells slots ls hP hS hl h1 h2
  obtain ⟨hx, hb, hml, hown, hts, hret, hlocks, hex, hK, hinj, henv, hst⟩ := id ok
  refine lv_ishr hx hb dd ?_
  have k2 := k ok H locs cells slots ls hP hS hl h1 h2
  unfold zshr at k2
  rw [zI_of] at k2
  exact k2
theorem q_iushr {a b' : Int} (dd : decode cc pc = .ok (.iushr, 1)) (k : QW X (own, cc, nL, ret, u, d) P b (pc + 1) L (.int (zI (zushr a b')) :: st) M) : QW X (own, cc, nL, ret, u, d) P b pc L (.int (zI b') :: .int (zI a) :: st) M := by
  obtain ⟨p, l, e, s, m, args, below, meth, c, dC, dI, cyI, cyZ, ad⟩ := X
  intro ok H locs cells slots ls hP hS hl h1 h2
  obtain ⟨hx, hb, hml, hown, hts, hret, hlocks, hex, hK, hinj, henv, hst⟩ := id ok
  exact lv_iushr (v := zI (zushr a b')) hx hb dd (by unfold zushr; rw [zI_of]) (k ok H locs cells slots ls hP hS hl h1 h2)
theorem q_idiv {a b' : Int} (dd : decode cc pc = .ok (.idiv, 1)) (hr : zR b') (h0 : b' ≠ 0) (k : QW X (own, cc, nL, ret, u, d) P b (pc + 1) L (.int (zI (zdiv a b')) :: st) M) : QW X (own, cc, nL, ret, u, d) P b pc L (.int (zI b') :: .int (zI a) :: st) M := by
  obtain ⟨p, l, e, s, m, args, below, meth, c, dC, dI, cyI, cyZ, ad⟩ := X
  intro ok H locs cells slots ls hP hS hl h1 h2
  obtain ⟨hx, hb, hml, hown, hts, hret, hlocks, hex, hK, hinj, henv, hst⟩ := id ok
  refine lv_idiv hx hb dd (fun q => h0 ((zI_eq hr zR0).mp (q.trans zI0.symm))) ?_
  have k2 := k ok H locs cells slots ls hP hS hl h1 h2
  unfold zdiv at k2
  rw [zI_of] at k2
  exact k2
theorem q_irem {a b' : Int} (dd : decode cc pc = .ok (.irem, 1)) (hr : zR b') (h0 : b' ≠ 0) (k : QW X (own, cc, nL, ret, u, d) P b (pc + 1) L (.int (zI (zrem a b')) :: st) M) : QW X (own, cc, nL, ret, u, d) P b pc L (.int (zI b') :: .int (zI a) :: st) M := by
  obtain ⟨p, l, e, s, m, args, below, meth, c, dC, dI, cyI, cyZ, ad⟩ := X
  intro ok H locs cells slots ls hP hS hl h1 h2
  obtain ⟨hx, hb, hml, hown, hts, hret, hlocks, hex, hK, hinj, henv, hst⟩ := id ok
  refine lv_irem hx hb dd (fun q => h0 ((zI_eq hr zR0).mp (q.trans zI0.symm))) ?_
  have k2 := k ok H locs cells slots ls hP hS hl h1 h2
  unfold zrem at k2
  rw [zI_of] at k2
  exact k2
theorem q_ineg {a : Int} (dd : decode cc pc = .ok (.ineg, 1)) (k : QW X (own, cc, nL, ret, u, d) P b (pc + 1) L (.int (zI (-a)) :: st) M) : QW X (own, cc, nL, ret, u, d) P b pc L (.int (zI a) :: st) M := by
  obtain ⟨p, l, e, s, m, args, below, meth, c, dC, dI, cyI, cyZ, ad⟩ := X
  intro ok H locs cells slots ls hP hS hl h1 h2
  obtain ⟨hx, hb, hml, hown, hts, hret, hlocks, hex, hK, hinj, henv, hst⟩ := id ok
  refine lv_ineg hx hb dd ?_
  rw [zI_neg]
  exact k ok H locs cells slots ls hP hS hl h1 h2
theorem q_goto {off : Int} {tgt : Nat} (dd : decode cc pc = .ok (.goto off, 3)) (ht : (pc : Int) + off = (tgt : Int)) (k : QW X (own, cc, nL, ret, u, d) P b tgt L st M) : QW X (own, cc, nL, ret, u, d) P b pc L st M := by
  obtain ⟨p, l, e, s, m, args, below, meth, c, dC, dI, cyI, cyZ, ad⟩ := X
  intro ok H locs cells slots ls hP hS hl h1 h2
  obtain ⟨hx, hb, hml, hown, hts, hret, hlocks, hex, hK, hinj, henv, hst⟩ := id ok
  exact lv_goto hx hb dd ht (k ok H locs cells slots ls hP hS hl h1 h2)
theorem q_icmp_eq {a b' off : Int} {tgt : Nat} (dd : decode cc pc = .ok (.if_icmp .eq off, 3)) (ht : (pc : Int) + off = (tgt : Int)) (ha : zR a) (hb' : zR b') (kt : a = b' → QW X (own, cc, nL, ret, u, d) P b tgt L st M) (kf : ¬ a = b' → QW X (own, cc, nL, ret, u, d) P b (pc + 3) L st M) : QW X (own, cc, nL, ret, u, d) P b pc L (.int (zI b') :: .int (zI a) :: st) M := by
  obtain ⟨p, l, e, s, m, args, below, meth, c, dC, dI, cyI, cyZ, ad⟩ := X
  intro ok H locs cells slots ls hP hS hl h1 h2
  obtain ⟨hx, hb, hml, hown, hts, hret, hlocks, hex, hK, hinj, henv, hst⟩ := id ok
  exact lv_icmp_eq hx hb dd ht (fun h => kt ((zI_eq ha hb').mp h) ok H locs cells slots ls hP hS hl h1 h2) (fun h => kf (fun q => h ((zI_eq ha hb').mpr q)) ok H locs cells slots ls hP hS hl h1 h2)
theorem q_if_eq {a off : Int} {tgt : Nat} (dd : decode cc pc = .ok (.ifCond .eq off, 3)) (ht : (pc : Int) + off = (tgt : Int)) (ha : zR a) (kt : a = 0 → QW X (own, cc, nL, ret, u, d) P b tgt L st M) (kf : ¬ a = 0 → QW X (own, cc, nL, ret, u, d) P b (pc + 3) L st M) : QW X (own, cc, nL, ret, u, d) P b pc L (.int (zI a) :: st) M := by
  obtain ⟨p, l, e, s, m, args, below, meth, c, dC, dI, cyI, cyZ, ad⟩ := X
  intro ok H locs cells slots ls hP hS hl h1 h2
  obtain ⟨hx, hb, hml, hown, hts, hret, hlocks, hex, hK, hinj, henv, hst⟩ := id ok
  have hb' := zR0
  exact lv_if_eq hx hb dd ht (fun h => kt ((zI_eq ha hb').mp h) ok H locs cells slots ls hP hS hl h1 h2) (fun h => kf (fun q => h ((zI_eq ha hb').mpr q)) ok H locs cells slots ls hP hS hl h1 h2)
theorem q_icmp_ne {a b' off : Int} {tgt : Nat} (dd : decode cc pc = .ok (.if_icmp .ne off, 3)) (ht : (pc : Int) + off = (tgt : Int)) (ha : zR a) (hb' : zR b') (kt : ¬ a = b' → QW X (own, cc, nL, ret, u, d) P b tgt L st M) (kf : a = b' → QW X (own, cc, nL, ret, u, d) P b (pc + 3) L st M) : QW X (own, cc, nL, ret, u, d) P b pc L (.int (zI b') :: .int (zI a) :: st) M := by
  obtain ⟨p, l, e, s, m, args, below, meth, c, dC, dI, cyI, cyZ, ad⟩ := X
  intro ok H locs cells slots ls hP hS hl h1 h2
  obtain ⟨hx, hb, hml, hown, hts, hret, hlocks, hex, hK, hinj, henv, hst⟩ := id ok
  exact lv_icmp_ne hx hb dd ht (fun h => kt (fun q => h ((zI_eq ha hb').mpr q)) ok H locs cells slots ls hP hS hl h1 h2) (fun h => kf ((zI_eq ha hb').mp h) ok H locs cells slots ls hP hS hl h1 h2)
theorem q_if_ne {a off : Int} {tgt : Nat} (dd : decode cc pc = .ok (.ifCond .ne off, 3)) (ht : (pc : Int) + off = (tgt : Int)) (ha : zR a) (kt : ¬ a = 0 → QW X (own, cc, nL, ret, u, d) P b tgt L st M) (kf : a = 0 → QW X (own, cc, nL, ret, u, d) P b (pc + 3) L st M) : QW X (own, cc, nL, ret, u, d) P b pc L (.int (zI a) :: st) M := by
  obtain ⟨p, l, e, s, m, args, below, meth, c, dC, dI, cyI, cyZ, ad⟩ := X
  intro ok H locs cells slots ls hP hS hl h1 h2
  obtain ⟨hx, hb, hml, hown, hts, hret, hlocks, hex, hK, hinj, henv, hst⟩ := id ok
  have hb' := zR0
  exact lv_if_ne hx hb dd ht (fun h => kt (fun q => h ((zI_eq ha hb').mpr q)) ok H locs cells slots ls hP hS hl h1 h2) (fun h => kf ((zI_eq ha hb').mp h) ok H locs cells slots ls hP hS hl h1 h2)
theorem q_icmp_lt {a b' off : Int} {tgt : Nat} (dd : decode cc pc = .ok (.if_icmp .lt off, 3)) (ht : (pc : Int) + off = (tgt : Int)) (ha : zR a) (hb' : zR b') (kt : a < b' → QW X (own, cc, nL, ret, u, d) P b tgt L st M) (kf : b' ≤ a → QW X (own, cc, nL, ret, u, d) P b (pc + 3) L st M) : QW X (own, cc, nL, ret, u, d) P b pc L (.int (zI b') :: .int (zI a) :: st) M := by
  obtain ⟨p, l, e, s, m, args, below, meth, c, dC, dI, cyI, cyZ, ad⟩ := X
  intro ok H locs cells slots ls hP hS hl h1 h2
  obtain ⟨hx, hb, hml, hown, hts, hret, hlocks, hex, hK, hinj, henv, hst⟩ := id ok
  exact lv_icmp_lt hx hb dd ht (fun h => kt ((zI_lt ha hb').mp h) ok H locs cells slots ls hP hS hl h1 h2) (fun h => kf (Int.not_lt.mp (fun q => h ((zI_lt ha hb').mpr q))) ok H locs cells slots ls hP hS hl h1 h2)
theorem q_if_lt {a off : Int} {tgt : Nat} (dd : decode cc pc = .ok (.ifCond .lt off, 3)) (ht : (pc : Int) + off = (tgt : Int)) (ha : zR a) (kt : a < 0 → QW X (own, cc, nL, ret, u, d) P b tgt L st M) (kf : 0 ≤ a → QW X (own, cc, nL, ret, u, d) P b (pc + 3) L st M) : QW X (own, cc, nL, ret, u, d) P b pc L (.int (zI a) :: st) M := by
  obtain ⟨p, l, e, s, m, args, below, meth, c, dC, dI, cyI, cyZ, ad⟩ := X
  intro ok H locs cells slots ls hP hS hl h1 h2
  obtain ⟨hx, hb, hml, hown, hts, hret, hlocks, hex, hK, hinj, henv, hst⟩ := id ok
  have hb' := zR0
  exact lv_if_lt hx hb dd ht (fun h => kt ((zI_lt ha hb').mp h) ok H locs cells slots ls hP hS hl h1 h2) (fun h => kf (Int.not_lt.mp (fun q => h ((zI_lt ha hb').mpr q))) ok H locs cells slots ls hP hS hl h1 h2)
theorem q_icmp_ge {a b' off : Int} {tgt : Nat} (dd : decode cc pc = .ok (.if_icmp .ge off, 3)) (ht : (pc : Int) + off = (tgt : Int)) (ha : zR a) (hb' : zR b') (kt : b' ≤ a → QW X (own, cc, nL, ret, u, d) P b tgt L st M) (kf : a < b' → QW X (own, cc, nL, ret, u, d) P b (pc + 3) L st M) : QW X (own, cc, nL, ret, u, d) P b pc L (.int (zI b') :: .int (zI a) :: st) M := by
  obtain ⟨p, l, e, s, m, args, below, meth, c, dC, dI, cyI, cyZ, ad⟩ := X
  intro ok H locs cells slots ls hP hS hl h1 h2
  obtain ⟨hx, hb, hml, hown, hts, hret, hlocks, hex, hK, hinj, henv, hst⟩ := id ok
  exact lv_icmp_ge hx hb dd ht (fun h => kt ((zI_le hb' ha).mp h) ok H locs cells slots ls hP hS hl h1 h2) (fun h => kf (Int.not_le.mp (fun q => h ((zI_le hb' ha).mpr q))) ok H locs cells slots ls hP hS hl h1 h2)
theorem q_if_ge {a off : Int} {tgt : Nat} (dd : decode cc pc = .ok (.ifCond .ge off, 3)) (ht : (pc : Int) + off = (tgt : Int)) (ha : zR a) (kt : 0 ≤ a → QW X (own, cc, nL, ret, u, d) P b tgt L st M) (kf : a < 0 → QW X (own, cc, nL, ret, u, d) P b (pc + 3) L st M) : QW X (own, cc, nL, ret, u, d) P b pc L (.int (zI a) :: st) M := by
  obtain ⟨p, l, e, s, m, args, below, meth, c, dC, dI, cyI, cyZ, ad⟩ := X
  intro ok H locs cells slots ls hP hS hl h1 h2
  obtain ⟨hx, hb, hml, hown, hts, hret, hlocks, hex, hK, hinj, henv, hst⟩ := id ok
  have hb' := zR0
  exact lv_if_ge hx hb dd ht (fun h => kt ((zI_le hb' ha).mp h) ok H locs cells slots ls hP hS hl h1 h2) (fun h => kf (Int.not_le.mp (fun q => h ((zI_le hb' ha).mpr q))) ok H locs cells slots ls hP hS hl h1 h2)
theorem q_icmp_gt {a b' off : Int} {tgt : Nat} (dd : decode cc pc = .ok (.if_icmp .gt off, 3)) (ht : (pc : Int) + off = (tgt : Int)) (ha : zR a) (hb' : zR b') (kt : b' < a → QW X (own, cc, nL, ret, u, d) P b tgt L st M) (kf : a ≤ b' → QW X (own, cc, nL, ret, u, d) P b (pc + 3) L st M) : QW X (own, cc, nL, ret, u, d) P b pc L (.int (zI b') :: .int (zI a) :: st) M := by
  obtain ⟨p, l, e, s, m, args, below, meth, c, dC, dI, cyI, cyZ, ad⟩ := X
  intro ok H locs cells slots ls hP hS hl h1 h2
  obtain ⟨hx, hb, hml, hown, hts, hret, hlocks, hex, hK, hinj, henv, hst⟩ := id ok
  exact lv_icmp_gt hx hb dd ht (fun h => kt ((zI_lt hb' ha).mp h) ok H locs cells slots ls hP hS hl h1 h2) (fun h => kf (Int.not_lt.mp (fun q => h ((zI_lt hb' ha).mpr q))) ok H locs cells slots ls hP hS hl h1 h2)
theorem q_if_gt {a off : Int} {tgt : Nat} (dd : decode cc pc = .ok (.ifCond .gt off, 3)) (ht : (pc : Int) + off = (tgt : Int)) (ha : zR a) (kt : 0 < a → QW X (own, cc, nL, ret, u, d) P b tgt L st M) (kf : a ≤ 0 → QW X (own, cc, nL, ret, u, d) P b (pc + 3) L st M) : QW X (own, cc, nL, ret, u, d) P b pc L (.int (zI a) :: st) M := by
  obtain ⟨p, l, e, s, m, args, below, meth, c, dC, dI, cyI, cyZ, ad⟩ := X
  intro ok H locs cells slots ls hP hS hl h1 h2
  obtain ⟨hx, hb, hml, hown, hts, hret, hlocks, hex, hK, hinj, henv, hst⟩ := id ok
  have hb' := zR0
  exact lv_if_gt hx hb dd ht (fun h => kt ((zI_lt hb' ha).mp h) ok H locs cells slots ls hP hS hl h1 h2) (fun h => kf (Int.not_lt.mp (fun q => h ((zI_lt hb' ha).mpr q))) ok H locs cells slots ls hP hS hl h1 h2)
theorem q_icmp_le {a b' off : Int} {tgt : Nat} (dd : decode cc pc = .ok (.if_icmp .le off, 3)) (ht : (pc : Int) + off = (tgt : Int)) (ha : zR a) (hb' : zR b') (kt : a ≤ b' → QW X (own, cc, nL, ret, u, d) P b tgt L st M) (kf : b' < a → QW X (own, cc, nL, ret, u, d) P b (pc + 3) L st M) : QW X (own, cc, nL, ret, u, d) P b pc L (.int (zI b') :: .int (zI a) :: st) M := by
  obtain ⟨p, l, e, s, m, args, below, meth, c, dC, dI, cyI, cyZ, ad⟩ := X
  intro ok H locs cells slots ls hP hS hl h1 h2
  obtain ⟨hx, hb, hml, hown, hts, hret, hlocks, hex, hK, hinj, henv, hst⟩ := id ok
  exact lv_icmp_le hx hb dd ht (fun h => kt ((zI_le ha hb').mp h) ok H locs cells slots ls hP hS hl h1 h2) (fun h => kf (Int.not_le.mp (fun q => h ((zI_le ha hb').mpr q))) ok H locs cells slots ls hP hS hl h1 h2)
theorem q_if_le {a off : Int} {tgt : Nat} (dd : decode cc pc = .ok (.ifCond .le off, 3)) (ht : (pc : Int) + off = (tgt : Int)) (ha : zR a) (kt : a ≤ 0 → QW X (own, cc, nL, ret, u, d) P b tgt L st M) (kf : 0 < a → QW X (own, cc, nL, ret, u, d) P b (pc + 3) L st M) : QW X (own, cc, nL, ret, u, d) P b pc L (.int (zI a) :: st) M := by
  obtain ⟨p, l, e, s, m, args, below, meth, c, dC, dI, cyI, cyZ, ad⟩ := X
  intro ok H locs cells slots ls hP hS hl h1 h2
  obtain ⟨hx, hb, hml, hown, hts, hret, hlocks, hex, hK, hinj, henv, hst⟩ := id ok
  have hb' := zR0
  exact lv_if_le hx hb dd ht (fun h => kt ((zI_le ha hb').mp h) ok H locs cells slots ls hP hS hl h1 h2) (fun h => kf (Int.not_le.mp (fun q => h ((zI_le ha hb').mpr q))) ok H locs cells slots ls hP hS hl h1 h2)
theorem q_tableIn {dflt lo hi : Int} {offs : Array Int} {len : Nat} {z off : Int} {tgt : Nat} (dd : decode cc pc = .ok (.tableswitch dflt lo hi offs, len)) (hz : zR z) (h3 : lo ≤ z) (h4 : z ≤ hi) (ho : offs[(z - lo).toNat]? = some off) (ht : (pc : Int) + off = (tgt : Int)) (k : QW X (own, cc, nL, ret, u, d) P b tgt L st M) : QW X (own, cc, nL, ret, u, d) P b pc L (.int (zI z) :: st) M := by
  obtain ⟨p, l, e, s, m, args, below, meth, c, dC, dI, cyI, cyZ, ad⟩ := X
  intro ok H locs cells slots ls hP hS hl h1 h2
  obtain ⟨hx, hb, hml, hown, hts, hret, hlocks, hex, hK, hinj, henv, hst⟩ := id ok
  exact lv_tableIn hx hb dd (by rw [zI_toInt hz]; omega) (by rw [zI_toInt hz]; omega) (by rw [zI_toInt hz]; exact ho) ht (k ok H locs cells slots ls hP hS hl h1 h2)
theorem q_tableOut {dflt lo hi : Int} {offs : Array Int} {len : Nat} {z : Int} {tgt : Nat} (dd : decode cc pc = .ok (.tableswitch dflt lo hi offs, len)) (hz : zR z) (h3 : z < lo ∨ hi < z) (ht : (pc : Int) + dflt = (tgt : Int)) (k : QW X (own, cc, nL, ret, u, d) P b tgt L st M) : QW X (own, cc, nL, ret, u, d) P b pc L (.int (zI z) :: st) M := by
  obtain ⟨p, l, e, s, m, args, below, meth, c, dC, dI, cyI, cyZ, ad⟩ := X
  intro ok H locs cells slots ls hP hS hl h1 h2
  obtain ⟨hx, hb, hml, hown, hts, hret, hlocks, hex, hK, hinj, henv, hst⟩ := id ok
  exact lv_tableOut hx hb dd (by rw [zI_toInt hz]; exact h3) ht (k ok H locs cells slots ls hP hS hl h1 h2)
theorem q_cls : ∀ (ci : Nat) (r : vw_C), vwCl[ci]? = some r → (∀ w ∈ u_ws r.1 r.2.1 r.2.2, w ∈ qT) := by
  have h : ∀ r ∈ vwCl, (u_ws r.1 r.2.1 r.2.2).all (fun w => decide (w ∈ lw_tbl) && goodWord w) = true := by decide +kernel
  intro ci r hr w hw
  have h1 := List.all_eq_true.mp (h r (List.mem_of_getElem? hr)) w hw
  simp only [Bool.and_eq_true, decide_eq_true_eq] at h1
  exact List.mem_filter.mpr h1
def qTy (ci k : Nat) : FieldType := match ci with
  | 0 => tyX0 k
  | 1 => tyX1 k
  | 2 => tyX2 k
  | 3 => tyX3 k
  | 4 => tyX4 k
  | 5 => tyX5 k
  | 6 => tyX6 k
  | 7 => tyX7 k
  | _ => tyX8 k
theorem q_clsT : ∀ (ci : Nat) (r : vw_C), vwCl[ci]? = some r → (∀ k, k < r.2.2 → parseFieldDescriptor (r.2.1 k).2.2.1 = some (qTy ci k)) ∧ (∀ a, a < r.2.2 → ∀ b, b < r.2.2 → a ≠ b → (r.2.1 a).2.1 ≠ (r.2.1 b).2.1) := by
  intro ci r hr
  match ci, hr with
  | 0, hr => cases hr; exact ⟨tyX0_ok, nmX0⟩
  | 1, hr => cases hr; exact ⟨tyX1_ok, nmX1⟩
  | 2, hr => cases hr; exact ⟨tyX2_ok, nmX2⟩
  | 3, hr => cases hr; exact ⟨tyX3_ok, nmX3⟩
  | 4, hr => cases hr; exact ⟨tyX4_ok, nmX4⟩
  | 5, hr => cases hr; exact ⟨tyX5_ok, nmX5⟩
  | 6, hr => cases hr; exact ⟨tyX6_ok, nmX6⟩
  | 7, hr => cases hr; exact ⟨tyX7_ok, nmX7⟩
  | 8, hr => cases hr; exact ⟨tyX8_ok, nmX8⟩
  | k + 9, hr => simp [vwCl] at hr
theorem q_geti {o idx ci k : Nat} (j : Int) {fs : List (Option Nat)} (dd : decode cc pc = .ok (.getfield idx, 3)) (hf : q_Fl own idx ci k) (ho : qLay[o]? = some (.inl (ci, fs))) (hv : fs[k]? = some none) (hj : (k : Int) = j) (kk : QW X (own, cc, nL, ret, u, d) P b (pc + 3) L (.int (zI (M o j)) :: st) M) : QW X (own, cc, nL, ret, u, d) P b pc L (.ref o :: st) M := by
  obtain ⟨p, l, e, s, m, args, below, meth, c, dC, dI, cyI, cyZ, ad⟩ := X
  intro ok H locs cells slots ls hP hS hl h1 h2
  obtain ⟨hx, hb, hml, hown, hts, hret, hlocks, hex, hK, hinj, henv, hst⟩ := id ok
  subst hj
  obtain ⟨r, hr, hk, hlk, hs1⟩ := hf
  refine va_get (Ts := qT) hx hb hts (q_cls ci r hr) hown hK hP o (qWd_get ho) hr k hk (hts _ hlk) (fun x hx => by rw [hs1] at hx; exact hx) (qFs_get hv) dd ?_
  exact kk ok H locs cells slots ls hP hS hl h1 h2
theorem q_getr {o idx ci k q : Nat} {fs : List (Option Nat)} (dd : decode cc pc = .ok (.getfield idx, 3)) (hf : q_Fl own idx ci k) (ho : qLay[o]? = some (.inl (ci, fs))) (hv : fs[k]? = some (some q)) (kk : QW X (own, cc, nL, ret, u, d) P b (pc + 3) L (.ref q :: st) M) : QW X (own, cc, nL, ret, u, d) P b pc L (.ref o :: st) M := by
  obtain ⟨p, l, e, s, m, args, below, meth, c, dC, dI, cyI, cyZ, ad⟩ := X
  intro ok H locs cells slots ls hP hS hl h1 h2
  obtain ⟨hx, hb, hml, hown, hts, hret, hlocks, hex, hK, hinj, henv, hst⟩ := id ok
  obtain ⟨r, hr, hk, hlk, hs1⟩ := hf
  refine va_get (Ts := qT) hx hb hts (q_cls ci r hr) hown hK hP o (qWd_get ho) hr k hk (hts _ hlk) (fun x hx => by rw [hs1] at hx; exact hx) (qFs_get hv) dd ?_
  exact kk ok H locs cells slots ls hP hS hl h1 h2
theorem q_puti {o idx ci k : Nat} (j : Int) {fs : List (Option Nat)} {z : Int} (dd : decode cc pc = .ok (.putfield idx, 3)) (hf : q_Fl own idx ci k) (ho : qLay[o]? = some (.inl (ci, fs))) (hv : fs[k]? = some none) (hfin : (((vwCl.getD ci (RX0, TX0, 1)).2.1 k).2.2.2) = false) (ht : qTy ci k = .int) (hj : (k : Int) = j) (kk : QW X (own, cc, nL, ret, u, d) P b (pc + 3) L st (qup M o j z)) : QW X (own, cc, nL, ret, u, d) P b pc L (.int (zI z) :: .ref o :: st) M := by
  obtain ⟨p, l, e, s, m, args, below, meth, c, dC, dI, cyI, cyZ, ad⟩ := X
  intro ok H locs cells slots ls hP hS hl h1 h2
  obtain ⟨hx, hb, hml, hown, hts, hret, hlocks, hex, hK, hinj, henv, hst⟩ := id ok
  subst hj
  obtain ⟨r, hr, hk, hlk, hs1⟩ := hf
  have hfin2 : (r.2.1 k).2.2.2 = false := by rw [List.getD_eq_getElem?_getD, hr] at hfin; exact hfin
  refine va_put (Ts := qT) (ty := qTy ci k) hx hb hts (q_cls ci r hr) (qTy ci) (q_clsT ci r hr).1 (q_clsT ci r hr).2 hown hK hP (qD_of hinj) hS o (qWd_get ho) hr k hk (hts _ hlk) (fun x hx => by rw [hs1] at hx; exact hx) hfin2 ((q_clsT ci r hr).1 k hk) (by rw [ht]; exact (rfl)) (by rw [ht]; exact (rfl)) (by rw [qFs_len]; exact (List.getElem?_eq_some_iff.mp hv).1) dd (fun H1 locs1 hP1 hD1 hS1 => ?_)
  have hP2 : va_P (dC, dI) vwCl (qWd cyI cyZ ad (qup M o k z)) H1 := by rw [← qWd_fld ho hv]; exact hP1
  exact kk ok H1 locs1 cells slots ls hP2 hS1 hl h1 h2
theorem q_putz {o idx ci k : Nat} (j : Int) {fs : List (Option Nat)} {z : Int} (dd : decode cc pc = .ok (.putfield idx, 3)) (hf : q_Fl own idx ci k) (ho : qLay[o]? = some (.inl (ci, fs))) (hv : fs[k]? = some none) (hfin : (((vwCl.getD ci (RX0, TX0, 1)).2.1 k).2.2.2) = false) (ht : qTy ci k = .boolean) (hz : z = 0 ∨ z = 1) (hj : (k : Int) = j) (kk : QW X (own, cc, nL, ret, u, d) P b (pc + 3) L st (qup M o j z)) : QW X (own, cc, nL, ret, u, d) P b pc L (.int (zI z) :: .ref o :: st) M := by
  obtain ⟨p, l, e, s, m, args, below, meth, c, dC, dI, cyI, cyZ, ad⟩ := X
  intro ok H locs cells slots ls hP hS hl h1 h2
  obtain ⟨hx, hb, hml, hown, hts, hret, hlocks, hex, hK, hinj, henv, hst⟩ := id ok
  subst hj
  obtain ⟨r, hr, hk, hlk, hs1⟩ := hf
  have hfin2 : (r.2.1 k).2.2.2 = false := by rw [List.getD_eq_getElem?_getD, hr] at hfin; exact hfin
  refine va_put (Ts := qT) (ty := qTy ci k) hx hb hts (q_cls ci r hr) (qTy ci) (q_clsT ci r hr).1 (q_clsT ci r hr).2 hown hK hP (qD_of hinj) hS o (qWd_get ho) hr k hk (hts _ hlk) (fun x hx => by rw [hs1] at hx; exact hx) hfin2 ((q_clsT ci r hr).1 k hk) (by rw [ht]; exact (by rcases hz with h | h <;> subst h <;> rfl)) (by rw [ht]; exact (by rcases hz with h | h <;> subst h <;> rfl)) (by rw [qFs_len]; exact (List.getElem?_eq_some_iff.mp hv).1) dd (fun H1 locs1 hP1 hD1 hS1 => ?_)
  have hP2 : va_P (dC, dI) vwCl (qWd cyI cyZ ad (qup M o k z)) H1 := by rw [← qWd_fld ho hv]; exact hP1
  exact kk ok H1 locs1 cells slots ls hP2 hS1 hl h1 h2
theorem q_alen {o n : Nat} {bb : Bool} (dd : decode cc pc = .ok (.arraylength, 1)) (ho : qLay[o]? = some (.inr (n, bb))) (kk : QW X (own, cc, nL, ret, u, d) P b (pc + 1) L (.int (zI (n : Int)) :: st) M) : QW X (own, cc, nL, ret, u, d) P b pc L (.ref o :: st) M := by
  obtain ⟨p, l, e, s, m, args, below, meth, c, dC, dI, cyI, cyZ, ad⟩ := X
  intro ok H locs cells slots ls hP hS hl h1 h2
  obtain ⟨hx, hb, hml, hown, hts, hret, hlocks, hex, hK, hinj, henv, hst⟩ := id ok
  cases bb with
  | false => exact va_alen hx hb hK hP o 0 (qWd_get ho) rfl rfl dd (kk ok H locs cells slots ls hP hS hl h1 h2)
  | true => exact va_alen hx hb hK hP o 1 (qWd_get ho) rfl rfl dd (kk ok H locs cells slots ls hP hS hl h1 h2)
theorem q_iald {o n : Nat} {i : Int} (dd : decode cc pc = .ok (.iaload, 1)) (ho : qLay[o]? = some (.inr (n, false))) (hi : 0 ≤ i ∧ i < n) (hn : n < 2147483648) (kk : QW X (own, cc, nL, ret, u, d) P b (pc + 1) L (.int (zI (M o i)) :: st) M) : QW X (own, cc, nL, ret, u, d) P b pc L (.int (zI i) :: .ref o :: st) M := by
  obtain ⟨p, l, e, s, m, args, below, meth, c, dC, dI, cyI, cyZ, ad⟩ := X
  intro ok H locs cells slots ls hP hS hl h1 h2
  obtain ⟨hx, hb, hml, hown, hts, hret, hlocks, hex, hK, hinj, henv, hst⟩ := id ok
  refine va_iald hx hb hK hP o 0 (qWd_get ho) rfl (zI_in hi.1 hi.2 hn) dd ?_
  have e : zI (M o (((zI i).toNatClampNeg : Nat) : Int)) = zI (M o i) := by rw [zI_clamp hi.1 (by omega), Int.toNat_of_nonneg hi.1]
  have k2 := kk ok H locs cells slots ls hP hS hl h1 h2
  rw [← e] at k2
  exact k2
theorem q_zald {o n : Nat} {i : Int} (dd : decode cc pc = .ok (.baload, 1)) (ho : qLay[o]? = some (.inr (n, true))) (hi : 0 ≤ i ∧ i < n) (hn : n < 2147483648) (kk : QW X (own, cc, nL, ret, u, d) P b (pc + 1) L (.int (zI (M o i)) :: st) M) : QW X (own, cc, nL, ret, u, d) P b pc L (.int (zI i) :: .ref o :: st) M := by
  obtain ⟨p, l, e, s, m, args, below, meth, c, dC, dI, cyI, cyZ, ad⟩ := X
  intro ok H locs cells slots ls hP hS hl h1 h2
  obtain ⟨hx, hb, hml, hown, hts, hret, hlocks, hex, hK, hinj, henv, hst⟩ := id ok
  refine va_zald hx hb hK hP o 1 (qWd_get ho) rfl (zI_in hi.1 hi.2 hn) dd ?_
  have e : zI (M o (((zI i).toNatClampNeg : Nat) : Int)) = zI (M o i) := by rw [zI_clamp hi.1 (by omega), Int.toNat_of_nonneg hi.1]
  have k2 := kk ok H locs cells slots ls hP hS hl h1 h2
  rw [← e] at k2
  exact k2
theorem q_iast {o n : Nat} {i z : Int} (dd : decode cc pc = .ok (.iastore, 1)) (ho : qLay[o]? = some (.inr (n, false))) (hi : 0 ≤ i ∧ i < n) (hn : n < 2147483648) (kk : QW X (own, cc, nL, ret, u, d) P b (pc + 1) L st (qup M o i z)) : QW X (own, cc, nL, ret, u, d) P b pc L (.int (zI z) :: .int (zI i) :: .ref o :: st) M := by
  obtain ⟨p, l, e, s, m, args, below, meth, c, dC, dI, cyI, cyZ, ad⟩ := X
  intro ok H locs cells slots ls hP hS hl h1 h2
  obtain ⟨hx, hb, hml, hown, hts, hret, hlocks, hex, hK, hinj, henv, hst⟩ := id ok
  refine va_iast hx hb hK hP (qD_of hinj) hS o 0 (qWd_get ho) rfl (zI_in hi.1 hi.2 hn) dd (fun H1 locs1 hP1 hD1 hS1 => ?_)
  have e := qWd_arr (cyI := cyI) (cyZ := cyZ) (ad := ad) (M := M) (z := z) ho hi.1 (by omega)
  rw [if_neg (by decide)] at e
  have hP2 : va_P (dC, dI) vwCl (qWd cyI cyZ ad (qup M o i z)) H1 := by rw [← e]; exact hP1
  exact kk ok H1 locs1 cells slots ls hP2 hS1 hl h1 h2
theorem q_zast {o n : Nat} {i z : Int} (dd : decode cc pc = .ok (.bastore, 1)) (ho : qLay[o]? = some (.inr (n, true))) (hi : 0 ≤ i ∧ i < n) (hn : n < 2147483648) (hz : z = 0 ∨ z = 1) (kk : QW X (own, cc, nL, ret, u, d) P b (pc + 1) L st (qup M o i z)) : QW X (own, cc, nL, ret, u, d) P b pc L (.int (zI z) :: .int (zI i) :: .ref o :: st) M := by
  obtain ⟨p, l, e, s, m, args, below, meth, c, dC, dI, cyI, cyZ, ad⟩ := X
  intro ok H locs cells slots ls hP hS hl h1 h2
  obtain ⟨hx, hb, hml, hown, hts, hret, hlocks, hex, hK, hinj, henv, hst⟩ := id ok
  refine va_zast hx hb hK hP (qD_of hinj) hS o 1 (qWd_get ho) rfl (zI_in hi.1 hi.2 hn) dd (fun H1 locs1 hP1 hD1 hS1 => ?_)
  have e := qWd_arr (cyI := cyI) (cyZ := cyZ) (ad := ad) (M := M) (z := z) ho hi.1 (by omega)
  rw [if_pos rfl] at e
  have en : vp_nar .boolean (zI z) = zI z := by rcases hz with h | h <;> subst h <;> rfl
  rw [en] at hP1
  have hP2 : va_P (dC, dI) vwCl (qWd cyI cyZ ad (qup M o i z)) H1 := by rw [← e]; exact hP1
  exact kk ok H1 locs1 cells slots ls hP2 hS1 hl h1 h2
theorem q_weak (L' : List (Option Value)) (hw : ∀ (i : Nat) (v : Value), L'[i]? = some (some v) → L[i]? = some (some v)) (k : QW X (own, cc, nL, ret, u, d) P b pc L' st M) : QW X (own, cc, nL, ret, u, d) P b pc L st M := by
  obtain ⟨p, l, e, s, m, args, below, meth, c, dC, dI, cyI, cyZ, ad⟩ := X
  intro ok H locs cells slots ls hP hS hl h1 h2
  obtain ⟨hx, hb, hml, hown, hts, hret, hlocks, hex, hK, hinj, henv, hst⟩ := id ok
  exact k ok H locs cells slots ls hP hS (qLs_weak hl hw) h1 h2
theorem q_less (b' : Nat) (hb' : b' ≤ b) (k : QW X (own, cc, nL, ret, u, d) P b' pc L st M) : QW X (own, cc, nL, ret, u, d) P b pc L st M := by
  obtain ⟨p, l, e, s, m, args, below, meth, c, dC, dI, cyI, cyZ, ad⟩ := X
  intro ok H locs cells slots ls hP hS hl h1 h2
  obtain ⟨hx, hb, hml, hown, hts, hret, hlocks, hex, hK, hinj, henv, hst⟩ := id ok
  exact k ok H locs cells slots ls hP hS hl (by omega) (by omega)
theorem q_loop {α : Type} (μ : α → Nat) (I : α → Prop) (Lf : α → List (Option Value)) (Mf : α → qM) (h : ∀ x, I x → (∀ y, I y → μ y < μ x → QW X (own, cc, nL, ret, u, d) P b pc (Lf y) st (Mf y)) → QW X (own, cc, nL, ret, u, d) P b pc (Lf x) st (Mf x)) : ∀ x, I x → QW X (own, cc, nL, ret, u, d) P b pc (Lf x) st (Mf x) := by
  have key : ∀ n x, I x → μ x < n → QW X (own, cc, nL, ret, u, d) P b pc (Lf x) st (Mf x) := by
    intro n
    induction n with
    | zero => intro x _ hn; omega
    | succ n ih => intro x hx hn; exact h x hx (fun y hy hlt => ih y hy (by omega))
  intro x hx
  exact key (μ x + 1) x hx (by omega)
theorem q_ireturn {z : Int} (dd : decode cc pc = .ok (.ireturn, 1)) (h : P.1 (some (.int (zI z))) M) : QW X (own, cc, nL, some .int, u, d) P b pc L [.int (zI z)] M := by
  obtain ⟨p, l, e, s, m, args, below, meth, c, dC, dI, cyI, cyZ, ad⟩ := X
  intro ok H locs cells slots ls hP hS hl h1 h2
  obtain ⟨hx, hb, hml, hown, hts, hret, hlocks, hex, hK, hinj, henv, hst⟩ := id ok
  refine W.widen (k := u) (n := 6 * u) (by omega) (by omega) (vx_ret ?_)
  refine W.iret hx hb hret  (fun t ht hW => ⟨⟨(some (.int (zI z))), M, rfl, h, by rw [ht]; exact hP⟩, hS.F ht⟩) hS.2.2 dd hlocks
theorem q_zreturn {z : Int} (hz : z = 0 ∨ z = 1) (dd : decode cc pc = .ok (.ireturn, 1)) (h : P.1 (some (.int (zI z))) M) : QW X (own, cc, nL, some .boolean, u, d) P b pc L [.int (zI z)] M := by
  obtain ⟨p, l, e, s, m, args, below, meth, c, dC, dI, cyI, cyZ, ad⟩ := X
  intro ok H locs cells slots ls hP hS hl h1 h2
  obtain ⟨hx, hb, hml, hown, hts, hret, hlocks, hex, hK, hinj, henv, hst⟩ := id ok
  refine W.widen (k := u) (n := 6 * u) (by omega) (by omega) (vx_ret ?_)
  refine W.zret hx hb hret (by rcases hz with h | h <;> subst h <;> rfl) (fun t ht hW => ⟨⟨(some (.int (zI z))), M, rfl, h, by rw [ht]; exact hP⟩, hS.F ht⟩) hS.2.2 dd hlocks
theorem q_return  (dd : decode cc pc = .ok (.return_, 1)) (h : P.1 none M) : QW X (own, cc, nL, none, u, d) P b pc L [] M := by
  obtain ⟨p, l, e, s, m, args, below, meth, c, dC, dI, cyI, cyZ, ad⟩ := X
  intro ok H locs cells slots ls hP hS hl h1 h2
  obtain ⟨hx, hb, hml, hown, hts, hret, hlocks, hex, hK, hinj, henv, hst⟩ := id ok
  refine W.widen (k := u) (n := 6 * u) (by omega) (by omega) (vx_ret ?_)
  refine W.vret hx hb hret  (fun t ht hW => ⟨⟨none, M, rfl, h, by rw [ht]; exact hP⟩, hS.F ht⟩) hS.2.2 dd hlocks
/-- behind a call: it goes on from each of its ends -/
def QK (X : qX) (J : qJ) (P : qP) (b pc : Nat) (L : List (Option Value)) (rest : List Value) (P' : qP) : Prop := (∀ v M', P'.1 v M' → QW X J P b pc L (v.toList ++ rest) M') ∧ ∀ E M', P'.2 E M' → P.2 E M'
set_option maxHeartbeats 2000000 in
theorem q_callV {idx n : Nat} {y : qY} {u' d' b' : Nat} {av : List Value} {o ci : Nat} {fs : List (Option Nat)} {rest : List Value} {P' : qP} (dd : decode cc pc = .ok (.invokevirtual idx, 3)) (hlk : q_Ml own idx y) (hm : q_Md y n false) (hC : qCt y u' d' (.ref o :: av) M P') (hn : av.length = n) (ho : qLay[o]? = some (.inl (ci, fs))) (hc : (vwCl.getD ci (RX0, TX0, 1)).1 = y.1.cls) (hu : b' + u' = b) (hd : d' < d) (hL : y.2.2.1 ≤ 21) (hr : (rest.map fun v => v.category).sum ≤ 8)
    (hk : QK X (own, cc, nL, ret, u, d) P b' (pc + 3) L rest P') : QW X (own, cc, nL, ret, u, d) P b pc L (av.reverse ++ .ref o :: rest) M := by
  obtain ⟨p, l, e, s, m, args, below, meth, c, dC, dI, cyI, cyZ, ad⟩ := X
  intro ok H locs cells slots ls hP hS hl h1 h2
  obtain ⟨hx, hb, hml, hown, hts, hret, hlocks, hex, hK, hinj, henv, hst⟩ := id ok
  have hC2 := hC l hst dC dI cyI cyZ ad H.size
  have hwq : ∀ w ∈ (Cond.code y.1 y.2.1 y.2.2.1 y.2.2.2 :: qT), w ∈ qT := fun w hw => (List.mem_cons.mp hw).elim (fun h => h ▸ hm.1) id
  have hw : ∀ w ∈ (Cond.code y.1 y.2.1 y.2.2.1 y.2.2.2 :: qT), ∀ (a' : Array Value) (U : State), s.WarmedH U.vm → w.before a' U = true := fun w hw a' U hW => word_at hW (good_of_word (List.mem_filter.mp (hwq w hw)).2) (hts w (hwq w hw))
  have hcb : CallB (qRm u d) s args (qNm own) idx y.1 y.2.1 y.2.2.1 y.2.2.2 (Cond.code y.1 y.2.1 y.2.2.1 y.2.2.2 :: qT) (qRm u' d') u' (6 * u') n :=
    ⟨rfl, rfl, by show d' + 6 + 1 ≤ d + 6; omega, by show 8 + (y.2.2.1 + 11) + (100 + 40 * d') ≤ 100 + 40 * d; omega, hw, List.mem_cons_self, hts _ hm.1, hts _ hm.2.1, hm.2.2.2.1, fun sig hs => by have := hm.2.2.2.2.1; rw [hs] at this; exact (Option.some.inj this).symm, hts _ hlk⟩
  have hpre : ∀ U : State, U.heap = H → s.WarmedH U.vm → qPc dC dI cyI cyZ ad H.size (.ref o :: av) M ((.ref o :: av).map (qTr ad)).toArray U := fun U hU hW =>
    ⟨rfl, by rw [hU], by rw [hU]; exact hP, va_K.moved hW.alike hK, hinj, by rw [hU]; exact henv.to hW hS.2.1 (qA_ge hS.1)⟩
  have hcats : (((rest.map (qTr ad)).map fun v => v.category).sum) ≤ 8 := by rw [qTr_cats]; exact hr
  have hrecv : ∃ cellB : Cell, H[ad o]? = some cellB ∧ cellB.vm.isStatics = false ∧ s.vm.findClass y.1.cls = some cellB.cls := by
    have hlt : ∃ r, vwCl[ci]? = some r := by
      obtain ⟨r, hr, -⟩ := hP o _ (qWd_get ho)
      exact ⟨r, hr⟩
    obtain ⟨r, hr⟩ := hlt
    have hc2 : r.1 = y.1.cls := by rw [List.getD_eq_getElem?_getD, hr] at hc; exact hc
    have := va_recv hK hP hr (qWd_get ho)
    rw [hc2] at this
    exact this
  have hrun := vx_runV (p := p) (l := l) (e := e) (R := qRm u d) (below := below) (meth := meth) (locs := locs) (cells := cells) (slots := slots) (own := qNm own) (C := y.1.cls) (b := ad o) (As := av.map (qTr ad)) (rest := rest.map (qTr ad)) (g := F0 m pc ls ((av.reverse ++ .ref o :: rest).map (qTr ad))) (Ts := qT) (cc := cc) (nL := nL) ⟨hx, hb, hml, hown, hts⟩ hC2
    ⟨hcb, hts _ hm.2.2.1.1, hts _ hm.2.2.1.2⟩ ⟨qPc_blind, hrecv, hpre⟩ rfl (by simpa using hn) hl.1 (by simp [qTr]) (lv_room hcats) dd ⟨by show cells + u' ≤ u; omega, by show slots + 6 * u' ≤ 6 * u; omega⟩
  intro T hT XX
  rcases hrun T hT XX with ⟨v, st₀, t, T', LL, h0, X', hLL, e1, e2, ⟨⟨v', M', hv, hp, hPw⟩, hF⟩, stp⟩ | ⟨q, st₀, t, T', LL, E, ce, h0, X', hLL, e1, e2, ⟨M', hp, hPw, hF⟩, hce, hcv, hcl, stp⟩
  · obtain ⟨k1, k2, k3⟩ := vx_keep h0 e1 hS (fun q _ => qA_ge hS.1 q) (fun q h => qA_ge hS.1 q h) hLL hF
    have hv2 : v = v'.map (qTr ad) := by cases hv; rfl
    subst hv2
    obtain ⟨t2, a1, b1⟩ := hk.1 v' M' hp ok T'.heap (locs ++ LL) (cells + u') (slots + 6 * u') ls (by rw [e1]; exact hPw) k3 hl (by omega) (by omega) T' rfl X'
    refine ⟨t2, stp t2 ?_, b1⟩
    have : (v'.map (qTr ad)).toList ++ rest.map (qTr ad) = (v'.toList ++ rest).map (qTr ad) := by cases v' <;> simp
    rw [this]
    exact a1
  · obtain ⟨k1, k2, k3⟩ := vx_keep h0 e1 hS (fun q _ => qA_ge hS.1 q) (fun q h => qA_ge hS.1 q h) hLL hF
    have ho := vx_out (p := p) (l := l) (e := e) (R := qRm u d) (s := s) (m := m) (args := args) (below := below) (meth := meth) (c := c) (H := T'.heap) (locs := locs ++ LL) (cells := cells + u') (slots := slots + 6 * u') (pc := pc) (ls := ls) (rest := rest.map (qTr ad)) (q := q) (mc := u) (ms := 6 * u) (Qc := qQc dC dI cyI cyZ ad s.heap.size P) (XC := qXC dC dI cyI cyZ ad s.heap.size P) (free := qA ad s.heap.size)
      (fun x hx => (hex x hx).elim) hlocks (by rw [e1]; exact hce) hcv hcl (fun t' ht' _ => ⟨M', hk.2 E M' hp, by rw [ht', e1]; exact hPw, k3.F ht'⟩) k3.2.2 (by omega) (by omega)
    obtain ⟨t2, a1, b1⟩ := ho T' rfl X'
    exact ⟨t2, stp.trans a1, b1⟩
set_option maxHeartbeats 2000000 in
theorem q_callS {idx n : Nat} {y : qY} {u' d' b' : Nat} {av : List Value} {rest : List Value} {P' : qP} (dd : decode cc pc = .ok (.invokestatic idx, 3)) (hlk : q_Ml own idx y) (hm : q_Md y n true) (hC : qCt y u' d' av M P') (hn : av.length = n) (hu : b' + u' = b) (hd : d' < d) (hL : y.2.2.1 ≤ 21) (hr : (rest.map fun v => v.category).sum ≤ 8)
    (hk : QK X (own, cc, nL, ret, u, d) P b' (pc + 3) L rest P') : QW X (own, cc, nL, ret, u, d) P b pc L (av.reverse ++ rest) M := by
  obtain ⟨p, l, e, s, m, args, below, meth, c, dC, dI, cyI, cyZ, ad⟩ := X
  intro ok H locs cells slots ls hP hS hl h1 h2
  obtain ⟨hx, hb, hml, hown, hts, hret, hlocks, hex, hK, hinj, henv, hst⟩ := id ok
  have hC2 := hC l hst dC dI cyI cyZ ad H.size
  have hwq : ∀ w ∈ (Cond.code y.1 y.2.1 y.2.2.1 y.2.2.2 :: qT), w ∈ qT := fun w hw => (List.mem_cons.mp hw).elim (fun h => h ▸ hm.1) id
  have hw : ∀ w ∈ (Cond.code y.1 y.2.1 y.2.2.1 y.2.2.2 :: qT), ∀ (a' : Array Value) (U : State), s.WarmedH U.vm → w.before a' U = true := fun w hw a' U hW => word_at hW (good_of_word (List.mem_filter.mp (hwq w hw)).2) (hts w (hwq w hw))
  have hcb : CallB (qRm u d) s args (qNm own) idx y.1 y.2.1 y.2.2.1 y.2.2.2 (Cond.code y.1 y.2.1 y.2.2.1 y.2.2.2 :: qT) (qRm u' d') u' (6 * u') n :=
    ⟨rfl, rfl, by show d' + 6 + 1 ≤ d + 6; omega, by show 8 + (y.2.2.1 + 11) + (100 + 40 * d') ≤ 100 + 40 * d; omega, hw, List.mem_cons_self, hts _ hm.1, hts _ hm.2.1, hm.2.2.2.1, fun sig hs => by have := hm.2.2.2.2.1; rw [hs] at this; exact (Option.some.inj this).symm, hts _ hlk⟩
  have hpre : ∀ U : State, U.heap = H → s.WarmedH U.vm → qPc dC dI cyI cyZ ad H.size av M ((av).map (qTr ad)).toArray U := fun U hU hW =>
    ⟨rfl, by rw [hU], by rw [hU]; exact hP, va_K.moved hW.alike hK, hinj, by rw [hU]; exact henv.to hW hS.2.1 (qA_ge hS.1)⟩
  have hcats : (((rest.map (qTr ad)).map fun v => v.category).sum) ≤ 8 := by rw [qTr_cats]; exact hr
  have hrun := vx_runS (p := p) (l := l) (e := e) (R := qRm u d) (below := below) (meth := meth) (locs := locs) (cells := cells) (slots := slots) (own := qNm own) (As := av.map (qTr ad)) (rest := rest.map (qTr ad)) (g := F0 m pc ls ((av.reverse ++ rest).map (qTr ad))) (Ts := qT) (cc := cc) (nL := nL) ⟨hx, hb, hml, hown, hts⟩ hC2
    ⟨hcb, hts _ hm.2.2.1⟩ ⟨qPc_blind, hpre⟩ rfl (by simpa using hn) hl.1 (by simp) (lv_room hcats) dd ⟨by show cells + u' ≤ u; omega, by show slots + 6 * u' ≤ 6 * u; omega⟩
  intro T hT XX
  rcases hrun T hT XX with ⟨v, st₀, t, T', LL, h0, X', hLL, e1, e2, ⟨⟨v', M', hv, hp, hPw⟩, hF⟩, stp⟩ | ⟨q, st₀, t, T', LL, E, ce, h0, X', hLL, e1, e2, ⟨M', hp, hPw, hF⟩, hce, hcv, hcl, stp⟩
  · obtain ⟨k1, k2, k3⟩ := vx_keep h0 e1 hS (fun q _ => qA_ge hS.1 q) (fun q h => qA_ge hS.1 q h) hLL hF
    have hv2 : v = v'.map (qTr ad) := by cases hv; rfl
    subst hv2
    obtain ⟨t2, a1, b1⟩ := hk.1 v' M' hp ok T'.heap (locs ++ LL) (cells + u') (slots + 6 * u') ls (by rw [e1]; exact hPw) k3 hl (by omega) (by omega) T' rfl X'
    refine ⟨t2, stp t2 ?_, b1⟩
    have : (v'.map (qTr ad)).toList ++ rest.map (qTr ad) = (v'.toList ++ rest).map (qTr ad) := by cases v' <;> simp
    rw [this]
    exact a1
  · obtain ⟨k1, k2, k3⟩ := vx_keep h0 e1 hS (fun q _ => qA_ge hS.1 q) (fun q h => qA_ge hS.1 q h) hLL hF
    have ho := vx_out (p := p) (l := l) (e := e) (R := qRm u d) (s := s) (m := m) (args := args) (below := below) (meth := meth) (c := c) (H := T'.heap) (locs := locs ++ LL) (cells := cells + u') (slots := slots + 6 * u') (pc := pc) (ls := ls) (rest := rest.map (qTr ad)) (q := q) (mc := u) (ms := 6 * u) (Qc := qQc dC dI cyI cyZ ad s.heap.size P) (XC := qXC dC dI cyI cyZ ad s.heap.size P) (free := qA ad s.heap.size)
      (fun x hx => (hex x hx).elim) hlocks (by rw [e1]; exact hce) hcv hcl (fun t' ht' _ => ⟨M', hk.2 E M' hp, by rw [ht', e1]; exact hPw, k3.F ht'⟩) k3.2.2 (by omega) (by omega)
    obtain ⟨t2, a1, b1⟩ := ho T' rfl X'
    exact ⟨t2, stp.trans a1, b1⟩
set_option maxHeartbeats 2000000 in
theorem q_callN {idx n : Nat} {y : qY} {u' d' b' : Nat} {av : List Value} {rest : List Value} {P' : qP} (dd : decode cc pc = .ok (.invokestatic idx, 3)) (hlk : (own, idx, y.1) ∈ qNests) (hm : q_Md y n true) (hC : qCt y u' d' av M P') (hn : av.length = n) (hu : b' + u' = b) (hd : d' < d) (hL : y.2.2.1 ≤ 21) (hr : (rest.map fun v => v.category).sum ≤ 8)
    (hk : QK X (own, cc, nL, ret, u, d) P b' (pc + 3) L rest P') : QW X (own, cc, nL, ret, u, d) P b pc L (av.reverse ++ rest) M := by
  obtain ⟨p, l, e, s, m, args, below, meth, c, dC, dI, cyI, cyZ, ad⟩ := X
  intro ok H locs cells slots ls hP hS hl h1 h2
  obtain ⟨hx, hb, hml, hown, hts, hret, hlocks, hex, hK, hinj, henv, hst⟩ := id ok
  have hC2 := hC l hst dC dI cyI cyZ ad H.size
  have hwq : ∀ w ∈ (Cond.code y.1 y.2.1 y.2.2.1 y.2.2.2 :: qT), w ∈ qT := fun w hw => (List.mem_cons.mp hw).elim (fun h => h ▸ hm.1) id
  have hw : ∀ w ∈ (Cond.code y.1 y.2.1 y.2.2.1 y.2.2.2 :: qT), ∀ (a' : Array Value) (U : State), s.WarmedH U.vm → w.before a' U = true := fun w hw a' U hW => word_at hW (good_of_word (List.mem_filter.mp (hwq w hw)).2) (hts w (hwq w hw))
  have hcb : va_CN (qRm u d) s args (qNm own) idx y.1 (qNm 7) y.2.1 y.2.2.1 y.2.2.2 (Cond.code y.1 y.2.1 y.2.2.1 y.2.2.2 :: qT) (qRm u' d') u' (6 * u') n :=
    ⟨⟨rfl, rfl, by show d' + 6 + 1 ≤ d + 6; omega, by show 8 + (y.2.2.1 + 11) + (100 + 40 * d') ≤ 100 + 40 * d; omega, hw, List.mem_cons_self⟩, hts _ hm.1, hts _ hm.2.1, hm.2.2.2.1, fun sig hs => by have := hm.2.2.2.2.1; rw [hs] at this; exact (Option.some.inj this).symm, (henv.2.2.2.2.2.2.2.1 _ hlk).use rfl⟩
  have hpre : ∀ U : State, U.heap = H → s.WarmedH U.vm → qPc dC dI cyI cyZ ad H.size av M ((av).map (qTr ad)).toArray U := fun U hU hW =>
    ⟨rfl, by rw [hU], by rw [hU]; exact hP, va_K.moved hW.alike hK, hinj, by rw [hU]; exact henv.to hW hS.2.1 (qA_ge hS.1)⟩
  have hcats : (((rest.map (qTr ad)).map fun v => v.category).sum) ≤ 8 := by rw [qTr_cats]; exact hr
  have hrun := vx_runSN (p := p) (l := l) (e := e) (R := qRm u d) (below := below) (meth := meth) (locs := locs) (cells := cells) (slots := slots) (own := qNm own) (As := av.map (qTr ad)) (rest := rest.map (qTr ad)) (g := F0 m pc ls ((av.reverse ++ rest).map (qTr ad))) (Ts := qT) (cc := cc) (nL := nL) ⟨hx, hb, hml, hown, hts⟩ hC2
    ⟨hcb, hts _ hm.2.2.1, trivial⟩ ⟨qPc_blind, hpre⟩ rfl (by simpa using hn) hl.1 (by simp) (lv_room hcats) dd ⟨by show cells + u' ≤ u; omega, by show slots + 6 * u' ≤ 6 * u; omega⟩
  intro T hT XX
  rcases hrun T hT XX with ⟨v, st₀, t, T', LL, h0, X', hLL, e1, e2, ⟨⟨v', M', hv, hp, hPw⟩, hF⟩, stp⟩ | ⟨q, st₀, t, T', LL, E, ce, h0, X', hLL, e1, e2, ⟨M', hp, hPw, hF⟩, hce, hcv, hcl, stp⟩
  · obtain ⟨k1, k2, k3⟩ := vx_keep h0 e1 hS (fun q _ => qA_ge hS.1 q) (fun q h => qA_ge hS.1 q h) hLL hF
    have hv2 : v = v'.map (qTr ad) := by cases hv; rfl
    subst hv2
    obtain ⟨t2, a1, b1⟩ := hk.1 v' M' hp ok T'.heap (locs ++ LL) (cells + u') (slots + 6 * u') ls (by rw [e1]; exact hPw) k3 hl (by omega) (by omega) T' rfl X'
    refine ⟨t2, stp t2 ?_, b1⟩
    have : (v'.map (qTr ad)).toList ++ rest.map (qTr ad) = (v'.toList ++ rest).map (qTr ad) := by cases v' <;> simp
    rw [this]
    exact a1
  · obtain ⟨k1, k2, k3⟩ := vx_keep h0 e1 hS (fun q _ => qA_ge hS.1 q) (fun q h => qA_ge hS.1 q h) hLL hF
    have ho := vx_out (p := p) (l := l) (e := e) (R := qRm u d) (s := s) (m := m) (args := args) (below := below) (meth := meth) (c := c) (H := T'.heap) (locs := locs ++ LL) (cells := cells + u') (slots := slots + 6 * u') (pc := pc) (ls := ls) (rest := rest.map (qTr ad)) (q := q) (mc := u) (ms := 6 * u) (Qc := qQc dC dI cyI cyZ ad s.heap.size P) (XC := qXC dC dI cyI cyZ ad s.heap.size P) (free := qA ad s.heap.size)
      (fun x hx => (hex x hx).elim) hlocks (by rw [e1]; exact hce) hcv hcl (fun t' ht' _ => ⟨M', hk.2 E M' hp, by rw [ht', e1]; exact hPw, k3.F ht'⟩) k3.2.2 (by omega) (by omega)
    obtain ⟨t2, a1, b1⟩ := ho T' rfl X'
    exact ⟨t2, stp.trans a1, b1⟩
end QR

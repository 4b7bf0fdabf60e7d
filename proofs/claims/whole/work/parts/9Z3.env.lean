/-! What the start gives: the texts, the statics, the classes. -/
def zF : List Cond := flatC (Jvm.Cond.and given_1 narrow_1)
def zS : List (Nat × Nat × String) := qXs ++ qWs.map (fun q => (q.1, q.2.1, q.2.2.1))
def zk : List Nat := [64, 84, 92, 97, 99, 101, 106]
def zm : List Nat := [273, 246, 255, 260, 262, 264, 269]
def zt : List String := ["level", "map", "fill", "clear", "flip", "or", "tree"]
def zTm (i : Nat) : Term := .string (qNm 3) (zk.getD i 0)
def zTn (i : Nat) : Term := .string (qNm 8) (zm.getD i 0)
def zVl (i : Nat) : Term := .field (zTm i) "java/lang/String" "value" "[B"
set_option maxRecDepth 100000 in
theorem z_sr : zS.all (fun q => decide (Cond.stringRef (qNm q.1) q.2.1 q.2.2 ∈ lw_tbl)) = true := by decide +kernel
set_option maxRecDepth 100000 in
theorem z_ex : zS.all (fun q => decide (Cond.exactly (.string (qNm q.1) q.2.1) "java/lang/String" ∈ zF)) = true := by decide +kernel
set_option maxRecDepth 100000 in
theorem z_w1 : (List.range 7).all (fun i => decide (Cond.exactly (zTm i) "java/lang/String" ∈ zF) && decide (Cond.eq (.field (zTm i) "java/lang/String" "coder" "B") (.int 0) ∈ zF) && decide (Cond.arrayOf (zVl i) .byte ∈ zF) && decide (Cond.eq (.length (zVl i)) (.int (Int32.ofNat (qWl.getD i 0))) ∈ zF) && decide (Cond.eq (zTm i) (zTn i) ∈ zF) && decide (Cond.exactly (zTn i) "java/lang/String" ∈ zF)) = true := by decide +kernel
set_option maxRecDepth 100000 in
theorem z_w2 : (List.range 7).all (fun i => (List.range (qWl.getD i 0)).all (fun j => decide (Cond.eq (.elem (zVl i) (.int (Int32.ofNat j))) (.int ((qWb.getD i []).getD j 0)) ∈ zF))) = true := by decide +kernel
set_option maxRecDepth 100000 in
theorem z_w3 : (List.range 7).all (fun i => decide (Cond.stringRef (qNm 3) (zk.getD i 0) (zt.getD i "") ∈ lw_tbl) && decide (Cond.stringRef (qNm 8) (zm.getD i 0) (zt.getD i "") ∈ lw_tbl)) = true := by decide +kernel
set_option maxRecDepth 100000 in
theorem z_nest : qNests.all (fun q => decide (Cond.methodLinkNest (qNm q.1) q.2.1 q.2.2 (qNm 7) ∈ lw_tbl)) = true := by decide +kernel
set_option maxRecDepth 100000 in
theorem z_cast : qCs.all (fun q => decide (Cond.castable q q ∈ lw_tbl)) = true := by decide +kernel
set_option maxRecDepth 100000 in
theorem z_decl : qDs.all (fun q => decide (Cond.declares ⟨q, "<init>", "(Ljava/lang/String;)V"⟩ ∈ lw_tbl)) = true := by decide +kernel
set_option maxRecDepth 100000 in
theorem z_nc : qCs.all (fun x => qCs.all (fun y => decide (x = y) || decide (Cond.not (.castable x y) ∈ zF))) = true := by decide +kernel
theorem z_apart : ∀ i, i < 7 → ∀ j, j < 7 → i ≠ j → Int32.ofNat (qWl.getD i 0) ≠ Int32.ofNat (qWl.getD j 0) ∨ (qWb.getD i []).getD 0 0 ≠ (qWb.getD j []).getD 0 0 ∨ (qWb.getD i []).getD 1 0 ≠ (qWb.getD j []).getD 1 0 := by decide +kernel
theorem z_len : ∀ i, i < 7 → 2 ≤ qWl.getD i 0 ∧ qWl.getD i 0 < 2147483648 := by decide +kernel
theorem z_OFu {o n d : String} {v v' : Value} {a : Nat} {A : Nat → Prop} {U : State} {H : Heap} (h : va_OF o n d v a A U H) (h' : va_OF o n d v' a A U H) : v = v' := by
  obtain ⟨cf, k, fi, f, cell, h1, -, h3, -, h5, -⟩ := h
  obtain ⟨cf', k', fi', f', cell', g1, -, g3, -, g5, -⟩ := h'
  rw [h1] at g1
  cases g1
  rw [h3] at g3
  cases g3
  rw [h5] at g5
  exact Option.some.inj g5
theorem z_Tu {ty : FieldType} {t N N' : Nat} {f f' : Nat → Value} {A : Nat → Prop} {U : State} {H : Heap} (h : va_T ty t N f A U H) (h' : va_T ty t N' f' A U H) : Int32.ofNat N = Int32.ofNat N' ∧ ∀ j, j < N → j < N' → f j = f' j := by
  obtain ⟨cell, h1, -, -, -, h5, h6, -⟩ := h
  obtain ⟨cell', g1, -, -, -, g5, g6, -⟩ := h'
  rw [h1] at g1
  cases g1
  refine ⟨h5.symm.trans g5, fun j j1 j2 => ?_⟩
  have e := (h6 j j1).symm.trans (g6 j j2)
  exact Option.some.inj e
theorem z_words {s : State} {args : Array Value} {A : Nat → Prop} (fl : ∀ w ∈ zF, w.before args s = true) (hA : ∀ a : Nat, a < s.heap.size → ¬ A a) : ∃ sk sv : Nat → Nat, vk_S 7 qWl qWb sk sv A s s.heap ∧ ∀ i, i < 7 → (zTm i).eval args s none [] s = some (.ref (sk i)) ∧ (zTn i).eval args s none [] s = some (.ref (sk i)) := by
  have w1 : ∀ i, i < 7 → Cond.exactly (zTm i) "java/lang/String" ∈ zF ∧ Cond.eq (.field (zTm i) "java/lang/String" "coder" "B") (.int 0) ∈ zF ∧ Cond.arrayOf (zVl i) .byte ∈ zF ∧ Cond.eq (.length (zVl i)) (.int (Int32.ofNat (qWl.getD i 0))) ∈ zF ∧ Cond.eq (zTm i) (zTn i) ∈ zF ∧ Cond.exactly (zTn i) "java/lang/String" ∈ zF := by
    intro i hi
    have hq := List.all_eq_true.mp z_w1 i (List.mem_range.mpr hi)
    simp only [Bool.and_eq_true, decide_eq_true_eq] at hq
    exact ⟨hq.1.1.1.1.1, hq.1.1.1.1.2, hq.1.1.1.2, hq.1.1.2, hq.1.2, hq.2⟩
  have w2 : ∀ i, i < 7 → ∀ j, j < qWl.getD i 0 → Cond.eq (.elem (zVl i) (.int (Int32.ofNat j))) (.int ((qWb.getD i []).getD j 0)) ∈ zF := by
    intro i hi j hj
    have hq := List.all_eq_true.mp (List.all_eq_true.mp z_w2 i (List.mem_range.mpr hi)) j (List.mem_range.mpr hj)
    exact of_decide_eq_true hq
  have h0 : ∀ i : Nat, ∃ q : Nat × Nat, i < 7 → ((zTm i).eval args s none [] s = some (.ref q.1) ∧ (zTn i).eval args s none [] s = some (.ref q.1)) ∧ va_O "java/lang/String" q.1 A s s.heap ∧ va_OF "java/lang/String" "coder" "B" (.int 0) q.1 A s s.heap ∧ va_OF "java/lang/String" "value" "[B" (.ref q.2) q.1 A s s.heap ∧ va_T .byte q.2 (qWl.getD i 0) (fun j => .int ((qWb.getD i []).getD j 0)) A s s.heap := by
    intro i
    by_cases hi : i < 7
    · obtain ⟨e1, e2, e3, e4, e5, e6⟩ := w1 i hi
      obtain ⟨aK, aV, ⟨hS1, -⟩, hEv⟩ := vk_Sof (args := args) (s := s) (N := 1) (tm := fun _ => zTm i) (len := [qWl.getD i 0]) (byt := [qWb.getD i []]) (A := A)
        (fun k hk => by have : k = 0 := by omega
                        subst this; exact (z_len i hi).2)
        (fun k hk => fl _ e1) (fun k hk => fl _ e2) (fun k hk => fl _ e3)
        (fun k hk => by have : k = 0 := by omega
                        subst this; exact fl _ e4)
        (fun k hk j hj => by have : k = 0 := by omega
                             subst this; exact fl _ (w2 i hi j hj))
        (fun k k' h1 h2 h3 => absurd (by omega) h3) hA
      obtain ⟨a, c, cell, kk, q1, -⟩ := Cond.exactly_spec (args := args) (first := s) (o := none) (s := s) (idx := []) (t := zTn i) (cls := "java/lang/String") (fl _ e6)
      have hEv0 : (zTm i).eval args s none [] s = some (.ref (aK 0)) := hEv 0 (by omega)
      have he : (Cond.eq (zTm i) (zTn i)).before args s = true := fl _ e5
      have hae : aK 0 = a := by
        simp [Cond.before, Cond.holds, Cond.value, hEv0, q1] at he
        exact he
      refine ⟨(aK 0, aV 0), fun _ => ⟨⟨hEv0, by rw [hae]; exact q1⟩, ?_⟩⟩
      exact hS1 0 (by omega)
    · exact ⟨(0, 0), fun h => absurd h hi⟩
  obtain ⟨ad, had⟩ := Classical.axiomOfChoice h0
  refine ⟨fun i => (ad i).1, fun i => (ad i).2, ⟨fun i hi => (had i hi).2, fun i j hi hj e => ?_⟩, fun i hi => (had i hi).1⟩
  by_cases hij : i = j
  · exact hij
  · exfalso
    have e1 : (ad i).1 = (ad j).1 := e
    obtain ⟨-, -, -, f1, f2⟩ := had i hi
    obtain ⟨-, -, -, g1, g2⟩ := had j hj
    rw [← e1] at g1
    have ev := z_OFu f1 g1
    have ev2 : (ad i).2 = (ad j).2 := by
      injection ev
    rw [← ev2] at g2
    obtain ⟨d1, d2⟩ := z_Tu f2 g2
    have l1 := (z_len i hi).1
    have l2 := (z_len j hj).1
    have c0 := d2 0 (by omega) (by omega)
    have c1 := d2 1 (by omega) (by omega)
    have c0' : (qWb.getD i []).getD 0 0 = (qWb.getD j []).getD 0 0 := by injection c0
    have c1' : (qWb.getD i []).getD 1 0 = (qWb.getD j []).getD 1 0 := by injection c1
    rcases z_apart i hi j hj hij with z | z | z
    · exact z d1
    · exact z c0'
    · exact z c1'
theorem z_env {s : State} {args : Array Value} {A : Nat → Prop} (hts : ∀ w ∈ lw_tbl, w.before args s = true) (hgv : (Jvm.Cond.and given_1 narrow_1).before args s = true) (hA : ∀ a : Nat, a < s.heap.size → ¬ A a) :
    ∃ (sk sv : Nat → Nat) (fm : Nat), ∀ ad : Nat → Nat, (∀ i, i < 7 → ad (100 + i) = sk i) → (∀ i, i < 7 → ad (110 + i) = sv i) → ad 120 = fm → qEnv ad A s s.heap := by
  have fl : ∀ w ∈ zF, w.before args s = true := flat_of_before _ hgv
  obtain ⟨sk, sv, hS, hEv⟩ := z_words fl hA
  have hF : va_Zq "jdk/internal/util/Preconditions" "SIOOBE_FORMATTER" "Ljava/util/function/BiFunction;" A s s.heap := va_Zqof (hts (.laysStatic "jdk/internal/util/Preconditions" "SIOOBE_FORMATTER" "Ljava/util/function/BiFunction;") (by decide +kernel)) (hts (.initialized "jdk/internal/util/Preconditions") (by decide +kernel)) (fl (.isRef (.static "jdk/internal/util/Preconditions" "SIOOBE_FORMATTER" "Ljava/util/function/BiFunction;")) (by decide +kernel)) hA
  have h1 : vx_Zq Bundle.tN "UNASSIGNED_STACK" Bundle.steD A s s.heap := vx_Zqof (hts (.laysStatic Bundle.tN "UNASSIGNED_STACK" Bundle.steD) (by decide +kernel)) (hts (.initialized Bundle.tN) (by decide +kernel)) (fl (.isRef (.static Bundle.tN "UNASSIGNED_STACK" Bundle.steD)) (by decide +kernel)) hA
  have h2 : vx_Zq Bundle.tN "SUPPRESSED_SENTINEL" Bundle.listD A s s.heap := vx_Zqof (hts (.laysStatic Bundle.tN "SUPPRESSED_SENTINEL" Bundle.listD) (by decide +kernel)) (hts (.initialized Bundle.tN) (by decide +kernel)) (fl (.isRef (.static Bundle.tN "SUPPRESSED_SENTINEL" Bundle.listD)) (by decide +kernel)) hA
  have h6 : va_Z "java/lang/String" "COMPACT_STRINGS" "Z" (.int 1) A s s.heap := va_Zof (hts (.laysStatic "java/lang/String" "COMPACT_STRINGS" "Z") (by decide +kernel)) (hts (.initialized "java/lang/String") (by decide +kernel)) (va_eqt (fl (.eq (.static "java/lang/String" "COMPACT_STRINGS" "Z") (.int 1)) (by decide +kernel))) hA
  have h3 : ∀ q ∈ qXs, ∃ sa, vk_R (qNm q.1) q.2.1 q.2.2 sa s := by
    intro q hq
    have hq2 : q ∈ zS := List.mem_append_left _ hq
    have e1 := hts _ (of_decide_eq_true (List.all_eq_true.mp z_sr q hq2))
    have e2 := fl _ (of_decide_eq_true (List.all_eq_true.mp z_ex q hq2))
    obtain ⟨a, c, cell, kk, q1, -⟩ := Cond.exactly_spec (args := args) (first := s) (o := none) (s := s) (idx := []) e2
    exact ⟨a, vk_R.of e1 q1⟩
  have h8 : ∀ q ∈ qNests, va_Nw (.methodLinkNest (qNm q.1) q.2.1 q.2.2 (qNm 7)) s := fun q hq => va_Nw.of rfl (hts _ (of_decide_eq_true (List.all_eq_true.mp z_nest q hq)))
  have h9 : ∀ q ∈ qCs, va_Nw (.castable q q) s := fun q hq => va_Nw.of rfl (hts _ (of_decide_eq_true (List.all_eq_true.mp z_cast q hq)))
  have h10 : ∀ q ∈ qDs, va_Nw (.declares ⟨q, "<init>", "(Ljava/lang/String;)V"⟩) s := fun q hq => va_Nw.of rfl (hts _ (of_decide_eq_true (List.all_eq_true.mp z_decl q hq)))
  have hw3 : ∀ i, i < 7 → Cond.stringRef (qNm 3) (zk.getD i 0) (zt.getD i "") ∈ lw_tbl ∧ Cond.stringRef (qNm 8) (zm.getD i 0) (zt.getD i "") ∈ lw_tbl := by
    intro i hi
    have hq := List.all_eq_true.mp z_w3 i (List.mem_range.mpr hi)
    simp only [Bool.and_eq_true, decide_eq_true_eq] at hq
    exact hq
  have key : ∃ fm : Nat, va_Z "jdk/internal/util/Preconditions" "SIOOBE_FORMATTER" "Ljava/util/function/BiFunction;" .null A s s.heap ∨ va_Z "jdk/internal/util/Preconditions" "SIOOBE_FORMATTER" "Ljava/util/function/BiFunction;" (.ref fm) A s s.heap := by
    rcases hF with z | ⟨t, z⟩
    · exact ⟨0, Or.inl z⟩
    · exact ⟨t, Or.inr z⟩
  obtain ⟨fm, h7⟩ := key
  refine ⟨sk, sv, fm, fun ad a1 a2 a3 => ?_⟩
  have p3 : ∀ i, i < 7 → vk_R (qNm 3) (zk.getD i 0) (zt.getD i "") (ad (100 + i)) s := fun i hi => by
    rw [a1 i hi]
    exact vk_R.of (hts _ (hw3 i hi).1) (hEv i hi).1
  have p8 : ∀ i, i < 7 → vk_R (qNm 8) (zm.getD i 0) (zt.getD i "") (ad (100 + i)) s := fun i hi => by
    rw [a1 i hi]
    exact vk_R.of (hts _ (hw3 i hi).2) (hEv i hi).2
  have h4 : ∀ q ∈ qWs, vk_R (qNm q.1) q.2.1 q.2.2.1 (ad q.2.2.2) s := by
    intro q hq
    simp only [qWs, List.mem_cons, List.not_mem_nil, or_false] at hq
    rcases hq with rfl | rfl | rfl | rfl | rfl | rfl | rfl | rfl | rfl | rfl | rfl | rfl | rfl | rfl
    · exact p3 0 (by omega)
    · exact p3 1 (by omega)
    · exact p3 2 (by omega)
    · exact p3 3 (by omega)
    · exact p3 4 (by omega)
    · exact p3 5 (by omega)
    · exact p3 6 (by omega)
    · exact p8 0 (by omega)
    · exact p8 1 (by omega)
    · exact p8 2 (by omega)
    · exact p8 3 (by omega)
    · exact p8 4 (by omega)
    · exact p8 5 (by omega)
    · exact p8 6 (by omega)
  have h5 : vk_S 7 qWl qWb (fun i => ad (100 + i)) (fun i => ad (110 + i)) A s s.heap := by
    refine ⟨fun i hi => ?_, fun i j hi hj e => ?_⟩
    · have := hS.1 i hi
      show va_O "java/lang/String" (ad (100 + i)) A s s.heap ∧ va_OF "java/lang/String" "coder" "B" (.int 0) (ad (100 + i)) A s s.heap ∧ va_OF "java/lang/String" "value" "[B" (.ref (ad (110 + i))) (ad (100 + i)) A s s.heap ∧ va_T .byte (ad (110 + i)) (qWl.getD i 0) (fun j => .int ((qWb.getD i []).getD j 0)) A s s.heap
      rw [a1 i hi, a2 i hi]
      exact this
    · exact hS.2 i j hi hj (by rw [← a1 i hi, ← a1 j hj]; exact e)
  have h7' : va_Z "jdk/internal/util/Preconditions" "SIOOBE_FORMATTER" "Ljava/util/function/BiFunction;" .null A s s.heap ∨ va_Z "jdk/internal/util/Preconditions" "SIOOBE_FORMATTER" "Ljava/util/function/BiFunction;" (.ref (ad 120)) A s s.heap := by
    rw [a3]
    exact h7
  exact ⟨h1, h2, h3, h4, h5, h6, h7', h8, h9, h10⟩
theorem z_lenv {s : State} {args : Array Value} (hgv : (Jvm.Cond.and given_1 narrow_1).before args s = true) : lEnv s := by
  have fl : ∀ w ∈ zF, w.before args s = true := flat_of_before _ hgv
  intro x hx y hy hxy
  have hq := List.all_eq_true.mp (List.all_eq_true.mp z_nc x hx) y hy
  simp only [Bool.or_eq_true, decide_eq_true_eq] at hq
  rcases hq with z | z
  · exact absurd z hxy
  · exact va_Nc.of (fl _ z)
theorem z_arr {s : State} {args : Array Value} {ty : FieldType} (h : (Cond.arrayClass ty).before args s = true) : ∃ cA : ClassId, ArrOfT s cA ty ∧ s.vm.findClass ("[" ++ ty.toString) = some cA := by
  obtain ⟨cA, kA, comp, q1, q2, q3⟩ := Cond.arrayClass_spec h
  exact ⟨cA, fun n z => ⟨fun k w => (by cases w), kA, q2, comp, q3⟩, q1⟩

/-! The law: an engine for its wrappers and its loop. -/
abbrev lM : Type := qM × (Nat → Int64) × (Nat → UInt64)
abbrev lH : Type := List (Nat × Nat × Nat × Nat)
abbrev lJ : Type := ByteArray × Nat × Option FieldType × Room × lH × (ClassId × ClassId) × (Nat → Prop) × (State → Prop)
/-- the objects of class and model, and the two arrays of the answers: 52 and 53 -/
def lWd (cyI cyZ cyL cyD : ClassId) (ad : Nat → Nat) (w : lM) : va_W := qWd cyI cyZ ad w.1 ++ [(ad 52, .inl (cyL, 1, .inr (.inl w.2.1))), (ad 53, .inl (cyD, 1, .inr (.inr (.inr (.inl w.2.2)))))]
def lTy (cyI cyZ cyL cyD : ClassId) : List (ClassId × FieldType) := [(cyI, .int), (cyZ, .boolean), (cyL, .long), (cyD, .double)]
def lInj (ad : Nat → Nat) : Prop := ∀ i j, i < 54 → j < 54 → ad i = ad j → i = j
def lEnv (s : State) : Prop := ∀ x ∈ qCs, ∀ y ∈ qCs, x ≠ y → va_Nc x y s
def lOk (p : Program) (l : Launch) (s : State) (m : MethodId) (args : Array Value) (meth : Method) (c : Code) (dC : Nat → ClassId) (dI : Nat → Nat → Nat) (cyI cyZ cyL cyD : ClassId) (ad : Nat → Nat) (cc : ByteArray) (nL : Nat) (ret : Option FieldType) (hh : lH) (A : Nat → Prop) : Prop :=
  p.tables.exec = Jvm.exec ∧ c.code = cc ∧ c.maxLocals = nL ∧ s.vm.findClass (qNm 9) = some m.cls ∧ (∀ w ∈ qT, w.before args s = true) ∧ meth.sig.returnType = ret ∧ meth.locks = false ∧ c.exceptionTable.toList = tableOf hh ∧
  va_K (dC, dI) vwCl (lTy cyI cyZ cyL cyD) s ∧ lInj ad ∧ qEnv ad A s s.heap ∧ l.stackTraces = false ∧ lEnv s ∧ (∀ k, k < 54 → A (ad k)) ∧ (∀ q, s.heap.size ≤ q → A q)
def LW : qX → lJ → Nat → Nat → Nat → List (Option Value) → List Value → lM → Prop := fun ⟨p, l, e, s, m, args, below, meth, c, dC, dI, cyI, cyZ, ad⟩ ⟨cc, nL, ret, R, hh, (cyL, cyD), A, Q⟩ kc ks pc L st w =>
  lOk p l s m args meth c dC dI cyI cyZ cyL cyD ad cc nL ret hh A → ∀ (H : Heap) (locs : List Loc) (ls : Array Slot), va_P (dC, dI) vwCl (lWd cyI cyZ cyL cyD ad w) H → va_S A s.heap H locs → qLs ad ls nL L →
    W p l e R s m args below meth c H locs kc ks Q (F0 m pc ls (st.map (qTr ad)))
theorem lWd_o {cyI cyZ cyL cyD : ClassId} {ad : Nat → Nat} {w : lM} : (lWd cyI cyZ cyL cyD ad w)[52]? = some (ad 52, .inl (cyL, 1, .inr (.inl w.2.1))) := by
  unfold lWd
  rw [List.getElem?_append_right (by unfold qWd; rw [List.length_mapIdx, qLay_len]; decide), show (qWd cyI cyZ ad w.1).length = 52 by unfold qWd; rw [List.length_mapIdx, qLay_len]; rfl]
  rfl
theorem lWd_d {cyI cyZ cyL cyD : ClassId} {ad : Nat → Nat} {w : lM} : (lWd cyI cyZ cyL cyD ad w)[53]? = some (ad 53, .inl (cyD, 1, .inr (.inr (.inr (.inl w.2.2))))) := by
  unfold lWd
  rw [List.getElem?_append_right (by unfold qWd; rw [List.length_mapIdx, qLay_len]; decide), show (qWd cyI cyZ ad w.1).length = 52 by unfold qWd; rw [List.length_mapIdx, qLay_len]; rfl]
  rfl
theorem lWd_q {cyI cyZ cyL cyD : ClassId} {ad : Nat → Nat} {w : lM} {k : Nat} (h : k < 52) : (lWd cyI cyZ cyL cyD ad w)[k]? = (qWd cyI cyZ ad w.1)[k]? := by
  unfold lWd
  rw [List.getElem?_append_left (by unfold qWd; rw [List.length_mapIdx, qLay_len]; exact h)]
theorem lWd_inv {cyI cyZ cyL cyD : ClassId} {ad : Nat → Nat} {w : lM} {k : Nat} {q : Nat × va_E} (h : (lWd cyI cyZ cyL cyD ad w)[k]? = some q) : k < 54 ∧ q.1 = ad k := by
  have hlen : (qWd cyI cyZ ad w.1).length = 52 := by unfold qWd; rw [List.length_mapIdx, qLay_len]; rfl
  have hk : k < 54 := by
    have := (List.getElem?_eq_some_iff.mp h).1
    unfold lWd at this
    rw [List.length_append, hlen] at this
    exact this
  refine ⟨hk, ?_⟩
  by_cases g : k < 52
  · rw [lWd_q g] at h
    obtain ⟨x, h1, h2⟩ := qWd_inv h
    rw [h2]
  · have e : k = 52 ∨ k = 53 := by omega
    rcases e with rfl | rfl
    · rw [lWd_o] at h; cases h; rfl
    · rw [lWd_d] at h; cases h; rfl
theorem lD_of {cyI cyZ cyL cyD : ClassId} {ad : Nat → Nat} {w : lM} {A : Nat → Prop} (h : lInj ad) (hA : ∀ k, k < 54 → A (ad k)) : va_D A (lWd cyI cyZ cyL cyD ad w) := by
  refine ⟨fun i j x y hi hj e => ?_, fun k q hk => ?_⟩
  · obtain ⟨a1, a2⟩ := lWd_inv hi
    obtain ⟨b1, b2⟩ := lWd_inv hj
    exact h i j a1 b1 (by rw [← a2, ← b2, e])
  · obtain ⟨a1, a2⟩ := lWd_inv hk
    rw [a2]
    exact hA k a1
theorem lP_q {D : va_G} {cyI cyZ cyL cyD : ClassId} {ad : Nat → Nat} {w : lM} {H : Heap} (h : va_P D vwCl (lWd cyI cyZ cyL cyD ad w) H) : va_P D vwCl (qWd cyI cyZ ad w.1) H := fun k q hk => by
  obtain ⟨x, h1, _⟩ := qWd_inv hk
  have hk2 : k < 52 := by
    have := (List.getElem?_eq_some_iff.mp h1).1
    rw [qLay_len] at this
    exact this
  exact h k q (by rw [lWd_q hk2]; exact hk)
/-- the class's objects are others, the arrays are kept -/
theorem lP_to {D : va_G} {cyI cyZ cyL cyD : ClassId} {ad : Nat → Nat} {w : lM} {M' : qM} {H H1 : Heap} (hinj : lInj ad) (h : va_P D vwCl (lWd cyI cyZ cyL cyD ad w) H) (h1 : va_P D vwCl (qWd cyI cyZ ad M') H1) (hq : ∀ q : Nat, q < H.size → ¬ qA ad H.size q → H1[q]? = H[q]?) : va_P D vwCl (lWd cyI cyZ cyL cyD ad (M', w.2)) H1 := fun k q hk => by
  obtain ⟨k54, hq1⟩ := lWd_inv hk
  by_cases g : k < 52
  · exact h1 k q (by rw [lWd_q g] at hk; exact hk)
  · have e : k = 52 ∨ k = 53 := by omega
    have hn : ¬ qA ad H.size (ad k) ∨ H.size ≤ ad k := by
      by_cases z : H.size ≤ ad k
      · exact Or.inr z
      · refine Or.inl (fun w => ?_)
        rcases w with ⟨j, j0, j1⟩ | w
        · have j2 : j < 52 := j0
          have := hinj k j k54 (by omega) j1
          omega
        · exact z w
    rcases e with rfl | rfl
    · rw [lWd_o] at hk
      cases hk
      have ha := h 52 _ lWd_o
      have hlt := ha.lt
      rcases hn with hn | hn
      · show H1[ad 52]? = _
        rw [hq (ad 52) hlt hn]
        exact ha
      · exact absurd hlt (by simp only; omega)
    · rw [lWd_d] at hk
      cases hk
      have ha := h 53 _ lWd_d
      have hlt := ha.lt
      rcases hn with hn | hn
      · show H1[ad 53]? = _
        rw [hq (ad 53) hlt hn]
        exact ha
      · exact absurd hlt (by simp only; omega)
theorem lK_q {D : va_G} {cyI cyZ cyL cyD : ClassId} {s : State} (h : va_K D vwCl (lTy cyI cyZ cyL cyD) s) : va_K D vwCl [(cyI, .int), (cyZ, .boolean)] s := h.sub [0, 1] rfl
section LR
variable {X : qX} {cc : ByteArray} {nL : Nat} {ret : Option FieldType} {R : Room} {hh : lH} {cy : ClassId × ClassId} {A : Nat → Prop} {Q : State → Prop} {kc ks pc : Nat} {L : List (Option Value)} {st rest : List Value} {w : lM}
theorem l_aload_n {i : Fin 4} {o : Nat} (dd : decode cc pc = .ok (.aload_n i, 1)) (hv : L[(i : Nat)]? = some (some (.ref o))) (k : LW X (cc, nL, ret, R, hh, cy, A, Q) kc ks (pc + 1) L (.ref o :: st) w) : LW X (cc, nL, ret, R, hh, cy, A, Q) kc ks (pc) L (st) w := by
  obtain ⟨p, l, e, s, m, args, below, meth, c, dC, dI, cyI, cyZ, ad⟩ := X
  obtain ⟨cyL, cyD⟩ := cy
  intro ok H locs ls hP hS hl
  obtain ⟨hx, hb, hml, hown, hts, hret, hlocks, hex, hK, hinj, henv, hst, hne, hA1, hA2⟩ := id ok
  exact lv_aload_n hx hb dd rfl (qLs_at hl hv) (k ok H locs ls hP hS hl)
theorem l_aload {i o : Nat} (dd : decode cc pc = .ok (.aload i, 2)) (hv : L[i]? = some (some (.ref o))) (k : LW X (cc, nL, ret, R, hh, cy, A, Q) kc ks (pc + 2) L (.ref o :: st) w) : LW X (cc, nL, ret, R, hh, cy, A, Q) kc ks (pc) L (st) w := by
  obtain ⟨p, l, e, s, m, args, below, meth, c, dC, dI, cyI, cyZ, ad⟩ := X
  obtain ⟨cyL, cyD⟩ := cy
  intro ok H locs ls hP hS hl
  obtain ⟨hx, hb, hml, hown, hts, hret, hlocks, hex, hK, hinj, henv, hst, hne, hA1, hA2⟩ := id ok
  exact lv_aload hx hb dd (qLs_at hl hv) (k ok H locs ls hP hS hl)
theorem l_iload_n {i : Fin 4} {x : Int32} (dd : decode cc pc = .ok (.iload_n i, 1)) (hv : L[(i : Nat)]? = some (some (.int x))) (k : LW X (cc, nL, ret, R, hh, cy, A, Q) kc ks (pc + 1) L (.int x :: st) w) : LW X (cc, nL, ret, R, hh, cy, A, Q) kc ks (pc) L (st) w := by
  obtain ⟨p, l, e, s, m, args, below, meth, c, dC, dI, cyI, cyZ, ad⟩ := X
  obtain ⟨cyL, cyD⟩ := cy
  intro ok H locs ls hP hS hl
  obtain ⟨hx, hb, hml, hown, hts, hret, hlocks, hex, hK, hinj, henv, hst, hne, hA1, hA2⟩ := id ok
  exact lv_iload_n hx hb dd rfl (qLs_at hl hv) (k ok H locs ls hP hS hl)
theorem l_iload {i : Nat} {x : Int32} (dd : decode cc pc = .ok (.iload i, 2)) (hv : L[i]? = some (some (.int x))) (k : LW X (cc, nL, ret, R, hh, cy, A, Q) kc ks (pc + 2) L (.int x :: st) w) : LW X (cc, nL, ret, R, hh, cy, A, Q) kc ks (pc) L (st) w := by
  obtain ⟨p, l, e, s, m, args, below, meth, c, dC, dI, cyI, cyZ, ad⟩ := X
  obtain ⟨cyL, cyD⟩ := cy
  intro ok H locs ls hP hS hl
  obtain ⟨hx, hb, hml, hown, hts, hret, hlocks, hex, hK, hinj, henv, hst, hne, hA1, hA2⟩ := id ok
  exact lv_iload hx hb dd (qLs_at hl hv) (k ok H locs ls hP hS hl)
theorem l_iconst {n : Int} (dd : decode cc pc = .ok (.iconst n, 1))  (k : LW X (cc, nL, ret, R, hh, cy, A, Q) kc ks (pc + 1) L (.int (zI n) :: st) w) : LW X (cc, nL, ret, R, hh, cy, A, Q) kc ks (pc) L (st) w := by
  obtain ⟨p, l, e, s, m, args, below, meth, c, dC, dI, cyI, cyZ, ad⟩ := X
  obtain ⟨cyL, cyD⟩ := cy
  intro ok H locs ls hP hS hl
  obtain ⟨hx, hb, hml, hown, hts, hret, hlocks, hex, hK, hinj, henv, hst, hne, hA1, hA2⟩ := id ok
  exact lv_iconst hx hb dd rfl (k ok H locs ls hP hS hl)
theorem l_lconst {n : Fin 2} (dd : decode cc pc = .ok (.lconst n, 1))  (k : LW X (cc, nL, ret, R, hh, cy, A, Q) kc ks (pc + 1) L (.long (Int64.ofNat (n : Nat)) :: st) w) : LW X (cc, nL, ret, R, hh, cy, A, Q) kc ks (pc) L (st) w := by
  obtain ⟨p, l, e, s, m, args, below, meth, c, dC, dI, cyI, cyZ, ad⟩ := X
  obtain ⟨cyL, cyD⟩ := cy
  intro ok H locs ls hP hS hl
  obtain ⟨hx, hb, hml, hown, hts, hret, hlocks, hex, hK, hinj, henv, hst, hne, hA1, hA2⟩ := id ok
  exact lv_lconst hx hb dd rfl (k ok H locs ls hP hS hl)
theorem l_i2l {x : Int32} (dd : decode cc pc = .ok (.i2l, 1))  (k : LW X (cc, nL, ret, R, hh, cy, A, Q) kc ks (pc + 1) L (.long x.toInt64 :: st) w) : LW X (cc, nL, ret, R, hh, cy, A, Q) kc ks (pc) L (.int x :: st) w := by
  obtain ⟨p, l, e, s, m, args, below, meth, c, dC, dI, cyI, cyZ, ad⟩ := X
  obtain ⟨cyL, cyD⟩ := cy
  intro ok H locs ls hP hS hl
  obtain ⟨hx, hb, hml, hown, hts, hret, hlocks, hex, hK, hinj, henv, hst, hne, hA1, hA2⟩ := id ok
  exact lv_i2l hx hb dd rfl (k ok H locs ls hP hS hl)
theorem l_goto {off : Int} {tgt : Nat} (dd : decode cc pc = .ok (.goto off, 3)) (ht : (pc : Int) + off = (tgt : Int)) (k : LW X (cc, nL, ret, R, hh, cy, A, Q) kc ks (tgt) L (st) w) : LW X (cc, nL, ret, R, hh, cy, A, Q) kc ks (pc) L (st) w := by
  obtain ⟨p, l, e, s, m, args, below, meth, c, dC, dI, cyI, cyZ, ad⟩ := X
  obtain ⟨cyL, cyD⟩ := cy
  intro ok H locs ls hP hS hl
  obtain ⟨hx, hb, hml, hown, hts, hret, hlocks, hex, hK, hinj, henv, hst, hne, hA1, hA2⟩ := id ok
  exact lv_goto hx hb dd ht (k ok H locs ls hP hS hl)
theorem l_if_eq {x : Int32} {off : Int} {tgt : Nat} (dd : decode cc pc = .ok (.ifCond .eq off, 3)) (ht : (pc : Int) + off = (tgt : Int)) (kt : x = 0 → LW X (cc, nL, ret, R, hh, cy, A, Q) kc ks (tgt) L (st) w) (kf : ¬ x = 0 → LW X (cc, nL, ret, R, hh, cy, A, Q) kc ks (pc + 3) L (st) w) : LW X (cc, nL, ret, R, hh, cy, A, Q) kc ks (pc) L (.int x :: st) w := by
  obtain ⟨p, l, e, s, m, args, below, meth, c, dC, dI, cyI, cyZ, ad⟩ := X
  obtain ⟨cyL, cyD⟩ := cy
  intro ok H locs ls hP hS hl
  obtain ⟨hx, hb, hml, hown, hts, hret, hlocks, hex, hK, hinj, henv, hst, hne, hA1, hA2⟩ := id ok
  exact lv_if_eq hx hb dd ht (fun h => kt h ok H locs ls hP hS hl) (fun h => kf h ok H locs ls hP hS hl)
theorem l_if_ne {x : Int32} {off : Int} {tgt : Nat} (dd : decode cc pc = .ok (.ifCond .ne off, 3)) (ht : (pc : Int) + off = (tgt : Int)) (kt : ¬ x = 0 → LW X (cc, nL, ret, R, hh, cy, A, Q) kc ks (tgt) L (st) w) (kf : x = 0 → LW X (cc, nL, ret, R, hh, cy, A, Q) kc ks (pc + 3) L (st) w) : LW X (cc, nL, ret, R, hh, cy, A, Q) kc ks (pc) L (.int x :: st) w := by
  obtain ⟨p, l, e, s, m, args, below, meth, c, dC, dI, cyI, cyZ, ad⟩ := X
  obtain ⟨cyL, cyD⟩ := cy
  intro ok H locs ls hP hS hl
  obtain ⟨hx, hb, hml, hown, hts, hret, hlocks, hex, hK, hinj, henv, hst, hne, hA1, hA2⟩ := id ok
  exact lv_if_ne hx hb dd ht (fun h => kt h ok H locs ls hP hS hl) (fun h => kf h ok H locs ls hP hS hl)
theorem l_lastore {x : Int64} (dd : decode cc pc = .ok (.lastore, 1)) (k : ∀ f : Nat → Int64, f 0 = x → LW X (cc, nL, ret, R, hh, cy, A, Q) kc ks (pc + 1) L (st) (w.1, f, w.2.2)) : LW X (cc, nL, ret, R, hh, cy, A, Q) kc ks (pc) L (.long x :: .int (zI 0) :: .ref 52 :: st) w := by
  obtain ⟨p, l, e, s, m, args, below, meth, c, dC, dI, cyI, cyZ, ad⟩ := X
  obtain ⟨cyL, cyD⟩ := cy
  intro ok H locs ls hP hS hl
  obtain ⟨hx, hb, hml, hown, hts, hret, hlocks, hex, hK, hinj, henv, hst, hne, hA1, hA2⟩ := id ok
  refine va_last hx hb hK hP (lD_of hinj hA1) hS 52 2 lWd_o rfl (zI_in (by decide) (by decide) (by decide)) dd (fun H1 locs1 hP1 _ hS1 => ?_)
  refine k (vp_updL w.2.1 (zI 0).toNatClampNeg x) (if_pos (zI_clamp (z := 0) (by decide) (by decide)).symm) ok H1 locs1 ls ?_ hS1 hl
  have e : (lWd cyI cyZ cyL cyD ad w).set 52 (ad 52, .inl (cyL, 1, .inr (.inl (vp_updL w.2.1 (zI 0).toNatClampNeg x)))) = lWd cyI cyZ cyL cyD ad (w.1, vp_updL w.2.1 (zI 0).toNatClampNeg x, w.2.2) := by
    unfold lWd
    have hlen : (qWd cyI cyZ ad w.1).length = 52 := by unfold qWd; rw [List.length_mapIdx, qLay_len]; rfl
    rw [List.set_append, if_neg (by omega), hlen]
    rfl
  rw [← e]
  exact hP1
theorem l_dastore {x : UInt64} (dd : decode cc pc = .ok (.dastore, 1)) (k : ∀ f : Nat → UInt64, f 0 = x → LW X (cc, nL, ret, R, hh, cy, A, Q) kc ks (pc + 1) L (st) (w.1, w.2.1, f)) : LW X (cc, nL, ret, R, hh, cy, A, Q) kc ks (pc) L (.double x :: .int (zI 0) :: .ref 53 :: st) w := by
  obtain ⟨p, l, e, s, m, args, below, meth, c, dC, dI, cyI, cyZ, ad⟩ := X
  obtain ⟨cyL, cyD⟩ := cy
  intro ok H locs ls hP hS hl
  obtain ⟨hx, hb, hml, hown, hts, hret, hlocks, hex, hK, hinj, henv, hst, hne, hA1, hA2⟩ := id ok
  refine va_dast hx hb hK hP (lD_of hinj hA1) hS 53 3 lWd_d rfl (zI_in (by decide) (by decide) (by decide)) dd (fun H1 locs1 hP1 _ hS1 => ?_)
  refine k (vf_upd w.2.2 (zI 0).toNatClampNeg x) (if_pos (zI_clamp (z := 0) (by decide) (by decide)).symm) ok H1 locs1 ls ?_ hS1 hl
  have e : (lWd cyI cyZ cyL cyD ad w).set 53 (ad 53, .inl (cyD, 1, .inr (.inr (.inr (.inl (vf_upd w.2.2 (zI 0).toNatClampNeg x)))))) = lWd cyI cyZ cyL cyD ad (w.1, w.2.1, vf_upd w.2.2 (zI 0).toNatClampNeg x) := by
    unfold lWd
    have hlen : (qWd cyI cyZ ad w.1).length = 52 := by unfold qWd; rw [List.length_mapIdx, qLay_len]; rfl
    rw [List.set_append, if_neg (by omega), hlen]
    rfl
  rw [← e]
  exact hP1
end LR


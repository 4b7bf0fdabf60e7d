def zL (z : Int) : Int64 := Int64.ofInt z
def zLR (z : Int) : Prop := -4611686018427387904 ≤ z ∧ z < 4611686018427387904
theorem zL_toInt {z : Int} (h : zLR z) : (zL z).toInt = z := by
  unfold zL zLR at *
  rw [Int64.toInt_ofInt]
  exact Int.bmod_eq_of_le (by have := h.1; simp [Int64.size]; omega) (by have := h.2; simp [Int64.size]; omega)
theorem zI_L {z : Int} (h : zR z) : (zI z).toInt64 = zL z := by
  apply Int64.toInt_inj.mp
  unfold zR at h
  rw [Int32.toInt_toInt64, zI_toInt h, zL_toInt (by unfold zLR; omega)]
theorem zL_sub (a b : Int) : zL a - zL b = zL (a - b) := (Int64.ofInt_sub a b).symm
theorem zL_I (a : Int) : (zL a).toInt32 = zI a := by unfold zL zI; first | exact Int64.toInt32_ofInt | exact Int64.toInt32_ofInt_eq | simp
theorem zL_cmp {a b : Int} (ha : zLR a) (hb : zLR b) : lg_cmp (zL a) (zL b) = zI (if b < a then 1 else if a = b then 0 else -1) := by
  unfold lg_cmp
  have e1 : (zL a > zL b) ↔ b < a := by rw [gt_iff_lt, Int64.lt_iff_toInt_lt, zL_toInt ha, zL_toInt hb]
  have e2 : (zL a = zL b) ↔ a = b := by rw [← Int64.toInt_inj, zL_toInt ha, zL_toInt hb]
  by_cases h : b < a
  · rw [if_pos (e1.mpr h), if_pos h]; rfl
  · rw [if_neg (fun q => h (e1.mp q)), if_neg h]
    by_cases h2 : a = b
    · rw [if_pos (e2.mpr h2), if_pos h2]; rfl
    · rw [if_neg (fun q => h2 (e2.mp q)), if_neg h2]; rfl
theorem qLs_set2 {ad : Nat → Nat} {ls : Array Slot} {n i : Nat} {L : List (Option Value)} {v : Value} (ho : qOk1 L i = true) (h : lv_has ls n ((i, qTr ad v) :: (qAs ad 0 L).filter (fun q => !(q.1 == i) && (!(q.1 == i + 1) && !(q.1 + 1 == i && q.2.category == 2))))) : qLs ad ls n ((L.set i (some v)).set (i + 1) none) := by
  refine ⟨h.1, h.2.1, fun q hq => ?_⟩
  obtain ⟨j, w, h1, rfl⟩ := qAs_mem.mp hq
  by_cases e0 : i + 1 = j
  · subst e0
    have hlt : i + 1 < (L.set i (some v)).length := by
      have := (List.getElem?_eq_some_iff.mp h1).1
      simpa using this
    rw [List.getElem?_set_self hlt] at h1
    simp at h1
  · rw [List.getElem?_set_ne e0] at h1
    by_cases e : i = j
    · subst e
      have hlt : i < L.length := by
        have := (List.getElem?_eq_some_iff.mp h1).1
        simpa using this
      rw [List.getElem?_set_self hlt] at h1
      have e2 : v = w := by simpa using h1
      subst e2
      have := h.2.2 (i, qTr ad v) List.mem_cons_self
      simpa using this
    · rw [List.getElem?_set_ne e] at h1
      refine h.2.2 _ (List.mem_cons_of_mem _ (List.mem_filter.mpr ⟨qAs_mem.mpr ⟨j, w, h1, rfl⟩, ?_⟩))
      have e2 : ¬ j = i := fun q => e q.symm
      have e3 : ¬ j = i + 1 := fun q => e0 q.symm
      by_cases e4 : j + 1 = i
      · subst e4
        have hc : w.category = 1 := by
          simp only [qOk1, List.getD_eq_getElem?_getD, h1] at ho
          simpa using ho
        simp [qTr_cat, hc]
        omega
      · simp [e2, e3, e4]
/-- posts: a value and the numbers; the numbers alone; a relation; what may throw E unless c -/
def qpe (z : Int) (M1 : qM) : qP := (fun v M' => v = some (.int (zI z)) ∧ M' = M1, fun _ _ => False)
def qpv (M1 : qM) : qP := (fun v M' => v = none ∧ M' = M1, fun _ _ => False)
def qpg (f : Int → qM → Prop) : qP := (fun v M' => ∃ z, v = some (.int (zI z)) ∧ f z M', fun _ _ => False)
def qph (f : qM → Prop) : qP := (fun v M' => v = none ∧ f M', fun _ _ => False)
def qpr (c : Prop) (E : String) (M1 : qM) : qP := (fun v M' => v = none ∧ M' = M1 ∧ c, fun E' M' => E' = E ∧ M' = M1 ∧ ¬ c)
def wkB : List (Option Value) → List (Option Value) → Prop
  | [], _ => True
  | none :: t, x => wkB t x.tail
  | some v :: t, x => x.head? = some (some v) ∧ wkB t x.tail
theorem wkB_of : ∀ {L' L : List (Option Value)}, wkB L' L → ∀ (i : Nat) (v : Value), L'[i]? = some (some v) → L[i]? = some (some v) := by
  intro L'
  induction L' with
  | nil => intro L _ i v h; simp at h
  | cons a t ih =>
    intro L hw i v h
    have h0 : wkB t L.tail := by cases a with
      | none => exact hw
      | some w => exact hw.2
    cases i with
    | zero =>
      simp at h
      subst h
      have := hw.1
      cases L with
      | nil => simp at this
      | cons x s => simpa using this
    | succ i =>
      have h2 := ih h0 i v (by simpa using h)
      cases L with
      | nil => simp at h2
      | cons x s => simpa using h2
section QS
variable {X : qX} {own : Nat} {cc : ByteArray} {nL : Nat} {ret : Option FieldType} {u d : Nat} {P : qP} {b pc : Nat} {L : List (Option Value)} {st rest : List Value} {M : qM}
theorem qk_e {J : qJ} {z : Int} {M1 : qM} (k : QW X J P b pc L (.int (zI z) :: rest) M1) : QK X J P b pc L rest (qpe z M1) := ⟨fun v M' h => by obtain ⟨rfl, rfl⟩ := h; exact k, fun _ _ h => h.elim⟩
theorem qk_v {J : qJ} {M1 : qM} (k : QW X J P b pc L rest M1) : QK X J P b pc L rest (qpv M1) := ⟨fun v M' h => by obtain ⟨rfl, rfl⟩ := h; exact k, fun _ _ h => h.elim⟩
theorem qk_g {J : qJ} {f : Int → qM → Prop} (k : ∀ z M', f z M' → QW X J P b pc L (.int (zI z) :: rest) M') : QK X J P b pc L rest (qpg f) := ⟨fun v M' h => by obtain ⟨z, rfl, h⟩ := h; exact k z M' h, fun _ _ h => h.elim⟩
theorem qk_h {J : qJ} {f : qM → Prop} (k : ∀ M', f M' → QW X J P b pc L rest M') : QK X J P b pc L rest (qph f) := ⟨fun v M' h => by obtain ⟨rfl, h⟩ := h; exact k M' h, fun _ _ h => h.elim⟩
theorem qk_r {J : qJ} {c : Prop} {E : String} {M1 : qM} (k : c → QW X J P b pc L rest M1) (kx : ¬ c → P.2 E M1) : QK X J P b pc L rest (qpr c E M1) := ⟨fun v M' h => by obtain ⟨rfl, rfl, h⟩ := h; exact k h, fun E' M' h => by obtain ⟨rfl, rfl, h⟩ := h; exact kx h⟩
theorem q_V0 {idx : Nat} {y : qY} {u' d' b' : Nat} {o ci : Nat} {fs : List (Option Nat)} {P' : qP} (dd : decode cc pc = .ok (.invokevirtual idx, 3)) (hlk : q_Ml own idx y) (hm : q_Md y 0 false) (hC : qCt y u' d' [.ref o] M P') (ho : qLay[o]? = some (.inl (ci, fs))) (hc : (vwCl.getD ci (RX0, TX0, 1)).1 = y.1.cls) (hu : b' + u' = b) (hd : d' < d) (hL : y.2.2.1 ≤ 21) (hr : (rest.map fun v => v.category).sum ≤ 8)
    (hk : QK X (own, cc, nL, ret, u, d) P b' (pc + 3) L rest P') : QW X (own, cc, nL, ret, u, d) P b pc L (.ref o :: rest) M := q_callV (av := []) dd hlk hm hC rfl ho hc hu hd hL hr hk
theorem q_S0 {idx : Nat} {y : qY} {u' d' b' : Nat} {P' : qP} (dd : decode cc pc = .ok (.invokestatic idx, 3)) (hlk : q_Ml own idx y) (hm : q_Md y 0 true) (hC : qCt y u' d' [] M P') (hu : b' + u' = b) (hd : d' < d) (hL : y.2.2.1 ≤ 21) (hr : (rest.map fun v => v.category).sum ≤ 8)
    (hk : QK X (own, cc, nL, ret, u, d) P b' (pc + 3) L rest P') : QW X (own, cc, nL, ret, u, d) P b pc L (rest) M := q_callS (av := []) dd hlk hm hC rfl hu hd hL hr hk
theorem q_N0 {idx : Nat} {y : qY} {u' d' b' : Nat} {P' : qP} (dd : decode cc pc = .ok (.invokestatic idx, 3)) (hlk : (own, idx, y.1) ∈ qNests) (hm : q_Md y 0 true) (hC : qCt y u' d' [] M P') (hu : b' + u' = b) (hd : d' < d) (hL : y.2.2.1 ≤ 21) (hr : (rest.map fun v => v.category).sum ≤ 8)
    (hk : QK X (own, cc, nL, ret, u, d) P b' (pc + 3) L rest P') : QW X (own, cc, nL, ret, u, d) P b pc L (rest) M := q_callN (av := []) dd hlk hm hC rfl hu hd hL hr hk
theorem q_V1 {idx : Nat} {y : qY} {u' d' b' : Nat} {a1 : Value} {o ci : Nat} {fs : List (Option Nat)} {P' : qP} (dd : decode cc pc = .ok (.invokevirtual idx, 3)) (hlk : q_Ml own idx y) (hm : q_Md y 1 false) (hC : qCt y u' d' [.ref o, a1] M P') (ho : qLay[o]? = some (.inl (ci, fs))) (hc : (vwCl.getD ci (RX0, TX0, 1)).1 = y.1.cls) (hu : b' + u' = b) (hd : d' < d) (hL : y.2.2.1 ≤ 21) (hr : (rest.map fun v => v.category).sum ≤ 8)
    (hk : QK X (own, cc, nL, ret, u, d) P b' (pc + 3) L rest P') : QW X (own, cc, nL, ret, u, d) P b pc L (a1 :: .ref o :: rest) M := q_callV (av := [a1]) dd hlk hm hC rfl ho hc hu hd hL hr hk
theorem q_S1 {idx : Nat} {y : qY} {u' d' b' : Nat} {a1 : Value} {P' : qP} (dd : decode cc pc = .ok (.invokestatic idx, 3)) (hlk : q_Ml own idx y) (hm : q_Md y 1 true) (hC : qCt y u' d' [a1] M P') (hu : b' + u' = b) (hd : d' < d) (hL : y.2.2.1 ≤ 21) (hr : (rest.map fun v => v.category).sum ≤ 8)
    (hk : QK X (own, cc, nL, ret, u, d) P b' (pc + 3) L rest P') : QW X (own, cc, nL, ret, u, d) P b pc L (a1 :: rest) M := q_callS (av := [a1]) dd hlk hm hC rfl hu hd hL hr hk
theorem q_N1 {idx : Nat} {y : qY} {u' d' b' : Nat} {a1 : Value} {P' : qP} (dd : decode cc pc = .ok (.invokestatic idx, 3)) (hlk : (own, idx, y.1) ∈ qNests) (hm : q_Md y 1 true) (hC : qCt y u' d' [a1] M P') (hu : b' + u' = b) (hd : d' < d) (hL : y.2.2.1 ≤ 21) (hr : (rest.map fun v => v.category).sum ≤ 8)
    (hk : QK X (own, cc, nL, ret, u, d) P b' (pc + 3) L rest P') : QW X (own, cc, nL, ret, u, d) P b pc L (a1 :: rest) M := q_callN (av := [a1]) dd hlk hm hC rfl hu hd hL hr hk
theorem q_V2 {idx : Nat} {y : qY} {u' d' b' : Nat} {a1 a2 : Value} {o ci : Nat} {fs : List (Option Nat)} {P' : qP} (dd : decode cc pc = .ok (.invokevirtual idx, 3)) (hlk : q_Ml own idx y) (hm : q_Md y 2 false) (hC : qCt y u' d' [.ref o, a1, a2] M P') (ho : qLay[o]? = some (.inl (ci, fs))) (hc : (vwCl.getD ci (RX0, TX0, 1)).1 = y.1.cls) (hu : b' + u' = b) (hd : d' < d) (hL : y.2.2.1 ≤ 21) (hr : (rest.map fun v => v.category).sum ≤ 8)
    (hk : QK X (own, cc, nL, ret, u, d) P b' (pc + 3) L rest P') : QW X (own, cc, nL, ret, u, d) P b pc L (a2 :: a1 :: .ref o :: rest) M := q_callV (av := [a1, a2]) dd hlk hm hC rfl ho hc hu hd hL hr hk
theorem q_S2 {idx : Nat} {y : qY} {u' d' b' : Nat} {a1 a2 : Value} {P' : qP} (dd : decode cc pc = .ok (.invokestatic idx, 3)) (hlk : q_Ml own idx y) (hm : q_Md y 2 true) (hC : qCt y u' d' [a1, a2] M P') (hu : b' + u' = b) (hd : d' < d) (hL : y.2.2.1 ≤ 21) (hr : (rest.map fun v => v.category).sum ≤ 8)
    (hk : QK X (own, cc, nL, ret, u, d) P b' (pc + 3) L rest P') : QW X (own, cc, nL, ret, u, d) P b pc L (a2 :: a1 :: rest) M := q_callS (av := [a1, a2]) dd hlk hm hC rfl hu hd hL hr hk
theorem q_N2 {idx : Nat} {y : qY} {u' d' b' : Nat} {a1 a2 : Value} {P' : qP} (dd : decode cc pc = .ok (.invokestatic idx, 3)) (hlk : (own, idx, y.1) ∈ qNests) (hm : q_Md y 2 true) (hC : qCt y u' d' [a1, a2] M P') (hu : b' + u' = b) (hd : d' < d) (hL : y.2.2.1 ≤ 21) (hr : (rest.map fun v => v.category).sum ≤ 8)
    (hk : QK X (own, cc, nL, ret, u, d) P b' (pc + 3) L rest P') : QW X (own, cc, nL, ret, u, d) P b pc L (a2 :: a1 :: rest) M := q_callN (av := [a1, a2]) dd hlk hm hC rfl hu hd hL hr hk
theorem q_V3 {idx : Nat} {y : qY} {u' d' b' : Nat} {a1 a2 a3 : Value} {o ci : Nat} {fs : List (Option Nat)} {P' : qP} (dd : decode cc pc = .ok (.invokevirtual idx, 3)) (hlk : q_Ml own idx y) (hm : q_Md y 3 false) (hC : qCt y u' d' [.ref o, a1, a2, a3] M P') (ho : qLay[o]? = some (.inl (ci, fs))) (hc : (vwCl.getD ci (RX0, TX0, 1)).1 = y.1.cls) (hu : b' + u' = b) (hd : d' < d) (hL : y.2.2.1 ≤ 21) (hr : (rest.map fun v => v.category).sum ≤ 8)
    (hk : QK X (own, cc, nL, ret, u, d) P b' (pc + 3) L rest P') : QW X (own, cc, nL, ret, u, d) P b pc L (a3 :: a2 :: a1 :: .ref o :: rest) M := q_callV (av := [a1, a2, a3]) dd hlk hm hC rfl ho hc hu hd hL hr hk
theorem q_S3 {idx : Nat} {y : qY} {u' d' b' : Nat} {a1 a2 a3 : Value} {P' : qP} (dd : decode cc pc = .ok (.invokestatic idx, 3)) (hlk : q_Ml own idx y) (hm : q_Md y 3 true) (hC : qCt y u' d' [a1, a2, a3] M P') (hu : b' + u' = b) (hd : d' < d) (hL : y.2.2.1 ≤ 21) (hr : (rest.map fun v => v.category).sum ≤ 8)
    (hk : QK X (own, cc, nL, ret, u, d) P b' (pc + 3) L rest P') : QW X (own, cc, nL, ret, u, d) P b pc L (a3 :: a2 :: a1 :: rest) M := q_callS (av := [a1, a2, a3]) dd hlk hm hC rfl hu hd hL hr hk
theorem q_N3 {idx : Nat} {y : qY} {u' d' b' : Nat} {a1 a2 a3 : Value} {P' : qP} (dd : decode cc pc = .ok (.invokestatic idx, 3)) (hlk : (own, idx, y.1) ∈ qNests) (hm : q_Md y 3 true) (hC : qCt y u' d' [a1, a2, a3] M P') (hu : b' + u' = b) (hd : d' < d) (hL : y.2.2.1 ≤ 21) (hr : (rest.map fun v => v.category).sum ≤ 8)
    (hk : QK X (own, cc, nL, ret, u, d) P b' (pc + 3) L rest P') : QW X (own, cc, nL, ret, u, d) P b pc L (a3 :: a2 :: a1 :: rest) M := q_callN (av := [a1, a2, a3]) dd hlk hm hC rfl hu hd hL hr hk
theorem q_V4 {idx : Nat} {y : qY} {u' d' b' : Nat} {a1 a2 a3 a4 : Value} {o ci : Nat} {fs : List (Option Nat)} {P' : qP} (dd : decode cc pc = .ok (.invokevirtual idx, 3)) (hlk : q_Ml own idx y) (hm : q_Md y 4 false) (hC : qCt y u' d' [.ref o, a1, a2, a3, a4] M P') (ho : qLay[o]? = some (.inl (ci, fs))) (hc : (vwCl.getD ci (RX0, TX0, 1)).1 = y.1.cls) (hu : b' + u' = b) (hd : d' < d) (hL : y.2.2.1 ≤ 21) (hr : (rest.map fun v => v.category).sum ≤ 8)
    (hk : QK X (own, cc, nL, ret, u, d) P b' (pc + 3) L rest P') : QW X (own, cc, nL, ret, u, d) P b pc L (a4 :: a3 :: a2 :: a1 :: .ref o :: rest) M := q_callV (av := [a1, a2, a3, a4]) dd hlk hm hC rfl ho hc hu hd hL hr hk
theorem q_S4 {idx : Nat} {y : qY} {u' d' b' : Nat} {a1 a2 a3 a4 : Value} {P' : qP} (dd : decode cc pc = .ok (.invokestatic idx, 3)) (hlk : q_Ml own idx y) (hm : q_Md y 4 true) (hC : qCt y u' d' [a1, a2, a3, a4] M P') (hu : b' + u' = b) (hd : d' < d) (hL : y.2.2.1 ≤ 21) (hr : (rest.map fun v => v.category).sum ≤ 8)
    (hk : QK X (own, cc, nL, ret, u, d) P b' (pc + 3) L rest P') : QW X (own, cc, nL, ret, u, d) P b pc L (a4 :: a3 :: a2 :: a1 :: rest) M := q_callS (av := [a1, a2, a3, a4]) dd hlk hm hC rfl hu hd hL hr hk
theorem q_N4 {idx : Nat} {y : qY} {u' d' b' : Nat} {a1 a2 a3 a4 : Value} {P' : qP} (dd : decode cc pc = .ok (.invokestatic idx, 3)) (hlk : (own, idx, y.1) ∈ qNests) (hm : q_Md y 4 true) (hC : qCt y u' d' [a1, a2, a3, a4] M P') (hu : b' + u' = b) (hd : d' < d) (hL : y.2.2.1 ≤ 21) (hr : (rest.map fun v => v.category).sum ≤ 8)
    (hk : QK X (own, cc, nL, ret, u, d) P b' (pc + 3) L rest P') : QW X (own, cc, nL, ret, u, d) P b pc L (a4 :: a3 :: a2 :: a1 :: rest) M := q_callN (av := [a1, a2, a3, a4]) dd hlk hm hC rfl hu hd hL hr hk
theorem q_V5 {idx : Nat} {y : qY} {u' d' b' : Nat} {a1 a2 a3 a4 a5 : Value} {o ci : Nat} {fs : List (Option Nat)} {P' : qP} (dd : decode cc pc = .ok (.invokevirtual idx, 3)) (hlk : q_Ml own idx y) (hm : q_Md y 5 false) (hC : qCt y u' d' [.ref o, a1, a2, a3, a4, a5] M P') (ho : qLay[o]? = some (.inl (ci, fs))) (hc : (vwCl.getD ci (RX0, TX0, 1)).1 = y.1.cls) (hu : b' + u' = b) (hd : d' < d) (hL : y.2.2.1 ≤ 21) (hr : (rest.map fun v => v.category).sum ≤ 8)
    (hk : QK X (own, cc, nL, ret, u, d) P b' (pc + 3) L rest P') : QW X (own, cc, nL, ret, u, d) P b pc L (a5 :: a4 :: a3 :: a2 :: a1 :: .ref o :: rest) M := q_callV (av := [a1, a2, a3, a4, a5]) dd hlk hm hC rfl ho hc hu hd hL hr hk
theorem q_S5 {idx : Nat} {y : qY} {u' d' b' : Nat} {a1 a2 a3 a4 a5 : Value} {P' : qP} (dd : decode cc pc = .ok (.invokestatic idx, 3)) (hlk : q_Ml own idx y) (hm : q_Md y 5 true) (hC : qCt y u' d' [a1, a2, a3, a4, a5] M P') (hu : b' + u' = b) (hd : d' < d) (hL : y.2.2.1 ≤ 21) (hr : (rest.map fun v => v.category).sum ≤ 8)
    (hk : QK X (own, cc, nL, ret, u, d) P b' (pc + 3) L rest P') : QW X (own, cc, nL, ret, u, d) P b pc L (a5 :: a4 :: a3 :: a2 :: a1 :: rest) M := q_callS (av := [a1, a2, a3, a4, a5]) dd hlk hm hC rfl hu hd hL hr hk
theorem q_N5 {idx : Nat} {y : qY} {u' d' b' : Nat} {a1 a2 a3 a4 a5 : Value} {P' : qP} (dd : decode cc pc = .ok (.invokestatic idx, 3)) (hlk : (own, idx, y.1) ∈ qNests) (hm : q_Md y 5 true) (hC : qCt y u' d' [a1, a2, a3, a4, a5] M P') (hu : b' + u' = b) (hd : d' < d) (hL : y.2.2.1 ≤ 21) (hr : (rest.map fun v => v.category).sum ≤ 8)
    (hk : QK X (own, cc, nL, ret, u, d) P b' (pc + 3) L rest P') : QW X (own, cc, nL, ret, u, d) P b pc L (a5 :: a4 :: a3 :: a2 :: a1 :: rest) M := q_callN (av := [a1, a2, a3, a4, a5]) dd hlk hm hC rfl hu hd hL hr hk
theorem q_V6 {idx : Nat} {y : qY} {u' d' b' : Nat} {a1 a2 a3 a4 a5 a6 : Value} {o ci : Nat} {fs : List (Option Nat)} {P' : qP} (dd : decode cc pc = .ok (.invokevirtual idx, 3)) (hlk : q_Ml own idx y) (hm : q_Md y 6 false) (hC : qCt y u' d' [.ref o, a1, a2, a3, a4, a5, a6] M P') (ho : qLay[o]? = some (.inl (ci, fs))) (hc : (vwCl.getD ci (RX0, TX0, 1)).1 = y.1.cls) (hu : b' + u' = b) (hd : d' < d) (hL : y.2.2.1 ≤ 21) (hr : (rest.map fun v => v.category).sum ≤ 8)
    (hk : QK X (own, cc, nL, ret, u, d) P b' (pc + 3) L rest P') : QW X (own, cc, nL, ret, u, d) P b pc L (a6 :: a5 :: a4 :: a3 :: a2 :: a1 :: .ref o :: rest) M := q_callV (av := [a1, a2, a3, a4, a5, a6]) dd hlk hm hC rfl ho hc hu hd hL hr hk
theorem q_S6 {idx : Nat} {y : qY} {u' d' b' : Nat} {a1 a2 a3 a4 a5 a6 : Value} {P' : qP} (dd : decode cc pc = .ok (.invokestatic idx, 3)) (hlk : q_Ml own idx y) (hm : q_Md y 6 true) (hC : qCt y u' d' [a1, a2, a3, a4, a5, a6] M P') (hu : b' + u' = b) (hd : d' < d) (hL : y.2.2.1 ≤ 21) (hr : (rest.map fun v => v.category).sum ≤ 8)
    (hk : QK X (own, cc, nL, ret, u, d) P b' (pc + 3) L rest P') : QW X (own, cc, nL, ret, u, d) P b pc L (a6 :: a5 :: a4 :: a3 :: a2 :: a1 :: rest) M := q_callS (av := [a1, a2, a3, a4, a5, a6]) dd hlk hm hC rfl hu hd hL hr hk
theorem q_N6 {idx : Nat} {y : qY} {u' d' b' : Nat} {a1 a2 a3 a4 a5 a6 : Value} {P' : qP} (dd : decode cc pc = .ok (.invokestatic idx, 3)) (hlk : (own, idx, y.1) ∈ qNests) (hm : q_Md y 6 true) (hC : qCt y u' d' [a1, a2, a3, a4, a5, a6] M P') (hu : b' + u' = b) (hd : d' < d) (hL : y.2.2.1 ≤ 21) (hr : (rest.map fun v => v.category).sum ≤ 8)
    (hk : QK X (own, cc, nL, ret, u, d) P b' (pc + 3) L rest P') : QW X (own, cc, nL, ret, u, d) P b pc L (a6 :: a5 :: a4 :: a3 :: a2 :: a1 :: rest) M := q_callN (av := [a1, a2, a3, a4, a5, a6]) dd hlk hm hC rfl hu hd hL hr hk
theorem q_i2l {a : Int} (dd : decode cc pc = .ok (.i2l, 1)) (ha : zR a) (k : QW X (own, cc, nL, ret, u, d) P b (pc + 1) L (.long (zL a) :: st) M) : QW X (own, cc, nL, ret, u, d) P b pc L (.int (zI a) :: st) M := by
  obtain ⟨p, l, e, s, m, args, below, meth, c, dC, dI, cyI, cyZ, ad⟩ := X
  intro ok H locs cells slots ls hP hS hl h1 h2
  obtain ⟨hx, hb, hml, hown, hts, hret, hlocks, hex, hK, hinj, henv, hst⟩ := id ok
  exact lv_i2l hx hb dd (zI_L ha) (k ok H locs cells slots ls hP hS hl h1 h2)
theorem q_l2i {a : Int} (dd : decode cc pc = .ok (.l2i, 1)) (k : QW X (own, cc, nL, ret, u, d) P b (pc + 1) L (.int (zI a) :: st) M) : QW X (own, cc, nL, ret, u, d) P b pc L (.long (zL a) :: st) M := by
  obtain ⟨p, l, e, s, m, args, below, meth, c, dC, dI, cyI, cyZ, ad⟩ := X
  intro ok H locs cells slots ls hP hS hl h1 h2
  obtain ⟨hx, hb, hml, hown, hts, hret, hlocks, hex, hK, hinj, henv, hst⟩ := id ok
  exact lv_l2i hx hb dd (zL_I a) (k ok H locs cells slots ls hP hS hl h1 h2)
theorem q_lsub {a b' : Int} (dd : decode cc pc = .ok (.lsub, 1)) (k : QW X (own, cc, nL, ret, u, d) P b (pc + 1) L (.long (zL (a - b')) :: st) M) : QW X (own, cc, nL, ret, u, d) P b pc L (.long (zL b') :: .long (zL a) :: st) M := by
  obtain ⟨p, l, e, s, m, args, below, meth, c, dC, dI, cyI, cyZ, ad⟩ := X
  intro ok H locs cells slots ls hP hS hl h1 h2
  obtain ⟨hx, hb, hml, hown, hts, hret, hlocks, hex, hK, hinj, henv, hst⟩ := id ok
  refine lv_lsub hx hb dd ?_
  rw [zL_sub]
  exact k ok H locs cells slots ls hP hS hl h1 h2
theorem q_lconst {n : Fin 2} {z : Int} (dd : decode cc pc = .ok (.lconst n, 1)) (hz : Int64.ofNat (n : Nat) = zL z) (k : QW X (own, cc, nL, ret, u, d) P b (pc + 1) L (.long (zL z) :: st) M) : QW X (own, cc, nL, ret, u, d) P b pc L st M := by
  obtain ⟨p, l, e, s, m, args, below, meth, c, dC, dI, cyI, cyZ, ad⟩ := X
  intro ok H locs cells slots ls hP hS hl h1 h2
  obtain ⟨hx, hb, hml, hown, hts, hret, hlocks, hex, hK, hinj, henv, hst⟩ := id ok
  exact lv_lconst hx hb dd hz (k ok H locs cells slots ls hP hS hl h1 h2)
theorem q_lcmp {a b' : Int} (dd : decode cc pc = .ok (.lcmp, 1)) (ha : zLR a) (hb' : zLR b') (k : QW X (own, cc, nL, ret, u, d) P b (pc + 1) L (.int (zI (if b' < a then 1 else if a = b' then 0 else -1)) :: st) M) : QW X (own, cc, nL, ret, u, d) P b pc L (.long (zL b') :: .long (zL a) :: st) M := by
  obtain ⟨p, l, e, s, m, args, below, meth, c, dC, dI, cyI, cyZ, ad⟩ := X
  intro ok H locs cells slots ls hP hS hl h1 h2
  obtain ⟨hx, hb, hml, hown, hts, hret, hlocks, hex, hK, hinj, henv, hst⟩ := id ok
  refine W.lcmp hx hb dd ?_
  rw [zL_cmp ha hb']
  exact k ok H locs cells slots ls hP hS hl h1 h2
theorem q_lload {i : Nat} {x : Int64} (dd : decode cc pc = .ok (.lload i, 2)) (hv : L[i]? = some (some (.long x))) (k : QW X (own, cc, nL, ret, u, d) P b (pc + 2) L (.long x :: st) M) : QW X (own, cc, nL, ret, u, d) P b pc L st M := by
  obtain ⟨p, l, e, s, m, args, below, meth, c, dC, dI, cyI, cyZ, ad⟩ := X
  intro ok H locs cells slots ls hP hS hl h1 h2
  obtain ⟨hx, hb, hml, hown, hts, hret, hlocks, hex, hK, hinj, henv, hst⟩ := id ok
  exact lv_lload hx hb dd (qLs_at hl hv) (k ok H locs cells slots ls hP hS hl h1 h2)
theorem q_lstore {i : Nat} {x : Int64} (dd : decode cc pc = .ok (.lstore i, 2)) (hn : i + 1 < nL) (ho : qOk1 L i = true) (k : QW X (own, cc, nL, ret, u, d) P b (pc + 2) ((L.set i (some (.long x))).set (i + 1) none) st M) : QW X (own, cc, nL, ret, u, d) P b pc L (.long x :: st) M := by
  obtain ⟨p, l, e, s, m, args, below, meth, c, dC, dI, cyI, cyZ, ad⟩ := X
  intro ok H locs cells slots ls hP hS hl h1 h2
  obtain ⟨hx, hb, hml, hown, hts, hret, hlocks, hex, hK, hinj, henv, hst⟩ := id ok
  exact lv_lstore hx hb dd hl hn rfl (fun ls' hl' => k ok H locs cells slots ls' hP hS (qLs_set2 ho hl') h1 h2)
theorem qm_max : Cond.static Lib.Math.max.name ∈ qT ∧ Cond.initialized "java/lang/Math" ∈ qT ∧ Cond.code Lib.Math.max.name Lib.Math.max.code 2 (some .int) ∈ qT := ⟨qT_of 619 (by decide +kernel) (by decide +kernel), qT_of 127 (by decide +kernel) (by decide +kernel), qT_of 620 (by decide +kernel) (by decide +kernel)⟩
theorem q_mmax {idx : Nat} {a b' : Int} (dd : decode cc pc = .ok (.invokestatic idx, 3)) (hlk : Cond.methodLink (qNm own) idx Lib.Math.max.name ∈ qT) (ha : zR a) (hb' : zR b') (hr : (st.map fun v => v.category).sum ≤ 8) (k : QW X (own, cc, nL, ret, u, d) P b (pc + 3) L (.int (zI (max a b')) :: st) M) : QW X (own, cc, nL, ret, u, d) P b pc L (.int (zI b') :: .int (zI a) :: st) M := by
  obtain ⟨p, l, e, s, m, args, below, meth, c, dC, dI, cyI, cyZ, ad⟩ := X
  intro ok H locs cells slots ls hP hS hl h1 h2
  obtain ⟨hx, hb, hml, hown, hts, hret, hlocks, hex, hK, hinj, henv, hst⟩ := id ok
  refine va_mmax hx hb (by rw [hml]; exact hl.1.symm) hown (hts _ hlk) (hts _ qm_max.1) (hts _ qm_max.2.1) (hts _ qm_max.2.2) (by show 1 ≤ d + 6; omega) (by rw [qTr_cats]; show _ + 13 ≤ 100 + 40 * d; omega) (by show cells ≤ u; omega) (by show slots ≤ 6 * u; omega) dd ?_
  have e : (if zI a < zI b' then zI b' else zI a) = zI (max a b') := by
    by_cases h : a < b'
    · rw [if_pos ((zI_lt ha hb').mpr h)]; congr 1; omega
    · rw [if_neg (fun q => h ((zI_lt ha hb').mp q))]; congr 1; omega
  rw [e]
  exact k ok H locs cells slots ls hP hS hl h1 h2
theorem qm_min : Cond.static Lib.Math.min.name ∈ qT ∧ Cond.initialized "java/lang/Math" ∈ qT ∧ Cond.code Lib.Math.min.name Lib.Math.min.code 2 (some .int) ∈ qT := ⟨qT_of 622 (by decide +kernel) (by decide +kernel), qT_of 127 (by decide +kernel) (by decide +kernel), qT_of 623 (by decide +kernel) (by decide +kernel)⟩
theorem q_mmin {idx : Nat} {a b' : Int} (dd : decode cc pc = .ok (.invokestatic idx, 3)) (hlk : Cond.methodLink (qNm own) idx Lib.Math.min.name ∈ qT) (ha : zR a) (hb' : zR b') (hr : (st.map fun v => v.category).sum ≤ 8) (k : QW X (own, cc, nL, ret, u, d) P b (pc + 3) L (.int (zI (min a b')) :: st) M) : QW X (own, cc, nL, ret, u, d) P b pc L (.int (zI b') :: .int (zI a) :: st) M := by
  obtain ⟨p, l, e, s, m, args, below, meth, c, dC, dI, cyI, cyZ, ad⟩ := X
  intro ok H locs cells slots ls hP hS hl h1 h2
  obtain ⟨hx, hb, hml, hown, hts, hret, hlocks, hex, hK, hinj, henv, hst⟩ := id ok
  refine va_mmin hx hb (by rw [hml]; exact hl.1.symm) hown (hts _ hlk) (hts _ qm_min.1) (hts _ qm_min.2.1) (hts _ qm_min.2.2) (by show 1 ≤ d + 6; omega) (by rw [qTr_cats]; show _ + 13 ≤ 100 + 40 * d; omega) (by show cells ≤ u; omega) (by show slots ≤ 6 * u; omega) dd ?_
  have e : (if zI b' < zI a then zI b' else zI a) = zI (min a b') := by
    by_cases h : b' < a
    · rw [if_pos ((zI_lt hb' ha).mpr h)]; congr 1; omega
    · rw [if_neg (fun q => h ((zI_lt hb' ha).mp q))]; congr 1; omega
  rw [e]
  exact k ok H locs cells slots ls hP hS hl h1 h2
theorem ml_0_33 : Cond.methodLink (qNm 0) 33 Lib.Math.max.name ∈ qT := qT_of 618 (by decide +kernel) (by decide +kernel)
theorem ml_0_38 : Cond.methodLink (qNm 0) 38 Lib.Math.min.name ∈ qT := qT_of 621 (by decide +kernel) (by decide +kernel)
theorem ml_7_197 : Cond.methodLink (qNm 7) 197 Lib.Math.max.name ∈ qT := qT_of 944 (by decide +kernel) (by decide +kernel)
theorem ml_2_40 : Cond.methodLink (qNm 2) 40 Lib.Math.min.name ∈ qT := qT_of 1262 (by decide +kernel) (by decide +kernel)
theorem ml_8_318 : Cond.methodLink (qNm 8) 318 Lib.Math.max.name ∈ qT := qT_of 1742 (by decide +kernel) (by decide +kernel)
theorem ml_8_363 : Cond.methodLink (qNm 8) 363 Lib.Math.min.name ∈ qT := qT_of 1873 (by decide +kernel) (by decide +kernel)
theorem qm_ac : Cond.methodLink (qNm 0) 19 arraycopyName ∈ qT ∧ Cond.native arraycopyName ∈ qT ∧ Cond.static arraycopyName ∈ qT ∧ Cond.initialized "java/lang/System" ∈ qT := ⟨qT_of 680 (by decide +kernel) (by decide +kernel), qT_of 682 (by decide +kernel) (by decide +kernel), qT_of 681 (by decide +kernel) (by decide +kernel), qT_of 128 (by decide +kernel) (by decide +kernel)⟩
def qcpy (M : qM) (o : Nat) (sp dp n : Int) : qM := fun o' k => if o' = o ∧ dp ≤ k ∧ k < dp + n then M o (sp + (k - dp)) else M o' k
theorem q_acopy {o n0 : Nat} {sp dp n : Int} (dd : decode cc pc = .ok (.invokestatic 19, 3)) (hown0 : own = 0) (ho : qLay[o]? = some (.inr (n0, false))) (hn0 : n0 < 1000000) (h3 : 0 ≤ sp) (h4 : 0 ≤ dp) (h5 : 0 ≤ n) (h6 : sp + n ≤ n0) (h7 : dp + n ≤ n0) (hr : (st.map fun v => v.category).sum ≤ 8) (k : QW X (own, cc, nL, ret, u, d) P b (pc + 3) L st (qcpy M o sp dp n)) : QW X (own, cc, nL, ret, u, d) P b pc L (.int (zI n) :: .int (zI dp) :: .ref o :: .int (zI sp) :: .ref o :: st) M := by
  subst hown0
  obtain ⟨p, l, e, s, m, args, below, meth, c, dC, dI, cyI, cyZ, ad⟩ := X
  intro ok H locs cells slots ls hP hS hl h1 h2
  obtain ⟨hx, hb, hml, hown, hts, hret, hlocks, hex, hK, hinj, henv, hst⟩ := id ok
  have e1 := zI_clamp h3 (by omega)
  have e2 := zI_clamp h4 (by omega)
  have e3 := zI_clamp h5 (by omega)
  have ng : ∀ {z : Int}, 0 ≤ z → z < 2147483648 → ¬ zI z < 0 := fun {z} q1 q2 q => by have := (zI_lt (a := z) (b := 0) ⟨by omega, by omega⟩ zR0).mp (by rw [zI0]; exact q); omega
  refine va_copyi hx hb (by rw [hml]; exact hl.1.symm) hown (hts _ qm_ac.1) (hts _ qm_ac.2.1) (hts _ qm_ac.2.2.1) (hts _ qm_ac.2.2.2) hK hP (qD_of hinj) hS o o 0 0 (qWd_get ho) (qWd_get ho) rfl rfl rfl (ng h3 (by omega)) (ng h4 (by omega)) (ng h5 (by omega)) (by rw [e1, e3]; omega) (by rw [e2, e3]; omega) (fun i _ => rfl)
    (by show 1 ≤ d + 6; omega) (by rw [qTr_cats]; have : nativeFrameWords "java/lang/System" "arraycopy" 5 + 11 ≤ 92 := by decide +kernel
                                   show _ + _ ≤ 100 + 40 * d; omega) dd (fun H1 locs1 hP1 hD1 hS1 => ?_)
  have e : (qWd cyI cyZ ad M).set o (ad o, .inl (cyI, n0, .inl (va_cpy (fun j : Nat => zI (M o j)) (fun j : Nat => zI (M o j)) (zI sp).toNatClampNeg (zI dp).toNatClampNeg (zI n).toNatClampNeg))) = qWd cyI cyZ ad (qcpy M o sp dp n) := by
    refine qWd_ne ho ?_ (fun o' h => by funext k'; simp [qcpy, h])
    show _ = Sum.inl (cyI, n0, Sum.inl (fun j : Nat => zI (qcpy M o sp dp n o j)))
    congr 4
    funext j
    rw [e1, e2, e3]
    unfold va_cpy qcpy
    by_cases hj : dp.toNat ≤ j ∧ j < dp.toNat + n.toNat
    · rw [if_pos hj, if_pos ⟨rfl, by omega, by omega⟩]
      show zI (M o ((sp.toNat + (j - dp.toNat) : Nat) : Int)) = zI (M o (sp + ((j : Int) - dp)))
      have : ((sp.toNat + (j - dp.toNat) : Nat) : Int) = sp + ((j : Int) - dp) := by omega
      rw [this]
    · rw [if_neg hj, if_neg (by omega)]
  have hP2 : va_P (dC, dI) vwCl (qWd cyI cyZ ad (qcpy M o sp dp n)) H1 := by rw [← e]; exact hP1
  exact k ok H1 locs1 cells slots ls hP2 hS1 hl h1 h2
theorem q_throw {ik is ic : Nat} {cls text : String} (hown7 : own = 7) (d0 : decode cc pc = .ok (.new ik, 3)) (d3 : decode cc (pc + 3) = .ok (.dup, 1)) (d4 : decode cc (pc + 4) = .ok (.ldc is, 2)) (d6 : decode cc (pc + 6) = .ok (.invokespecial ic, 3)) (d9 : decode cc (pc + 9) = .ok (.athrow, 1)) (hq : (7, is, text) ∈ qXs) (hcls : Bundle.fit cls = true) (hcl : Cond.classLink (qNm 7) ik cls ∈ qT ∧ Cond.initialized cls ∈ qT) (hc3 : cls ∈ qCs)
    (hg : ∀ w ∈ (vx_atS (qNm 7) ic cls ["java/lang/RuntimeException", "java/lang/Exception"]).filter goodWord, w ∈ qT) (hb : ∀ w ∈ (vx_atS (qNm 7) ic cls ["java/lang/RuntimeException", "java/lang/Exception"]).filter (fun w => !goodWord w), w ∈ [Cond.castable cls cls, Cond.declares ⟨"java/lang/RuntimeException", "<init>", "(Ljava/lang/String;)V"⟩, Cond.declares ⟨"java/lang/Exception", "<init>", "(Ljava/lang/String;)V"⟩, Cond.declares ⟨"java/lang/Throwable", "<init>", "(Ljava/lang/String;)V"⟩]) (hot : ∀ w ∈ Cond.classLink (qNm 7) ik cls :: Cond.initialized cls :: vx_atS (qNm 7) ic cls ["java/lang/RuntimeException", "java/lang/Exception"], vx_ot w = true)
    (h1b : 1 ≤ b) (hr : (st.map fun v => v.category).sum ≤ 8) (hp : P.2 cls M) : QW X (own, cc, nL, ret, u, d) P b pc L st M := by
  subst hown7
  obtain ⟨p, l, e, s, m, args, below, meth, c, dC, dI, cyI, cyZ, ad⟩ := X
  intro ok H locs cells slots ls hP hS hl h1 h2
  obtain ⟨hx, hbb, hml, hown, hts, hret, hlocks, hex, hK, hinj, henv, hst⟩ := id ok
  obtain ⟨hU, hN, hxs, -, -, -, -, -, hcs, hds⟩ := henv
  obtain ⟨sa, hsa⟩ := hxs _ hq
  refine vx_throwS (A := qA ad s.heap.size) (names := ["java/lang/RuntimeException", "java/lang/Exception"]) hx hbb hst hown hcls (by decide +kernel) (hts _ hcl.1) (hts _ hcl.2) hsa
    (vx_hat (fun w hw => hts w (hg w hw)) hb (vx_c ((hcs _ hc3).use rfl) (vx_c ((hds "java/lang/RuntimeException" (by decide)).use rfl) (vx_c ((hds "java/lang/Exception" (by decide)).use rfl) (vx_c ((hds "java/lang/Throwable" (by decide)).use rfl) vx_n))))) hot hU hN hS (by rw [hml]; exact hl.1) d0 d3 d4 d6 d9 (fun x hx => (hex x hx).elim) (by show 2 + 3 < d + 6; omega) (by rw [qTr_cats]; show _ + (13 * 3 + 43) ≤ 100 + 40 * d; omega) (by show cells + 1 ≤ u; omega) (by show slots + 6 ≤ 6 * u; omega) hlocks
    (fun t hvm hz hk => ⟨M, hp, hP.kept (fun k q hkq => hk _ ((hP k q hkq).lt)), ⟨Nat.le_trans hS.1 hz, fun q hq1 hq2 => (hk q (Nat.lt_of_lt_of_le hq1 hS.1)).trans (hS.2.1 q hq1 hq2)⟩⟩) hS.2.2 (by omega) (by omega)
theorem q_throwW {ik is ic : Nat} {cls text : String} (hown7 : own = 7) (d0 : decode cc pc = .ok (.new ik, 3)) (d3 : decode cc (pc + 3) = .ok (.dup, 1)) (d4 : decode cc (pc + 4) = .ok (.ldc_w is, 3)) (d6 : decode cc (pc + 7) = .ok (.invokespecial ic, 3)) (d9 : decode cc (pc + 10) = .ok (.athrow, 1)) (hq : (7, is, text) ∈ qXs) (hcls : Bundle.fit cls = true) (hcl : Cond.classLink (qNm 7) ik cls ∈ qT ∧ Cond.initialized cls ∈ qT) (hc3 : cls ∈ qCs)
    (hg : ∀ w ∈ (vx_atS (qNm 7) ic cls ["java/lang/RuntimeException", "java/lang/Exception"]).filter goodWord, w ∈ qT) (hb : ∀ w ∈ (vx_atS (qNm 7) ic cls ["java/lang/RuntimeException", "java/lang/Exception"]).filter (fun w => !goodWord w), w ∈ [Cond.castable cls cls, Cond.declares ⟨"java/lang/RuntimeException", "<init>", "(Ljava/lang/String;)V"⟩, Cond.declares ⟨"java/lang/Exception", "<init>", "(Ljava/lang/String;)V"⟩, Cond.declares ⟨"java/lang/Throwable", "<init>", "(Ljava/lang/String;)V"⟩]) (hot : ∀ w ∈ Cond.classLink (qNm 7) ik cls :: Cond.initialized cls :: vx_atS (qNm 7) ic cls ["java/lang/RuntimeException", "java/lang/Exception"], vx_ot w = true)
    (h1b : 1 ≤ b) (hr : (st.map fun v => v.category).sum ≤ 8) (hp : P.2 cls M) : QW X (own, cc, nL, ret, u, d) P b pc L st M := by
  subst hown7
  obtain ⟨p, l, e, s, m, args, below, meth, c, dC, dI, cyI, cyZ, ad⟩ := X
  intro ok H locs cells slots ls hP hS hl h1 h2
  obtain ⟨hx, hbb, hml, hown, hts, hret, hlocks, hex, hK, hinj, henv, hst⟩ := id ok
  obtain ⟨hU, hN, hxs, -, -, -, -, -, hcs, hds⟩ := henv
  obtain ⟨sa, hsa⟩ := hxs _ hq
  refine vx_throwSW (A := qA ad s.heap.size) (names := ["java/lang/RuntimeException", "java/lang/Exception"]) hx hbb hst hown hcls (by decide +kernel) (hts _ hcl.1) (hts _ hcl.2) hsa
    (vx_hat (fun w hw => hts w (hg w hw)) hb (vx_c ((hcs _ hc3).use rfl) (vx_c ((hds "java/lang/RuntimeException" (by decide)).use rfl) (vx_c ((hds "java/lang/Exception" (by decide)).use rfl) (vx_c ((hds "java/lang/Throwable" (by decide)).use rfl) vx_n))))) hot hU hN hS (by rw [hml]; exact hl.1) d0 d3 d4 d6 d9 (fun x hx => (hex x hx).elim) (by show 2 + 3 < d + 6; omega) (by rw [qTr_cats]; show _ + (13 * 3 + 43) ≤ 100 + 40 * d; omega) (by show cells + 1 ≤ u; omega) (by show slots + 6 ≤ 6 * u; omega) hlocks
    (fun t hvm hz hk => ⟨M, hp, hP.kept (fun k q hkq => hk _ ((hP k q hkq).lt)), ⟨Nat.le_trans hS.1 hz, fun q hq1 hq2 => (hk q (Nat.lt_of_lt_of_le hq1 hS.1)).trans (hS.2.1 q hq1 hq2)⟩⟩) hS.2.2 (by omega) (by omega)
theorem q_lp {α : Type} (μ : α → Nat) (I : α → Prop) (Lf : α → List (Option Value)) (Mf : α → qM) (x0 : α) (hL : L = Lf x0) (hM : M = Mf x0) (h0 : I x0) (h : ∀ x, I x → (∀ y L' M', I y → μ y < μ x → L' = Lf y → M' = Mf y → QW X (own, cc, nL, ret, u, d) P b pc L' st M') → QW X (own, cc, nL, ret, u, d) P b pc (Lf x) st (Mf x)) : QW X (own, cc, nL, ret, u, d) P b pc L st M := by
  rw [hL, hM]
  exact q_loop μ I Lf Mf (fun x hx ih => h x hx (fun y L' M' h1 h2 h3 h4 => by rw [h3, h4]; exact ih y h1 h2)) x0 h0
theorem q_wk (L' : List (Option Value)) (hw : wkB L' L) (k : QW X (own, cc, nL, ret, u, d) P b pc L' st M) : QW X (own, cc, nL, ret, u, d) P b pc L st M := q_weak L' (wkB_of hw) k
theorem q_mem {M' : qM} (e : M = M') (k : QW X (own, cc, nL, ret, u, d) P b pc L st M') : QW X (own, cc, nL, ret, u, d) P b pc L st M := e ▸ k
end QS
def qEIAE : String := "java/lang/IllegalArgumentException"
theorem qx_IAE : (Cond.classLink (qNm 7) 101 "java/lang/IllegalArgumentException" ∈ qT ∧ Cond.initialized "java/lang/IllegalArgumentException" ∈ qT) ∧ (∀ w ∈ (vx_atS (qNm 7) 105 "java/lang/IllegalArgumentException" ["java/lang/RuntimeException", "java/lang/Exception"]).filter goodWord, w ∈ qT) ∧ (∀ w ∈ (vx_atS (qNm 7) 105 "java/lang/IllegalArgumentException" ["java/lang/RuntimeException", "java/lang/Exception"]).filter (fun w => !goodWord w), w ∈ [Cond.castable "java/lang/IllegalArgumentException" "java/lang/IllegalArgumentException", Cond.declares ⟨"java/lang/RuntimeException", "<init>", "(Ljava/lang/String;)V"⟩, Cond.declares ⟨"java/lang/Exception", "<init>", "(Ljava/lang/String;)V"⟩, Cond.declares ⟨"java/lang/Throwable", "<init>", "(Ljava/lang/String;)V"⟩]) ∧ (∀ w ∈ Cond.classLink (qNm 7) 101 "java/lang/IllegalArgumentException" :: Cond.initialized "java/lang/IllegalArgumentException" :: vx_atS (qNm 7) 105 "java/lang/IllegalArgumentException" ["java/lang/RuntimeException", "java/lang/Exception"], vx_ot w = true) := by
  refine ⟨⟨qT_of 718 (by decide +kernel) (by decide +kernel), qT_of 130 (by decide +kernel) (by decide +kernel)⟩, fun w hw => List.mem_filter.mpr ⟨?_, (List.mem_filter.mp hw).2⟩, by decide +kernel, by decide +kernel⟩
  have h : ((vx_atS (qNm 7) 105 "java/lang/IllegalArgumentException" ["java/lang/RuntimeException", "java/lang/Exception"]).filter goodWord).all (fun w => decide (w ∈ lw_tbl)) = true := by decide +kernel
  exact of_decide_eq_true (List.all_eq_true.mp h w hw)
theorem qt_X7_load_47 {X : qX} {nL : Nat} {ret : Option FieldType} {u d : Nat} {P : qP} {b : Nat} {L : List (Option Value)} {M : qM} (h1b : 1 ≤ b) (hp : P.2 qEIAE M) : QW X (7, cX7_load, nL, ret, u, d) P b 47 L [] M := q_throw rfl dX7_load_47 dX7_load_50 dX7_load_51 dX7_load_53 dX7_load_56 (text := "the text has an error") (cls := "java/lang/IllegalArgumentException") (by decide +kernel) (by decide +kernel) qx_IAE.1 (by decide) qx_IAE.2.1 qx_IAE.2.2.1 qx_IAE.2.2.2 h1b (by decide) hp
theorem qt_X7_count_62 {X : qX} {nL : Nat} {ret : Option FieldType} {u d : Nat} {P : qP} {b : Nat} {L : List (Option Value)} {M : qM} (h1b : 1 ≤ b) (hp : P.2 qEIAE M) : QW X (7, cX7_count, nL, ret, u, d) P b 62 L [] M := q_throw rfl dX7_count_62 dX7_count_65 dX7_count_66 dX7_count_68 dX7_count_71 (text := "no such count") (cls := "java/lang/IllegalArgumentException") (by decide +kernel) (by decide +kernel) qx_IAE.1 (by decide) qx_IAE.2.1 qx_IAE.2.2.1 qx_IAE.2.2.2 h1b (by decide) hp
def qEIOE : String := "java/lang/IndexOutOfBoundsException"
theorem qx_IOE : (Cond.classLink (qNm 7) 192 "java/lang/IndexOutOfBoundsException" ∈ qT ∧ Cond.initialized "java/lang/IndexOutOfBoundsException" ∈ qT) ∧ (∀ w ∈ (vx_atS (qNm 7) 196 "java/lang/IndexOutOfBoundsException" ["java/lang/RuntimeException", "java/lang/Exception"]).filter goodWord, w ∈ qT) ∧ (∀ w ∈ (vx_atS (qNm 7) 196 "java/lang/IndexOutOfBoundsException" ["java/lang/RuntimeException", "java/lang/Exception"]).filter (fun w => !goodWord w), w ∈ [Cond.castable "java/lang/IndexOutOfBoundsException" "java/lang/IndexOutOfBoundsException", Cond.declares ⟨"java/lang/RuntimeException", "<init>", "(Ljava/lang/String;)V"⟩, Cond.declares ⟨"java/lang/Exception", "<init>", "(Ljava/lang/String;)V"⟩, Cond.declares ⟨"java/lang/Throwable", "<init>", "(Ljava/lang/String;)V"⟩]) ∧ (∀ w ∈ Cond.classLink (qNm 7) 192 "java/lang/IndexOutOfBoundsException" :: Cond.initialized "java/lang/IndexOutOfBoundsException" :: vx_atS (qNm 7) 196 "java/lang/IndexOutOfBoundsException" ["java/lang/RuntimeException", "java/lang/Exception"], vx_ot w = true) := by
  refine ⟨⟨qT_of 408 (by decide +kernel) (by decide +kernel), qT_of 122 (by decide +kernel) (by decide +kernel)⟩, fun w hw => List.mem_filter.mpr ⟨?_, (List.mem_filter.mp hw).2⟩, by decide +kernel, by decide +kernel⟩
  have h : ((vx_atS (qNm 7) 196 "java/lang/IndexOutOfBoundsException" ["java/lang/RuntimeException", "java/lang/Exception"]).filter goodWord).all (fun w => decide (w ∈ lw_tbl)) = true := by decide +kernel
  exact of_decide_eq_true (List.all_eq_true.mp h w hw)
theorem qt_X7_select_13 {X : qX} {nL : Nat} {ret : Option FieldType} {u d : Nat} {P : qP} {b : Nat} {L : List (Option Value)} {M : qM} (h1b : 1 ≤ b) (hp : P.2 qEIOE M) : QW X (7, cX7_select, nL, ret, u, d) P b 13 L [] M := q_throw rfl dX7_select_13 dX7_select_16 dX7_select_17 dX7_select_19 dX7_select_22 (text := "k is negative") (cls := "java/lang/IndexOutOfBoundsException") (by decide +kernel) (by decide +kernel) qx_IOE.1 (by decide) qx_IOE.2.1 qx_IOE.2.2.1 qx_IOE.2.2.2 h1b (by decide) hp
theorem qt_X7_parts_18 {X : qX} {nL : Nat} {ret : Option FieldType} {u d : Nat} {P : qP} {b : Nat} {L : List (Option Value)} {M : qM} (h1b : 1 ≤ b) (hp : P.2 qEIAE M) : QW X (7, cX7_parts, nL, ret, u, d) P b 18 L [] M := q_throw rfl dX7_parts_18 dX7_parts_21 dX7_parts_22 dX7_parts_24 dX7_parts_27 (text := "no such part") (cls := "java/lang/IllegalArgumentException") (by decide +kernel) (by decide +kernel) qx_IAE.1 (by decide) qx_IAE.2.1 qx_IAE.2.2.1 qx_IAE.2.2.2 h1b (by decide) hp
theorem qt_X7_block_140 {X : qX} {nL : Nat} {ret : Option FieldType} {u d : Nat} {P : qP} {b : Nat} {L : List (Option Value)} {M : qM} (h1b : 1 ≤ b) (hp : P.2 qEIAE M) : QW X (7, cX7_block, nL, ret, u, d) P b 140 L [] M := q_throw rfl dX7_block_140 dX7_block_143 dX7_block_144 dX7_block_146 dX7_block_149 (text := "no such property") (cls := "java/lang/IllegalArgumentException") (by decide +kernel) (by decide +kernel) qx_IAE.1 (by decide) qx_IAE.2.1 qx_IAE.2.2.1 qx_IAE.2.2.2 h1b (by decide) hp
theorem qt_X7_biggest_23 {X : qX} {nL : Nat} {ret : Option FieldType} {u d : Nat} {P : qP} {b : Nat} {L : List (Option Value)} {M : qM} (h1b : 1 ≤ b) (hp : P.2 qEIAE M) : QW X (7, cX7_biggest, nL, ret, u, d) P b 23 L [] M := q_throw rfl dX7_biggest_23 dX7_biggest_26 dX7_biggest_27 dX7_biggest_29 dX7_biggest_32 (text := "no such code of a block that is left out") (cls := "java/lang/IllegalArgumentException") (by decide +kernel) (by decide +kernel) qx_IAE.1 (by decide) qx_IAE.2.1 qx_IAE.2.2.1 qx_IAE.2.2.2 h1b (by decide) hp
theorem qt_X7_writeBits_24 {X : qX} {nL : Nat} {ret : Option FieldType} {u d : Nat} {P : qP} {b : Nat} {L : List (Option Value)} {M : qM} (h1b : 1 ≤ b) (hp : P.2 qEIAE M) : QW X (7, cX7_writeBits, nL, ret, u, d) P b 24 L [] M := q_throwW rfl dX7_writeBits_24 dX7_writeBits_27 dX7_writeBits_28 dX7_writeBits_31 dX7_writeBits_34 (text := "the range has too many bits") (cls := "java/lang/IllegalArgumentException") (by decide +kernel) (by decide +kernel) qx_IAE.1 (by decide) qx_IAE.2.1 qx_IAE.2.2.1 qx_IAE.2.2.2 h1b (by decide) hp
theorem qt_X7_textByte_15 {X : qX} {nL : Nat} {ret : Option FieldType} {u d : Nat} {P : qP} {b : Nat} {L : List (Option Value)} {M : qM} (h1b : 1 ≤ b) (hp : P.2 qEIOE M) : QW X (7, cX7_textByte, nL, ret, u, d) P b 15 L [] M := q_throwW rfl dX7_textByte_15 dX7_textByte_18 dX7_textByte_19 dX7_textByte_22 dX7_textByte_25 (text := "no such byte of the text") (cls := "java/lang/IndexOutOfBoundsException") (by decide +kernel) (by decide +kernel) qx_IOE.1 (by decide) qx_IOE.2.1 qx_IOE.2.2.1 qx_IOE.2.2.2 h1b (by decide) hp
theorem qt_X7_read_32 {X : qX} {nL : Nat} {ret : Option FieldType} {u d : Nat} {P : qP} {b : Nat} {L : List (Option Value)} {M : qM} (h1b : 1 ≤ b) (hp : P.2 qEIAE M) : QW X (7, cX7_read, nL, ret, u, d) P b 32 L [] M := q_throwW rfl dX7_read_32 dX7_read_35 dX7_read_36 dX7_read_39 dX7_read_42 (text := "the bytes are not the tree of a map") (cls := "java/lang/IllegalArgumentException") (by decide +kernel) (by decide +kernel) qx_IAE.1 (by decide) qx_IAE.2.1 qx_IAE.2.2.1 qx_IAE.2.2.2 h1b (by decide) hp
def qEISE : String := "java/lang/IllegalStateException"
theorem qx_ISE : (Cond.classLink (qNm 7) 313 "java/lang/IllegalStateException" ∈ qT ∧ Cond.initialized "java/lang/IllegalStateException" ∈ qT) ∧ (∀ w ∈ (vx_atS (qNm 7) 317 "java/lang/IllegalStateException" ["java/lang/RuntimeException", "java/lang/Exception"]).filter goodWord, w ∈ qT) ∧ (∀ w ∈ (vx_atS (qNm 7) 317 "java/lang/IllegalStateException" ["java/lang/RuntimeException", "java/lang/Exception"]).filter (fun w => !goodWord w), w ∈ [Cond.castable "java/lang/IllegalStateException" "java/lang/IllegalStateException", Cond.declares ⟨"java/lang/RuntimeException", "<init>", "(Ljava/lang/String;)V"⟩, Cond.declares ⟨"java/lang/Exception", "<init>", "(Ljava/lang/String;)V"⟩, Cond.declares ⟨"java/lang/Throwable", "<init>", "(Ljava/lang/String;)V"⟩]) ∧ (∀ w ∈ Cond.classLink (qNm 7) 313 "java/lang/IllegalStateException" :: Cond.initialized "java/lang/IllegalStateException" :: vx_atS (qNm 7) 317 "java/lang/IllegalStateException" ["java/lang/RuntimeException", "java/lang/Exception"], vx_ot w = true) := by
  refine ⟨⟨qT_of 771 (by decide +kernel) (by decide +kernel), qT_of 131 (by decide +kernel) (by decide +kernel)⟩, fun w hw => List.mem_filter.mpr ⟨?_, (List.mem_filter.mp hw).2⟩, by decide +kernel, by decide +kernel⟩
  have h : ((vx_atS (qNm 7) 317 "java/lang/IllegalStateException" ["java/lang/RuntimeException", "java/lang/Exception"]).filter goodWord).all (fun w => decide (w ∈ lw_tbl)) = true := by decide +kernel
  exact of_decide_eq_true (List.all_eq_true.mp h w hw)
theorem qt_X7_undo_10 {X : qX} {nL : Nat} {ret : Option FieldType} {u d : Nat} {P : qP} {b : Nat} {L : List (Option Value)} {M : qM} (h1b : 1 ≤ b) (hp : P.2 qEISE M) : QW X (7, cX7_undo, nL, ret, u, d) P b 10 L [] M := q_throwW rfl dX7_undo_10 dX7_undo_13 dX7_undo_14 dX7_undo_17 dX7_undo_20 (text := "no change can be undone") (cls := "java/lang/IllegalStateException") (by decide +kernel) (by decide +kernel) qx_ISE.1 (by decide) qx_ISE.2.1 qx_ISE.2.2.1 qx_ISE.2.2.2 h1b (by decide) hp
theorem qt_X7_restore_16 {X : qX} {nL : Nat} {ret : Option FieldType} {u d : Nat} {P : qP} {b : Nat} {L : List (Option Value)} {M : qM} (h1b : 1 ≤ b) (hp : P.2 qEISE M) : QW X (7, cX7_restore, nL, ret, u, d) P b 16 L [] M := q_throwW rfl dX7_restore_16 dX7_restore_19 dX7_restore_20 dX7_restore_23 dX7_restore_26 (text := "nothing is saved there") (cls := "java/lang/IllegalStateException") (by decide +kernel) (by decide +kernel) qx_ISE.1 (by decide) qx_ISE.2.1 qx_ISE.2.2.1 qx_ISE.2.2.2 h1b (by decide) hp
theorem qt_X7_requireText_7 {X : qX} {nL : Nat} {ret : Option FieldType} {u d : Nat} {P : qP} {b : Nat} {L : List (Option Value)} {M : qM} (h1b : 1 ≤ b) (hp : P.2 qEISE M) : QW X (7, cX7_requireText, nL, ret, u, d) P b 7 L [] M := q_throwW rfl dX7_requireText_7 dX7_requireText_10 dX7_requireText_11 dX7_requireText_14 dX7_requireText_17 (text := "no text was loaded") (cls := "java/lang/IllegalStateException") (by decide +kernel) (by decide +kernel) qx_ISE.1 (by decide) qx_ISE.2.1 qx_ISE.2.2.1 qx_ISE.2.2.2 h1b (by decide) hp
theorem qt_X7_requireBuffered_15 {X : qX} {nL : Nat} {ret : Option FieldType} {u d : Nat} {P : qP} {b : Nat} {L : List (Option Value)} {M : qM} (h1b : 1 ≤ b) (hp : P.2 qEIOE M) : QW X (7, cX7_requireBuffered, nL, ret, u, d) P b 15 L [] M := q_throwW rfl dX7_requireBuffered_15 dX7_requireBuffered_18 dX7_requireBuffered_19 dX7_requireBuffered_22 dX7_requireBuffered_25 (text := "the buffer has not so many bytes") (cls := "java/lang/IndexOutOfBoundsException") (by decide +kernel) (by decide +kernel) qx_IOE.1 (by decide) qx_IOE.2.1 qx_IOE.2.2.1 qx_IOE.2.2.2 h1b (by decide) hp
theorem qt_X7_requireMap_12 {X : qX} {nL : Nat} {ret : Option FieldType} {u d : Nat} {P : qP} {b : Nat} {L : List (Option Value)} {M : qM} (h1b : 1 ≤ b) (hp : P.2 qEIOE M) : QW X (7, cX7_requireMap, nL, ret, u, d) P b 12 L [] M := q_throwW rfl dX7_requireMap_12 dX7_requireMap_15 dX7_requireMap_16 dX7_requireMap_19 dX7_requireMap_22 (text := "no such map") (cls := "java/lang/IndexOutOfBoundsException") (by decide +kernel) (by decide +kernel) qx_IOE.1 (by decide) qx_IOE.2.1 qx_IOE.2.2.1 qx_IOE.2.2.2 h1b (by decide) hp
theorem qt_X7_requirePosition_18 {X : qX} {nL : Nat} {ret : Option FieldType} {u d : Nat} {P : qP} {b : Nat} {L : List (Option Value)} {M : qM} (h1b : 1 ≤ b) (hp : P.2 qEIOE M) : QW X (7, cX7_requirePosition, nL, ret, u, d) P b 18 L [] M := q_throwW rfl dX7_requirePosition_18 dX7_requirePosition_21 dX7_requirePosition_22 dX7_requirePosition_25 dX7_requirePosition_28 (text := "no such position") (cls := "java/lang/IndexOutOfBoundsException") (by decide +kernel) (by decide +kernel) qx_IOE.1 (by decide) qx_IOE.2.1 qx_IOE.2.2.1 qx_IOE.2.2.2 h1b (by decide) hp
theorem qt_X7_requireRange_15 {X : qX} {nL : Nat} {ret : Option FieldType} {u d : Nat} {P : qP} {b : Nat} {L : List (Option Value)} {M : qM} (h1b : 1 ≤ b) (hp : P.2 qEIOE M) : QW X (7, cX7_requireRange, nL, ret, u, d) P b 15 L [] M := q_throwW rfl dX7_requireRange_15 dX7_requireRange_18 dX7_requireRange_19 dX7_requireRange_22 dX7_requireRange_25 (text := "the range ends before it begins") (cls := "java/lang/IndexOutOfBoundsException") (by decide +kernel) (by decide +kernel) qx_IOE.1 (by decide) qx_IOE.2.1 qx_IOE.2.2.1 qx_IOE.2.2.2 h1b (by decide) hp
theorem qt_X7_requireLevel_12 {X : qX} {nL : Nat} {ret : Option FieldType} {u d : Nat} {P : qP} {b : Nat} {L : List (Option Value)} {M : qM} (h1b : 1 ≤ b) (hp : P.2 qEIOE M) : QW X (7, cX7_requireLevel, nL, ret, u, d) P b 12 L [] M := q_throwW rfl dX7_requireLevel_12 dX7_requireLevel_15 dX7_requireLevel_16 dX7_requireLevel_19 dX7_requireLevel_22 (text := "no such level") (cls := "java/lang/IndexOutOfBoundsException") (by decide +kernel) (by decide +kernel) qx_IOE.1 (by decide) qx_IOE.2.1 qx_IOE.2.2.1 qx_IOE.2.2.2 h1b (by decide) hp
theorem qt_X7_requireBlock_21 {X : qX} {nL : Nat} {ret : Option FieldType} {u d : Nat} {P : qP} {b : Nat} {L : List (Option Value)} {M : qM} (h1b : 1 ≤ b) (hp : P.2 qEIOE M) : QW X (7, cX7_requireBlock, nL, ret, u, d) P b 21 L [] M := q_throwW rfl dX7_requireBlock_21 dX7_requireBlock_24 dX7_requireBlock_25 dX7_requireBlock_28 dX7_requireBlock_31 (text := "no such block") (cls := "java/lang/IndexOutOfBoundsException") (by decide +kernel) (by decide +kernel) qx_IOE.1 (by decide) qx_IOE.2.1 qx_IOE.2.2.1 qx_IOE.2.2.2 h1b (by decide) hp
theorem qt_X7_requireByteOf_13 {X : qX} {nL : Nat} {ret : Option FieldType} {u d : Nat} {P : qP} {b : Nat} {L : List (Option Value)} {M : qM} (h1b : 1 ≤ b) (hp : P.2 qEIOE M) : QW X (7, cX7_requireByteOf, nL, ret, u, d) P b 13 L [] M := q_throwW rfl dX7_requireByteOf_13 dX7_requireByteOf_16 dX7_requireByteOf_17 dX7_requireByteOf_20 dX7_requireByteOf_23 (text := "no such byte") (cls := "java/lang/IndexOutOfBoundsException") (by decide +kernel) (by decide +kernel) qx_IOE.1 (by decide) qx_IOE.2.1 qx_IOE.2.2.1 qx_IOE.2.2.2 h1b (by decide) hp
theorem qt_X7_requireSlot_9 {X : qX} {nL : Nat} {ret : Option FieldType} {u d : Nat} {P : qP} {b : Nat} {L : List (Option Value)} {M : qM} (h1b : 1 ≤ b) (hp : P.2 qEIOE M) : QW X (7, cX7_requireSlot, nL, ret, u, d) P b 9 L [] M := q_throwW rfl dX7_requireSlot_9 dX7_requireSlot_12 dX7_requireSlot_13 dX7_requireSlot_16 dX7_requireSlot_19 (text := "no such slot") (cls := "java/lang/IndexOutOfBoundsException") (by decide +kernel) (by decide +kernel) qx_IOE.1 (by decide) qx_IOE.2.1 qx_IOE.2.2.1 qx_IOE.2.2.2 h1b (by decide) hp
theorem qt_X7_requireBit_9 {X : qX} {nL : Nat} {ret : Option FieldType} {u d : Nat} {P : qP} {b : Nat} {L : List (Option Value)} {M : qM} (h1b : 1 ≤ b) (hp : P.2 qEIAE M) : QW X (7, cX7_requireBit, nL, ret, u, d) P b 9 L [] M := q_throwW rfl dX7_requireBit_9 dX7_requireBit_12 dX7_requireBit_13 dX7_requireBit_16 dX7_requireBit_19 (text := "a bit is 0 or 1") (cls := "java/lang/IllegalArgumentException") (by decide +kernel) (by decide +kernel) qx_IAE.1 (by decide) qx_IAE.2.1 qx_IAE.2.2.1 qx_IAE.2.2.2 h1b (by decide) hp
theorem qt_X7_requireKind_9 {X : qX} {nL : Nat} {ret : Option FieldType} {u d : Nat} {P : qP} {b : Nat} {L : List (Option Value)} {M : qM} (h1b : 1 ≤ b) (hp : P.2 qEIAE M) : QW X (7, cX7_requireKind, nL, ret, u, d) P b 9 L [] M := q_throwW rfl dX7_requireKind_9 dX7_requireKind_12 dX7_requireKind_13 dX7_requireKind_16 dX7_requireKind_19 (text := "no such combination") (cls := "java/lang/IllegalArgumentException") (by decide +kernel) (by decide +kernel) qx_IAE.1 (by decide) qx_IAE.2.1 qx_IAE.2.2.1 qx_IAE.2.2.2 h1b (by decide) hp

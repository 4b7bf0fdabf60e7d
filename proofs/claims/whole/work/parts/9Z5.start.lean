/-! whole_start (gen/start.py). -/
theorem zi_cls : ∀ (ci : Nat) (r : vw_C), vwCl[ci]? = some r → Cond.instantiable r.1 r.2.2 ∈ qT := by
  have h : ∀ r ∈ vwCl, (decide (Cond.instantiable r.1 r.2.2 ∈ lw_tbl) && goodWord (Cond.instantiable r.1 r.2.2)) = true := by decide +kernel
  intro ci r hr
  have h1 := h r (List.mem_of_getElem? hr)
  simp only [Bool.and_eq_true, decide_eq_true_eq] at h1
  exact List.mem_filter.mpr h1
theorem zo_L : Cond.arrayClass .long ∈ lw_tbl := List.mem_of_getElem? (i := 1986) (by decide +kernel)
theorem zo_D : Cond.arrayClass .double ∈ lw_tbl := List.mem_of_getElem? (i := 1987) (by decide +kernel)
theorem zo_N : iNw ∈ lw_tbl := List.mem_of_getElem? (i := 156) (by decide +kernel)
theorem z_cls {s : State} {args : Array Value} (hts : ∀ w ∈ qT, w.before args s = true) : ∃ (dC : Nat → ClassId) (dI : Nat → Nat → Nat), ∀ (k : Nat) (q : vw_C), vwCl[k]? = some q → u_Kn s q.1 q.2.1 q.2.2 (dC k) (dI k) := by
  have h0 : ∀ k : Nat, ∃ x : ClassId × (Nat → Nat), ∀ q : vw_C, vwCl[k]? = some q → u_Kn s q.1 q.2.1 q.2.2 x.1 x.2 := by
    intro k
    cases hk : vwCl[k]? with
    | none => exact ⟨(0, fun _ => 0), fun q h => by cases h⟩
    | some q =>
      obtain ⟨c, i, hc⟩ := u_known (C := q.1) (T := q.2.1) (N := q.2.2) (n := q.2.2) hts (q_cls k q hk) (hts _ (zi_cls k q hk))
      refine ⟨(c, i), fun q' h => ?_⟩
      cases h
      exact hc
  obtain ⟨f, hf⟩ := Classical.axiomOfChoice h0
  exact ⟨fun k => (f k).1, fun k => (f k).2, fun k q h => hf k q h⟩
theorem z_flags {l : Launch} (h : l.flags = flags0) : l.stackTraces = false := by
  unfold Launch.stackTraces
  rw [h]
  decide +kernel
set_option maxRecDepth 20000 in
set_option maxHeartbeats 4000000 in
theorem whole_start {p : Program} {e : Env} {s : State} {m : MethodId} {below : List Frame} {meth : Method} {c : Code} (l : Launch) (hflags : l.flags = flags0) {b L : Nat} {xs : Nat → Int32} (hL : L ≤ 3072) (hxt : ∀ z ∈ c.exceptionTable.toList, False) (C0 : lw_At p s m meth c b L xs) : W p l e room_1 s m #[Value.ref b] below meth c s.heap [] 0 0 (lw_Z below #[Value.ref b] s) (entryFrame m ([Value.ref b] : List Value).toArray 9) := by
  obtain ⟨hx, hb, hr, hml, hown, htw, hX, hbl, hlocks, hgv⟩ := id C0
  have hex : c.exceptionTable.toList = tableOf [] := List.eq_nil_iff_forall_not_mem.mpr hxt
  have hts : ∀ w ∈ qT, w.before #[Value.ref b] s = true := fun w hw => htw w (List.mem_filter.mp hw).1
  have hAn : ∀ a : Nat, a < s.heap.size → ¬ (fun q : Nat => s.heap.size ≤ q) a := fun a h1 h2 => by
    have h3 : s.heap.size ≤ a := h2
    omega
  obtain ⟨dC, dI, hKc⟩ := z_cls hts
  obtain ⟨cyI, hI1, hI2⟩ := z_arr (hts _ zo_I)
  obtain ⟨cyZ, hZ1, hZ2⟩ := z_arr (hts _ zo_Z)
  obtain ⟨cyL, hL1, hL2⟩ := z_arr (htw _ zo_L)
  obtain ⟨cyD, hD1, hD2⟩ := z_arr (htw _ zo_D)
  have hK4 : va_K (dC, dI) vwCl (lTy cyI cyZ cyL cyD) s := by
    refine ⟨hKc, fun k q hq => ?_⟩
    have hk : k < 4 := (List.getElem?_eq_some_iff.mp hq).1
    rcases (show k = 0 ∨ k = 1 ∨ k = 2 ∨ k = 3 by omega) with rfl | rfl | rfl | rfl
    · cases hq
      exact ⟨hI1, hI2⟩
    · cases hq
      exact ⟨hZ1, hZ2⟩
    · cases hq
      exact ⟨hL1, hL2⟩
    · cases hq
      exact ⟨hD1, hD2⟩
  have hst : l.stackTraces = false := z_flags hflags
  obtain ⟨sk, sv, fm, hEnv⟩ := z_env (A := fun q : Nat => s.heap.size ≤ q) htw hgv hAn
  have hl := lv_entry ([.ref b]) (n := 9) (Nat.le_of_ble_eq_true rfl)
  rw [lg_entry_eq]
  have K : IW (p, l, e, s, m, #[Value.ref b], below, meth, c, dC, dI, cyI, cyZ) (9, cL_law, 9, room_1, (fun q : Nat => s.heap.size ≤ q), lw_Z below #[Value.ref b] s) 0 0 0 (lv_args 0 [.ref b]) [] ([] : va_W) := by
    refine i_new dL_law_0 nw_9_8 (Nat.le_of_ble_eq_true rfl) (Nat.le_of_ble_eq_true rfl) (fun q0 => ?_)
    refine i_dup dL_law_3 rfl ?_
    refine i_call (As := []) (rest := [.ref q0]) (q := q0) dL_law_4 c_X7 ml_9_164 mi_X7 rfl rfl (Nat.le_of_ble_eq_true rfl) (Nat.le_of_ble_eq_true rfl) (Nat.le_of_ble_eq_true rfl) (Nat.le_of_ble_eq_true rfl) (Nat.le_of_ble_eq_true rfl) (fun a7 => ?_)
    refine i_astore_n (L' := [(1, .ref q0), (0, .ref b)]) dL_law_7 (Nat.le_of_ble_eq_true rfl) rfl ?_
    refine i_new dL_law_8 nw_9_165 (Nat.le_of_ble_eq_true rfl) (Nat.le_of_ble_eq_true rfl) (fun q1 => ?_)
    refine i_dup dL_law_11 rfl ?_
    refine i_call (As := []) (rest := [.ref q1]) (q := q1) dL_law_12 c_X8 ml_9_167 mi_X8 rfl rfl (Nat.le_of_ble_eq_true rfl) (Nat.le_of_ble_eq_true rfl) (Nat.le_of_ble_eq_true rfl) (Nat.le_of_ble_eq_true rfl) (Nat.le_of_ble_eq_true rfl) (fun a8 => ?_)
    refine i_astore_n (L' := [(2, .ref q1), (1, .ref q0), (0, .ref b)]) dL_law_15 (Nat.le_of_ble_eq_true rfl) rfl ?_
    intro ok H locs ls hP hD hS hl
    have hA : ∀ q : Nat, s.heap.size ≤ q → (fun q : Nat => s.heap.size ≤ q) q := fun _ h => h
    refine lv_iconst (v := 1) hx hb dL_law_16 (by decide) ?_
    refine va_newa (atype := .long) (ty := .long) (a0 := (1, .inr (.inl (fun _ => 0)))) (N' := 1) hx hb (htw _ zo_L) rfl hK4 hP hD hS hA (fun _ => rfl) (by decide) rfl (Nat.le_of_ble_eq_true rfl) (Nat.le_of_ble_eq_true rfl) (Nat.le_of_ble_eq_true rfl) dL_law_17 (fun q2 cL H hKL hP hD hS => ?_)
    have eL : cL = cyL := by
      have e1 : s.vm.findClass ("[" ++ FieldType.long.toString) = some cL := (hKL.2 4 (cL, .long) rfl).2
      rw [hL2] at e1
      exact (Option.some.inj e1).symm
    rw [eL] at hP hD
    refine lv_astore_n (lv' := [(3, .ref q2), (2, .ref q1), (1, .ref q0), (0, .ref b)]) hx hb dL_law_19 rfl hl (by decide) rfl (fun ls hl => ?_)
    refine lv_iconst (v := 1) hx hb dL_law_20 (by decide) ?_
    refine va_newa (atype := .double) (ty := .double) (a0 := (1, .inr (.inr (.inr (.inl (fun _ => 0)))))) (N' := 1) hx hb (htw _ zo_D) rfl hK4 hP hD hS hA (fun _ => rfl) (by decide) rfl (Nat.le_of_ble_eq_true rfl) (Nat.le_of_ble_eq_true rfl) (Nat.le_of_ble_eq_true rfl) dL_law_21 (fun q3 cD H hKD hP hD hS => ?_)
    have eD : cD = cyD := by
      have e1 : s.vm.findClass ("[" ++ FieldType.double.toString) = some cD := (hKD.2 4 (cD, .double) rfl).2
      rw [hD2] at e1
      exact (Option.some.inj e1).symm
    rw [eD] at hP hD
    refine lv_astore (lv' := [(4, .ref q3), (3, .ref q2), (2, .ref q1), (1, .ref q0), (0, .ref b)]) hx hb dL_law_23 hl (by decide) rfl (fun ls hl => ?_)
    refine lv_iconst (v := zI 0) hx hb dL_law_25 rfl ?_
    refine lv_istore (lv' := [(5, .int (zI 0)), (4, .ref q3), (3, .ref q2), (2, .ref q1), (1, .ref q0), (0, .ref b)]) hx hb dL_law_26 hl (by decide) rfl (fun ls hl => ?_)
    have hPw : va_P (dC, dI) vwCl (zW cyI cyZ cyL cyD q0 q1 q2 q3 a7 a8) H := hP
    have hDw : va_D (fun q : Nat => s.heap.size ≤ q) (zW cyI cyZ cyL cyD q0 q1 q2 q3 a7 a8) := hD
    have hin : lInj (zAd q0 q1 q2 q3 b a7 a8 sk sv fm) := z_inj hDw
    have hin2 : ∀ k, k < 54 → s.heap.size ≤ zAd q0 q1 q2 q3 b a7 a8 sk sv fm k := z_in (B := fun q : Nat => s.heap.size ≤ q) hDw
    have hEq : qEnv (zAd q0 q1 q2 q3 b a7 a8 sk sv fm) (fun q : Nat => s.heap.size ≤ q) s s.heap := hEnv _ (by
      intro i hi
      rcases (show i = 0 ∨ i = 1 ∨ i = 2 ∨ i = 3 ∨ i = 4 ∨ i = 5 ∨ i = 6 by omega) with rfl | rfl | rfl | rfl | rfl | rfl | rfl <;> rfl) (by
      intro i hi
      rcases (show i = 0 ∨ i = 1 ∨ i = 2 ∨ i = 3 ∨ i = 4 ∨ i = 5 ∨ i = 6 by omega) with rfl | rfl | rfl | rfl | rfl | rfl | rfl <;> rfl) rfl
    have hlw : qLs (zAd q0 q1 q2 q3 b a7 a8 sk sv fm) ls 9 [some (.ref 54), some (.ref 0), some (.ref 37), some (.ref 52), some (.ref 53), some (.int (zI 0)), none, none, none] := lv_sub hl [5, 4, 3, 2, 1, 0] rfl
    refine W.widen (k := 54) (n := 35343) (Nat.le_of_ble_eq_true rfl) (Nat.le_of_ble_eq_true rfl) ?_
    exact law_go (p := p) (l := l) (e := e) (s := s) (m := m) (below := below) (meth := meth) (c := c) (b := b) (kc := 54) (ks := 35343) (f := fun _ => 0) (g := fun _ => 0) (cy := (cyL, cyD)) (ad := zAd q0 q1 q2 q3 b a7 a8 sk sv fm) (dC := dC) (dI := dI) (cyI := cyI) (cyZ := cyZ) (Ls := L) (xs := xs) ⟨hX, hbl, hAn b hbl⟩ hL (Nat.le_of_ble_eq_true rfl) (Nat.le_of_ble_eq_true rfl)
      ⟨hx, hb, hml, hown, hts, hr, hlocks, hex, hK4, hin, hEq, hst, z_lenv hgv, hin2, fun q h => h⟩ H locs ls (z_P hPw) hS hlw
  exact K ⟨hx, hb, hml, hown, hts, hlocks, fun h => absurd rfl h, ⟨hKc, fun k q hq => hK4.2 k q (by
    have hk : k < 2 := (List.getElem?_eq_some_iff.mp hq).1
    rcases (show k = 0 ∨ k = 1 by omega) with rfl | rfl <;> exact hq)⟩, va_Nw.of rfl (htw _ zo_N), fun q h => h⟩ s.heap [] _ (fun k q h => by simp at h) ⟨fun i j p q h => by simp at h, fun k q h => by simp at h⟩ va_S.rf hl

/-! The start of the law (gen/start.py). -/
def zPl : List Nat := [0, 1, 2, 3, 4, 12, 13, 15, 17, 19, 21, 23, 14, 16, 18, 20, 22, 24, 5, 6, 8, 10, 7, 9, 11, 25, 26, 27, 28, 29, 30, 31, 32, 33, 34, 35, 36, 37, 38, 39, 40, 41, 42, 43, 44, 45, 46, 47, 48, 49, 50, 51, 52, 53]
def zAd (q0 q1 q2 q3 b : Nat) (a7 a8 sk sv : Nat → Nat) (fm : Nat) : Nat → Nat := fun k => if k = 0 then q0 else if k < 37 then a7 k else if k = 37 then q1 else if k < 52 then a8 k else if k = 52 then q2 else if k = 53 then q3 else if k = 54 then b else if k < 107 then sk (k - 100) else if k < 117 then sv (k - 110) else fm
/-- the world behind the constructors, as they make it -/
def zW (cyI cyZ cyL cyD : ClassId) (q0 q1 q2 q3 : Nat) (a7 a8 : Nat → Nat) : va_W := [(q0, .inr (7, [.ref (a7 1), .ref (a7 3), .ref (a7 5), .ref (a7 18), .ref (a7 25), .ref (a7 28), .ref (a7 31), .ref (a7 33), .ref (a7 35), .int 0, .int 0, .int 0, .int 0, .int (-1)])),
  ((a7 1), .inr (1, [.ref (a7 2), .int 0])),
  ((a7 2), .inl (cyI, 700, .inl (fun _ => 0))),
  ((a7 3), .inr (0, [.ref (a7 4)])),
  ((a7 4), .inl (cyI, 8448, .inl (fun _ => 0))),
  ((a7 18), .inr (4, [.ref (a7 3), .ref (a7 19), .ref (a7 20), .ref (a7 21), .int 0, .int 0, .int 0, .int 0])),
  ((a7 19), .inr (5, [.ref (a7 22)])),
  ((a7 22), .inl (cyI, 5, .inl (fun _ => 0))),
  ((a7 20), .inr (5, [.ref (a7 23)])),
  ((a7 23), .inl (cyI, 5, .inl (fun _ => 0))),
  ((a7 21), .inr (5, [.ref (a7 24)])),
  ((a7 24), .inl (cyI, 5, .inl (fun _ => 0))),
  ((a7 5), .inr (6, [.ref (a7 3), .ref (a7 6), .ref (a7 7), .ref (a7 8), .ref (a7 9), .ref (a7 10), .ref (a7 11), .int 0, .int 0])),
  ((a7 6), .inr (5, [.ref (a7 12)])),
  ((a7 12), .inl (cyI, 341, .inl (fun _ => 0))),
  ((a7 7), .inr (5, [.ref (a7 13)])),
  ((a7 13), .inl (cyI, 341, .inl (fun _ => 0))),
  ((a7 8), .inr (5, [.ref (a7 14)])),
  ((a7 14), .inl (cyI, 341, .inl (fun _ => 0))),
  ((a7 9), .inr (5, [.ref (a7 15)])),
  ((a7 15), .inl (cyI, 341, .inl (fun _ => 0))),
  ((a7 10), .inr (5, [.ref (a7 16)])),
  ((a7 16), .inl (cyI, 341, .inl (fun _ => 0))),
  ((a7 11), .inr (5, [.ref (a7 17)])),
  ((a7 17), .inl (cyI, 341, .inl (fun _ => 0))),
  ((a7 25), .inr (3, [.ref (a7 1), .ref (a7 3), .ref (a7 18), .ref (a7 26), .int 0, .int 0, .int 0, .int 0, .int 0, .int 0, .int 0, .int 0, .int 0])),
  ((a7 26), .inr (5, [.ref (a7 27)])),
  ((a7 27), .inl (cyI, 6, .inl (fun _ => 0))),
  ((a7 28), .inr (2, [.ref (a7 3), .ref (a7 29), .int 0, .int 0])),
  ((a7 29), .inr (5, [.ref (a7 30)])),
  ((a7 30), .inl (cyI, 8, .inl (fun _ => 0))),
  ((a7 31), .inr (1, [.ref (a7 32), .int 0])),
  ((a7 32), .inl (cyI, 1023, .inl (fun _ => 0))),
  ((a7 33), .inr (5, [.ref (a7 34)])),
  ((a7 34), .inl (cyI, 6, .inl (fun _ => 0))),
  ((a7 35), .inr (5, [.ref (a7 36)])),
  ((a7 36), .inl (cyI, 2, .inl (fun _ => 0))),
  (q1, .inr (8, [.int 0, .int 0, .int 0, .int 0, .ref (a8 38), .ref (a8 39), .ref (a8 40), .int 0, .ref (a8 41), .int 0, .ref (a8 42), .ref (a8 43), .int 0, .ref (a8 44), .ref (a8 45), .ref (a8 46), .ref (a8 47), .int 0, .int 0, .int 0, .ref (a8 48), .int 0, .int 0, .int (-1), .int 0, .int 0, .int 0, .int 0, .int 0, .int 0, .int 0, .int 0, .ref (a8 49), .ref (a8 50), .ref (a8 51), .int 0])),
  ((a8 38), .inl (cyI, 36, .inl (fun _ => 0))),
  ((a8 39), .inl (cyI, 1536, .inl (fun _ => 0))),
  ((a8 40), .inl (cyI, 15360, .inl (fun _ => 0))),
  ((a8 41), .inl (cyZ, 2, .inl (fun _ => 0))),
  ((a8 42), .inl (cyI, 256, .inl (fun _ => 0))),
  ((a8 43), .inl (cyI, 400, .inl (fun _ => 0))),
  ((a8 44), .inl (cyI, 341, .inl (fun _ => 0))),
  ((a8 45), .inl (cyI, 341, .inl (fun _ => 0))),
  ((a8 46), .inl (cyI, 341, .inl (fun _ => 0))),
  ((a8 47), .inl (cyI, 700, .inl (fun _ => 0))),
  ((a8 48), .inl (cyI, 700, .inl (fun _ => 0))),
  ((a8 49), .inl (cyI, 36, .inl (fun _ => 0))),
  ((a8 50), .inl (cyI, 1536, .inl (fun _ => 0))),
  ((a8 51), .inl (cyI, 1400, .inl (fun _ => 0))),
  (q2, .inl (cyL, 1, .inr (.inl (fun _ => 0)))),
  (q3, .inl (cyD, 1, .inr (.inr (.inr (.inl (fun _ => 0))))))]
theorem zPl_inj : ∀ i, i < 54 → ∀ j, j < 54 → zPl.getD i 0 = zPl.getD j 0 → i = j := by decide +kernel
theorem zPl_0 {cyI cyZ cyL cyD : ClassId} {q0 q1 q2 q3 b : Nat} {a7 a8 sk sv : Nat → Nat} {fm : Nat} : ∀ i, 0 ≤ i → i < 9 → ∃ e, (zW cyI cyZ cyL cyD q0 q1 q2 q3 a7 a8)[zPl.getD i 0]? = some (zAd q0 q1 q2 q3 b a7 a8 sk sv fm i, e) := by
  intro i h0 h1
  rcases (show i = 0 ∨ i = 1 ∨ i = 2 ∨ i = 3 ∨ i = 4 ∨ i = 5 ∨ i = 6 ∨ i = 7 ∨ i = 8 by omega) with rfl | rfl | rfl | rfl | rfl | rfl | rfl | rfl | rfl
  · exact ⟨_, rfl⟩
  · exact ⟨_, rfl⟩
  · exact ⟨_, rfl⟩
  · exact ⟨_, rfl⟩
  · exact ⟨_, rfl⟩
  · exact ⟨_, rfl⟩
  · exact ⟨_, rfl⟩
  · exact ⟨_, rfl⟩
  · exact ⟨_, rfl⟩
theorem zPl_1 {cyI cyZ cyL cyD : ClassId} {q0 q1 q2 q3 b : Nat} {a7 a8 sk sv : Nat → Nat} {fm : Nat} : ∀ i, 9 ≤ i → i < 18 → ∃ e, (zW cyI cyZ cyL cyD q0 q1 q2 q3 a7 a8)[zPl.getD i 0]? = some (zAd q0 q1 q2 q3 b a7 a8 sk sv fm i, e) := by
  intro i h0 h1
  rcases (show i = 9 ∨ i = 10 ∨ i = 11 ∨ i = 12 ∨ i = 13 ∨ i = 14 ∨ i = 15 ∨ i = 16 ∨ i = 17 by omega) with rfl | rfl | rfl | rfl | rfl | rfl | rfl | rfl | rfl
  · exact ⟨_, rfl⟩
  · exact ⟨_, rfl⟩
  · exact ⟨_, rfl⟩
  · exact ⟨_, rfl⟩
  · exact ⟨_, rfl⟩
  · exact ⟨_, rfl⟩
  · exact ⟨_, rfl⟩
  · exact ⟨_, rfl⟩
  · exact ⟨_, rfl⟩
theorem zPl_2 {cyI cyZ cyL cyD : ClassId} {q0 q1 q2 q3 b : Nat} {a7 a8 sk sv : Nat → Nat} {fm : Nat} : ∀ i, 18 ≤ i → i < 27 → ∃ e, (zW cyI cyZ cyL cyD q0 q1 q2 q3 a7 a8)[zPl.getD i 0]? = some (zAd q0 q1 q2 q3 b a7 a8 sk sv fm i, e) := by
  intro i h0 h1
  rcases (show i = 18 ∨ i = 19 ∨ i = 20 ∨ i = 21 ∨ i = 22 ∨ i = 23 ∨ i = 24 ∨ i = 25 ∨ i = 26 by omega) with rfl | rfl | rfl | rfl | rfl | rfl | rfl | rfl | rfl
  · exact ⟨_, rfl⟩
  · exact ⟨_, rfl⟩
  · exact ⟨_, rfl⟩
  · exact ⟨_, rfl⟩
  · exact ⟨_, rfl⟩
  · exact ⟨_, rfl⟩
  · exact ⟨_, rfl⟩
  · exact ⟨_, rfl⟩
  · exact ⟨_, rfl⟩
theorem zPl_3 {cyI cyZ cyL cyD : ClassId} {q0 q1 q2 q3 b : Nat} {a7 a8 sk sv : Nat → Nat} {fm : Nat} : ∀ i, 27 ≤ i → i < 36 → ∃ e, (zW cyI cyZ cyL cyD q0 q1 q2 q3 a7 a8)[zPl.getD i 0]? = some (zAd q0 q1 q2 q3 b a7 a8 sk sv fm i, e) := by
  intro i h0 h1
  rcases (show i = 27 ∨ i = 28 ∨ i = 29 ∨ i = 30 ∨ i = 31 ∨ i = 32 ∨ i = 33 ∨ i = 34 ∨ i = 35 by omega) with rfl | rfl | rfl | rfl | rfl | rfl | rfl | rfl | rfl
  · exact ⟨_, rfl⟩
  · exact ⟨_, rfl⟩
  · exact ⟨_, rfl⟩
  · exact ⟨_, rfl⟩
  · exact ⟨_, rfl⟩
  · exact ⟨_, rfl⟩
  · exact ⟨_, rfl⟩
  · exact ⟨_, rfl⟩
  · exact ⟨_, rfl⟩
theorem zPl_4 {cyI cyZ cyL cyD : ClassId} {q0 q1 q2 q3 b : Nat} {a7 a8 sk sv : Nat → Nat} {fm : Nat} : ∀ i, 36 ≤ i → i < 45 → ∃ e, (zW cyI cyZ cyL cyD q0 q1 q2 q3 a7 a8)[zPl.getD i 0]? = some (zAd q0 q1 q2 q3 b a7 a8 sk sv fm i, e) := by
  intro i h0 h1
  rcases (show i = 36 ∨ i = 37 ∨ i = 38 ∨ i = 39 ∨ i = 40 ∨ i = 41 ∨ i = 42 ∨ i = 43 ∨ i = 44 by omega) with rfl | rfl | rfl | rfl | rfl | rfl | rfl | rfl | rfl
  · exact ⟨_, rfl⟩
  · exact ⟨_, rfl⟩
  · exact ⟨_, rfl⟩
  · exact ⟨_, rfl⟩
  · exact ⟨_, rfl⟩
  · exact ⟨_, rfl⟩
  · exact ⟨_, rfl⟩
  · exact ⟨_, rfl⟩
  · exact ⟨_, rfl⟩
theorem zPl_5 {cyI cyZ cyL cyD : ClassId} {q0 q1 q2 q3 b : Nat} {a7 a8 sk sv : Nat → Nat} {fm : Nat} : ∀ i, 45 ≤ i → i < 54 → ∃ e, (zW cyI cyZ cyL cyD q0 q1 q2 q3 a7 a8)[zPl.getD i 0]? = some (zAd q0 q1 q2 q3 b a7 a8 sk sv fm i, e) := by
  intro i h0 h1
  rcases (show i = 45 ∨ i = 46 ∨ i = 47 ∨ i = 48 ∨ i = 49 ∨ i = 50 ∨ i = 51 ∨ i = 52 ∨ i = 53 by omega) with rfl | rfl | rfl | rfl | rfl | rfl | rfl | rfl | rfl
  · exact ⟨_, rfl⟩
  · exact ⟨_, rfl⟩
  · exact ⟨_, rfl⟩
  · exact ⟨_, rfl⟩
  · exact ⟨_, rfl⟩
  · exact ⟨_, rfl⟩
  · exact ⟨_, rfl⟩
  · exact ⟨_, rfl⟩
  · exact ⟨_, rfl⟩
theorem zPl_all {cyI cyZ cyL cyD : ClassId} {q0 q1 q2 q3 b : Nat} {a7 a8 sk sv : Nat → Nat} {fm : Nat} : ∀ i, i < 54 → ∃ e, (zW cyI cyZ cyL cyD q0 q1 q2 q3 a7 a8)[zPl.getD i 0]? = some (zAd q0 q1 q2 q3 b a7 a8 sk sv fm i, e) := by
  intro i h
  rcases (show i < 9 ∨ (9 ≤ i ∧ i < 18) ∨ (18 ≤ i ∧ i < 27) ∨ (27 ≤ i ∧ i < 36) ∨ (36 ≤ i ∧ i < 45) ∨ (45 ≤ i ∧ i < 54) by omega) with g | g | g | g | g | g
  · exact zPl_0 i (by omega) g
  · exact zPl_1 i g.1 g.2
  · exact zPl_2 i g.1 g.2
  · exact zPl_3 i g.1 g.2
  · exact zPl_4 i g.1 g.2
  · exact zPl_5 i g.1 g.2
theorem z_inj {cyI cyZ cyL cyD : ClassId} {q0 q1 q2 q3 b : Nat} {a7 a8 sk sv : Nat → Nat} {fm : Nat} {B : Nat → Prop} (hD : va_D B (zW cyI cyZ cyL cyD q0 q1 q2 q3 a7 a8)) : lInj (zAd q0 q1 q2 q3 b a7 a8 sk sv fm) := by
  intro i j hi hj e
  obtain ⟨ei, h1⟩ := zPl_all (b := b) (sk := sk) (sv := sv) (fm := fm) i hi
  obtain ⟨ej, h2⟩ := zPl_all (b := b) (sk := sk) (sv := sv) (fm := fm) j hj
  exact zPl_inj i hi j hj (hD.1 _ _ _ _ h1 h2 e)
theorem z_in {cyI cyZ cyL cyD : ClassId} {q0 q1 q2 q3 b : Nat} {a7 a8 sk sv : Nat → Nat} {fm : Nat} {B : Nat → Prop} (hD : va_D B (zW cyI cyZ cyL cyD q0 q1 q2 q3 a7 a8)) : ∀ k, k < 54 → B (zAd q0 q1 q2 q3 b a7 a8 sk sv fm k) := by
  intro k hk
  obtain ⟨e, h1⟩ := zPl_all (cyI := cyI) (cyZ := cyZ) (cyL := cyL) (cyD := cyD) (q0 := q0) (q1 := q1) (q2 := q2) (q3 := q3) (a7 := a7) (a8 := a8) (b := b) (sk := sk) (sv := sv) (fm := fm) k hk
  exact hD.2 _ _ h1
theorem M0_f {o : Nat} (h : o ≠ 0) (h2 : o ≠ 37) : M0 o = fun _ => 0 := by
  funext k
  exact M0_z h h2 k
def zH (ad : Nat → Nat) (g : Int → Int) : Nat → List (Option Nat) → List Value
  | _, [] => []
  | k, f :: t => f.elim (.int (zI (g k))) (fun r => .ref (ad r)) :: zH ad g (k + 1) t
theorem zH_get {ad : Nat → Nat} {g : Int → Int} : ∀ (fs : List (Option Nat)) (k i : Nat), (zH ad g k fs)[i]? = (fs[i]?).map (fun f => f.elim (Value.int (zI (g ((k + i : Nat) : Int)))) (fun r => .ref (ad r))) := by
  intro fs
  induction fs with
  | nil => intro k i; simp [zH]
  | cons f t ih =>
    intro k i
    cases i with
    | zero => simp [zH]
    | succ i =>
      rw [zH, List.getElem?_cons_succ, List.getElem?_cons_succ, ih (k + 1) i, show k + 1 + i = k + (i + 1) by omega]
theorem zH_eq {ad : Nat → Nat} {g : Int → Int} {fs : List (Option Nat)} : qFs ad g fs = zH ad g 0 fs := by
  apply List.ext_getElem?
  intro i
  rw [zH_get fs 0 i, Nat.zero_add]
  simp only [qFs, List.getElem?_mapIdx]
theorem zf_g {ad : Nat → Nat} {g : Int → Int} : qFs ad g [none, none, none, none, some 38, some 39, some 40, none, some 41, none, some 42, some 43, none, some 44, some 45, some 46, some 47, none, none, none, some 48, none, none, none, none, none, none, none, none, none, none, none, some 49, some 50, some 51, none] = [.int (zI (g 0)), .int (zI (g 1)), .int (zI (g 2)), .int (zI (g 3)), .ref (ad 38), .ref (ad 39), .ref (ad 40), .int (zI (g 7)), .ref (ad 41), .int (zI (g 9)), .ref (ad 42), .ref (ad 43), .int (zI (g 12)), .ref (ad 44), .ref (ad 45), .ref (ad 46), .ref (ad 47), .int (zI (g 17)), .int (zI (g 18)), .int (zI (g 19)), .ref (ad 48), .int (zI (g 21)), .int (zI (g 22)), .int (zI (g 23)), .int (zI (g 24)), .int (zI (g 25)), .int (zI (g 26)), .int (zI (g 27)), .int (zI (g 28)), .int (zI (g 29)), .int (zI (g 30)), .int (zI (g 31)), .ref (ad 49), .ref (ad 50), .ref (ad 51), .int (zI (g 35))] := by
  rw [zH_eq]
  rfl
theorem zf_m : M0 37 23 = -1 := if_pos (Or.inr ⟨rfl, rfl⟩)
theorem zI_m1 : zI (-1) = -1 := by decide +kernel
theorem zf_37 {ad : Nat → Nat} : qFs ad (M0 37) [none, none, none, none, some 38, some 39, some 40, none, some 41, none, some 42, some 43, none, some 44, some 45, some 46, some 47, none, none, none, some 48, none, none, none, none, none, none, none, none, none, none, none, some 49, some 50, some 51, none] = [.int 0, .int 0, .int 0, .int 0, .ref (ad 38), .ref (ad 39), .ref (ad 40), .int 0, .ref (ad 41), .int 0, .ref (ad 42), .ref (ad 43), .int 0, .ref (ad 44), .ref (ad 45), .ref (ad 46), .ref (ad 47), .int 0, .int 0, .int 0, .ref (ad 48), .int 0, .int 0, .int (-1), .int 0, .int 0, .int 0, .int 0, .int 0, .int 0, .int 0, .int 0, .ref (ad 49), .ref (ad 50), .ref (ad 51), .int 0] := by
  rw [zf_g]
  rw [M0_37 (k := 0) (by decide), M0_37 (k := 1) (by decide), M0_37 (k := 2) (by decide), M0_37 (k := 3) (by decide), M0_37 (k := 7) (by decide), M0_37 (k := 9) (by decide), M0_37 (k := 12) (by decide), M0_37 (k := 17) (by decide), M0_37 (k := 18) (by decide), M0_37 (k := 19) (by decide), M0_37 (k := 21) (by decide), M0_37 (k := 22) (by decide), M0_37 (k := 24) (by decide), M0_37 (k := 25) (by decide), M0_37 (k := 26) (by decide), M0_37 (k := 27) (by decide), M0_37 (k := 28) (by decide), M0_37 (k := 29) (by decide), M0_37 (k := 30) (by decide), M0_37 (k := 31) (by decide), M0_37 (k := 35) (by decide), zf_m, zI_m1, zI0]
set_option maxRecDepth 20000 in
theorem zc_0 {cyI cyZ cyL cyD : ClassId} {q0 q1 q2 q3 b : Nat} {a7 a8 sk sv : Nat → Nat} {fm : Nat} {D : va_G} {H : Heap} (hP : va_P D vwCl (zW cyI cyZ cyL cyD q0 q1 q2 q3 a7 a8) H) : va_at D vwCl (zAd q0 q1 q2 q3 b a7 a8 sk sv fm 0, qCell cyI cyZ (zAd q0 q1 q2 q3 b a7 a8 sk sv fm) (M0 0) (.inl (7, [some 1, some 3, some 5, some 18, some 25, some 28, some 31, some 33, some 35, none, none, none, none, none]))) H := by
  exact hP 0 _ rfl
set_option maxRecDepth 20000 in
theorem zc_1 {cyI cyZ cyL cyD : ClassId} {q0 q1 q2 q3 b : Nat} {a7 a8 sk sv : Nat → Nat} {fm : Nat} {D : va_G} {H : Heap} (hP : va_P D vwCl (zW cyI cyZ cyL cyD q0 q1 q2 q3 a7 a8) H) : va_at D vwCl (zAd q0 q1 q2 q3 b a7 a8 sk sv fm 1, qCell cyI cyZ (zAd q0 q1 q2 q3 b a7 a8 sk sv fm) (M0 1) (.inl (1, [some 2, none]))) H := by
  rw [M0_f (by decide) (by decide)]
  exact hP 1 _ rfl
set_option maxRecDepth 20000 in
theorem zc_2 {cyI cyZ cyL cyD : ClassId} {q0 q1 q2 q3 b : Nat} {a7 a8 sk sv : Nat → Nat} {fm : Nat} {D : va_G} {H : Heap} (hP : va_P D vwCl (zW cyI cyZ cyL cyD q0 q1 q2 q3 a7 a8) H) : va_at D vwCl (zAd q0 q1 q2 q3 b a7 a8 sk sv fm 2, qCell cyI cyZ (zAd q0 q1 q2 q3 b a7 a8 sk sv fm) (M0 2) (.inr (700, false))) H := by
  rw [M0_f (by decide) (by decide)]
  exact hP 2 _ rfl
set_option maxRecDepth 20000 in
theorem zc_3 {cyI cyZ cyL cyD : ClassId} {q0 q1 q2 q3 b : Nat} {a7 a8 sk sv : Nat → Nat} {fm : Nat} {D : va_G} {H : Heap} (hP : va_P D vwCl (zW cyI cyZ cyL cyD q0 q1 q2 q3 a7 a8) H) : va_at D vwCl (zAd q0 q1 q2 q3 b a7 a8 sk sv fm 3, qCell cyI cyZ (zAd q0 q1 q2 q3 b a7 a8 sk sv fm) (M0 3) (.inl (0, [some 4]))) H := by
  rw [M0_f (by decide) (by decide)]
  exact hP 3 _ rfl
set_option maxRecDepth 20000 in
theorem zc_4 {cyI cyZ cyL cyD : ClassId} {q0 q1 q2 q3 b : Nat} {a7 a8 sk sv : Nat → Nat} {fm : Nat} {D : va_G} {H : Heap} (hP : va_P D vwCl (zW cyI cyZ cyL cyD q0 q1 q2 q3 a7 a8) H) : va_at D vwCl (zAd q0 q1 q2 q3 b a7 a8 sk sv fm 4, qCell cyI cyZ (zAd q0 q1 q2 q3 b a7 a8 sk sv fm) (M0 4) (.inr (8448, false))) H := by
  rw [M0_f (by decide) (by decide)]
  exact hP 4 _ rfl
set_option maxRecDepth 20000 in
theorem zc_5 {cyI cyZ cyL cyD : ClassId} {q0 q1 q2 q3 b : Nat} {a7 a8 sk sv : Nat → Nat} {fm : Nat} {D : va_G} {H : Heap} (hP : va_P D vwCl (zW cyI cyZ cyL cyD q0 q1 q2 q3 a7 a8) H) : va_at D vwCl (zAd q0 q1 q2 q3 b a7 a8 sk sv fm 5, qCell cyI cyZ (zAd q0 q1 q2 q3 b a7 a8 sk sv fm) (M0 5) (.inl (6, [some 3, some 6, some 7, some 8, some 9, some 10, some 11, none, none]))) H := by
  rw [M0_f (by decide) (by decide)]
  exact hP 12 _ rfl
set_option maxRecDepth 20000 in
theorem zc_6 {cyI cyZ cyL cyD : ClassId} {q0 q1 q2 q3 b : Nat} {a7 a8 sk sv : Nat → Nat} {fm : Nat} {D : va_G} {H : Heap} (hP : va_P D vwCl (zW cyI cyZ cyL cyD q0 q1 q2 q3 a7 a8) H) : va_at D vwCl (zAd q0 q1 q2 q3 b a7 a8 sk sv fm 6, qCell cyI cyZ (zAd q0 q1 q2 q3 b a7 a8 sk sv fm) (M0 6) (.inl (5, [some 12]))) H := by
  rw [M0_f (by decide) (by decide)]
  exact hP 13 _ rfl
set_option maxRecDepth 20000 in
theorem zc_7 {cyI cyZ cyL cyD : ClassId} {q0 q1 q2 q3 b : Nat} {a7 a8 sk sv : Nat → Nat} {fm : Nat} {D : va_G} {H : Heap} (hP : va_P D vwCl (zW cyI cyZ cyL cyD q0 q1 q2 q3 a7 a8) H) : va_at D vwCl (zAd q0 q1 q2 q3 b a7 a8 sk sv fm 7, qCell cyI cyZ (zAd q0 q1 q2 q3 b a7 a8 sk sv fm) (M0 7) (.inl (5, [some 13]))) H := by
  rw [M0_f (by decide) (by decide)]
  exact hP 15 _ rfl
set_option maxRecDepth 20000 in
theorem zc_8 {cyI cyZ cyL cyD : ClassId} {q0 q1 q2 q3 b : Nat} {a7 a8 sk sv : Nat → Nat} {fm : Nat} {D : va_G} {H : Heap} (hP : va_P D vwCl (zW cyI cyZ cyL cyD q0 q1 q2 q3 a7 a8) H) : va_at D vwCl (zAd q0 q1 q2 q3 b a7 a8 sk sv fm 8, qCell cyI cyZ (zAd q0 q1 q2 q3 b a7 a8 sk sv fm) (M0 8) (.inl (5, [some 14]))) H := by
  rw [M0_f (by decide) (by decide)]
  exact hP 17 _ rfl
set_option maxRecDepth 20000 in
theorem zc_9 {cyI cyZ cyL cyD : ClassId} {q0 q1 q2 q3 b : Nat} {a7 a8 sk sv : Nat → Nat} {fm : Nat} {D : va_G} {H : Heap} (hP : va_P D vwCl (zW cyI cyZ cyL cyD q0 q1 q2 q3 a7 a8) H) : va_at D vwCl (zAd q0 q1 q2 q3 b a7 a8 sk sv fm 9, qCell cyI cyZ (zAd q0 q1 q2 q3 b a7 a8 sk sv fm) (M0 9) (.inl (5, [some 15]))) H := by
  rw [M0_f (by decide) (by decide)]
  exact hP 19 _ rfl
set_option maxRecDepth 20000 in
theorem zc_10 {cyI cyZ cyL cyD : ClassId} {q0 q1 q2 q3 b : Nat} {a7 a8 sk sv : Nat → Nat} {fm : Nat} {D : va_G} {H : Heap} (hP : va_P D vwCl (zW cyI cyZ cyL cyD q0 q1 q2 q3 a7 a8) H) : va_at D vwCl (zAd q0 q1 q2 q3 b a7 a8 sk sv fm 10, qCell cyI cyZ (zAd q0 q1 q2 q3 b a7 a8 sk sv fm) (M0 10) (.inl (5, [some 16]))) H := by
  rw [M0_f (by decide) (by decide)]
  exact hP 21 _ rfl
set_option maxRecDepth 20000 in
theorem zc_11 {cyI cyZ cyL cyD : ClassId} {q0 q1 q2 q3 b : Nat} {a7 a8 sk sv : Nat → Nat} {fm : Nat} {D : va_G} {H : Heap} (hP : va_P D vwCl (zW cyI cyZ cyL cyD q0 q1 q2 q3 a7 a8) H) : va_at D vwCl (zAd q0 q1 q2 q3 b a7 a8 sk sv fm 11, qCell cyI cyZ (zAd q0 q1 q2 q3 b a7 a8 sk sv fm) (M0 11) (.inl (5, [some 17]))) H := by
  rw [M0_f (by decide) (by decide)]
  exact hP 23 _ rfl
set_option maxRecDepth 20000 in
theorem zc_12 {cyI cyZ cyL cyD : ClassId} {q0 q1 q2 q3 b : Nat} {a7 a8 sk sv : Nat → Nat} {fm : Nat} {D : va_G} {H : Heap} (hP : va_P D vwCl (zW cyI cyZ cyL cyD q0 q1 q2 q3 a7 a8) H) : va_at D vwCl (zAd q0 q1 q2 q3 b a7 a8 sk sv fm 12, qCell cyI cyZ (zAd q0 q1 q2 q3 b a7 a8 sk sv fm) (M0 12) (.inr (341, false))) H := by
  rw [M0_f (by decide) (by decide)]
  exact hP 14 _ rfl
set_option maxRecDepth 20000 in
theorem zc_13 {cyI cyZ cyL cyD : ClassId} {q0 q1 q2 q3 b : Nat} {a7 a8 sk sv : Nat → Nat} {fm : Nat} {D : va_G} {H : Heap} (hP : va_P D vwCl (zW cyI cyZ cyL cyD q0 q1 q2 q3 a7 a8) H) : va_at D vwCl (zAd q0 q1 q2 q3 b a7 a8 sk sv fm 13, qCell cyI cyZ (zAd q0 q1 q2 q3 b a7 a8 sk sv fm) (M0 13) (.inr (341, false))) H := by
  rw [M0_f (by decide) (by decide)]
  exact hP 16 _ rfl
set_option maxRecDepth 20000 in
theorem zc_14 {cyI cyZ cyL cyD : ClassId} {q0 q1 q2 q3 b : Nat} {a7 a8 sk sv : Nat → Nat} {fm : Nat} {D : va_G} {H : Heap} (hP : va_P D vwCl (zW cyI cyZ cyL cyD q0 q1 q2 q3 a7 a8) H) : va_at D vwCl (zAd q0 q1 q2 q3 b a7 a8 sk sv fm 14, qCell cyI cyZ (zAd q0 q1 q2 q3 b a7 a8 sk sv fm) (M0 14) (.inr (341, false))) H := by
  rw [M0_f (by decide) (by decide)]
  exact hP 18 _ rfl
set_option maxRecDepth 20000 in
theorem zc_15 {cyI cyZ cyL cyD : ClassId} {q0 q1 q2 q3 b : Nat} {a7 a8 sk sv : Nat → Nat} {fm : Nat} {D : va_G} {H : Heap} (hP : va_P D vwCl (zW cyI cyZ cyL cyD q0 q1 q2 q3 a7 a8) H) : va_at D vwCl (zAd q0 q1 q2 q3 b a7 a8 sk sv fm 15, qCell cyI cyZ (zAd q0 q1 q2 q3 b a7 a8 sk sv fm) (M0 15) (.inr (341, false))) H := by
  rw [M0_f (by decide) (by decide)]
  exact hP 20 _ rfl
set_option maxRecDepth 20000 in
theorem zc_16 {cyI cyZ cyL cyD : ClassId} {q0 q1 q2 q3 b : Nat} {a7 a8 sk sv : Nat → Nat} {fm : Nat} {D : va_G} {H : Heap} (hP : va_P D vwCl (zW cyI cyZ cyL cyD q0 q1 q2 q3 a7 a8) H) : va_at D vwCl (zAd q0 q1 q2 q3 b a7 a8 sk sv fm 16, qCell cyI cyZ (zAd q0 q1 q2 q3 b a7 a8 sk sv fm) (M0 16) (.inr (341, false))) H := by
  rw [M0_f (by decide) (by decide)]
  exact hP 22 _ rfl
set_option maxRecDepth 20000 in
theorem zc_17 {cyI cyZ cyL cyD : ClassId} {q0 q1 q2 q3 b : Nat} {a7 a8 sk sv : Nat → Nat} {fm : Nat} {D : va_G} {H : Heap} (hP : va_P D vwCl (zW cyI cyZ cyL cyD q0 q1 q2 q3 a7 a8) H) : va_at D vwCl (zAd q0 q1 q2 q3 b a7 a8 sk sv fm 17, qCell cyI cyZ (zAd q0 q1 q2 q3 b a7 a8 sk sv fm) (M0 17) (.inr (341, false))) H := by
  rw [M0_f (by decide) (by decide)]
  exact hP 24 _ rfl
set_option maxRecDepth 20000 in
theorem zc_18 {cyI cyZ cyL cyD : ClassId} {q0 q1 q2 q3 b : Nat} {a7 a8 sk sv : Nat → Nat} {fm : Nat} {D : va_G} {H : Heap} (hP : va_P D vwCl (zW cyI cyZ cyL cyD q0 q1 q2 q3 a7 a8) H) : va_at D vwCl (zAd q0 q1 q2 q3 b a7 a8 sk sv fm 18, qCell cyI cyZ (zAd q0 q1 q2 q3 b a7 a8 sk sv fm) (M0 18) (.inl (4, [some 3, some 19, some 20, some 21, none, none, none, none]))) H := by
  rw [M0_f (by decide) (by decide)]
  exact hP 5 _ rfl
set_option maxRecDepth 20000 in
theorem zc_19 {cyI cyZ cyL cyD : ClassId} {q0 q1 q2 q3 b : Nat} {a7 a8 sk sv : Nat → Nat} {fm : Nat} {D : va_G} {H : Heap} (hP : va_P D vwCl (zW cyI cyZ cyL cyD q0 q1 q2 q3 a7 a8) H) : va_at D vwCl (zAd q0 q1 q2 q3 b a7 a8 sk sv fm 19, qCell cyI cyZ (zAd q0 q1 q2 q3 b a7 a8 sk sv fm) (M0 19) (.inl (5, [some 22]))) H := by
  rw [M0_f (by decide) (by decide)]
  exact hP 6 _ rfl
set_option maxRecDepth 20000 in
theorem zc_20 {cyI cyZ cyL cyD : ClassId} {q0 q1 q2 q3 b : Nat} {a7 a8 sk sv : Nat → Nat} {fm : Nat} {D : va_G} {H : Heap} (hP : va_P D vwCl (zW cyI cyZ cyL cyD q0 q1 q2 q3 a7 a8) H) : va_at D vwCl (zAd q0 q1 q2 q3 b a7 a8 sk sv fm 20, qCell cyI cyZ (zAd q0 q1 q2 q3 b a7 a8 sk sv fm) (M0 20) (.inl (5, [some 23]))) H := by
  rw [M0_f (by decide) (by decide)]
  exact hP 8 _ rfl
set_option maxRecDepth 20000 in
theorem zc_21 {cyI cyZ cyL cyD : ClassId} {q0 q1 q2 q3 b : Nat} {a7 a8 sk sv : Nat → Nat} {fm : Nat} {D : va_G} {H : Heap} (hP : va_P D vwCl (zW cyI cyZ cyL cyD q0 q1 q2 q3 a7 a8) H) : va_at D vwCl (zAd q0 q1 q2 q3 b a7 a8 sk sv fm 21, qCell cyI cyZ (zAd q0 q1 q2 q3 b a7 a8 sk sv fm) (M0 21) (.inl (5, [some 24]))) H := by
  rw [M0_f (by decide) (by decide)]
  exact hP 10 _ rfl
set_option maxRecDepth 20000 in
theorem zc_22 {cyI cyZ cyL cyD : ClassId} {q0 q1 q2 q3 b : Nat} {a7 a8 sk sv : Nat → Nat} {fm : Nat} {D : va_G} {H : Heap} (hP : va_P D vwCl (zW cyI cyZ cyL cyD q0 q1 q2 q3 a7 a8) H) : va_at D vwCl (zAd q0 q1 q2 q3 b a7 a8 sk sv fm 22, qCell cyI cyZ (zAd q0 q1 q2 q3 b a7 a8 sk sv fm) (M0 22) (.inr (5, false))) H := by
  rw [M0_f (by decide) (by decide)]
  exact hP 7 _ rfl
set_option maxRecDepth 20000 in
theorem zc_23 {cyI cyZ cyL cyD : ClassId} {q0 q1 q2 q3 b : Nat} {a7 a8 sk sv : Nat → Nat} {fm : Nat} {D : va_G} {H : Heap} (hP : va_P D vwCl (zW cyI cyZ cyL cyD q0 q1 q2 q3 a7 a8) H) : va_at D vwCl (zAd q0 q1 q2 q3 b a7 a8 sk sv fm 23, qCell cyI cyZ (zAd q0 q1 q2 q3 b a7 a8 sk sv fm) (M0 23) (.inr (5, false))) H := by
  rw [M0_f (by decide) (by decide)]
  exact hP 9 _ rfl
set_option maxRecDepth 20000 in
theorem zc_24 {cyI cyZ cyL cyD : ClassId} {q0 q1 q2 q3 b : Nat} {a7 a8 sk sv : Nat → Nat} {fm : Nat} {D : va_G} {H : Heap} (hP : va_P D vwCl (zW cyI cyZ cyL cyD q0 q1 q2 q3 a7 a8) H) : va_at D vwCl (zAd q0 q1 q2 q3 b a7 a8 sk sv fm 24, qCell cyI cyZ (zAd q0 q1 q2 q3 b a7 a8 sk sv fm) (M0 24) (.inr (5, false))) H := by
  rw [M0_f (by decide) (by decide)]
  exact hP 11 _ rfl
set_option maxRecDepth 20000 in
theorem zc_25 {cyI cyZ cyL cyD : ClassId} {q0 q1 q2 q3 b : Nat} {a7 a8 sk sv : Nat → Nat} {fm : Nat} {D : va_G} {H : Heap} (hP : va_P D vwCl (zW cyI cyZ cyL cyD q0 q1 q2 q3 a7 a8) H) : va_at D vwCl (zAd q0 q1 q2 q3 b a7 a8 sk sv fm 25, qCell cyI cyZ (zAd q0 q1 q2 q3 b a7 a8 sk sv fm) (M0 25) (.inl (3, [some 1, some 3, some 18, some 26, none, none, none, none, none, none, none, none, none]))) H := by
  rw [M0_f (by decide) (by decide)]
  exact hP 25 _ rfl
set_option maxRecDepth 20000 in
theorem zc_26 {cyI cyZ cyL cyD : ClassId} {q0 q1 q2 q3 b : Nat} {a7 a8 sk sv : Nat → Nat} {fm : Nat} {D : va_G} {H : Heap} (hP : va_P D vwCl (zW cyI cyZ cyL cyD q0 q1 q2 q3 a7 a8) H) : va_at D vwCl (zAd q0 q1 q2 q3 b a7 a8 sk sv fm 26, qCell cyI cyZ (zAd q0 q1 q2 q3 b a7 a8 sk sv fm) (M0 26) (.inl (5, [some 27]))) H := by
  rw [M0_f (by decide) (by decide)]
  exact hP 26 _ rfl
set_option maxRecDepth 20000 in
theorem zc_27 {cyI cyZ cyL cyD : ClassId} {q0 q1 q2 q3 b : Nat} {a7 a8 sk sv : Nat → Nat} {fm : Nat} {D : va_G} {H : Heap} (hP : va_P D vwCl (zW cyI cyZ cyL cyD q0 q1 q2 q3 a7 a8) H) : va_at D vwCl (zAd q0 q1 q2 q3 b a7 a8 sk sv fm 27, qCell cyI cyZ (zAd q0 q1 q2 q3 b a7 a8 sk sv fm) (M0 27) (.inr (6, false))) H := by
  rw [M0_f (by decide) (by decide)]
  exact hP 27 _ rfl
set_option maxRecDepth 20000 in
theorem zc_28 {cyI cyZ cyL cyD : ClassId} {q0 q1 q2 q3 b : Nat} {a7 a8 sk sv : Nat → Nat} {fm : Nat} {D : va_G} {H : Heap} (hP : va_P D vwCl (zW cyI cyZ cyL cyD q0 q1 q2 q3 a7 a8) H) : va_at D vwCl (zAd q0 q1 q2 q3 b a7 a8 sk sv fm 28, qCell cyI cyZ (zAd q0 q1 q2 q3 b a7 a8 sk sv fm) (M0 28) (.inl (2, [some 3, some 29, none, none]))) H := by
  rw [M0_f (by decide) (by decide)]
  exact hP 28 _ rfl
set_option maxRecDepth 20000 in
theorem zc_29 {cyI cyZ cyL cyD : ClassId} {q0 q1 q2 q3 b : Nat} {a7 a8 sk sv : Nat → Nat} {fm : Nat} {D : va_G} {H : Heap} (hP : va_P D vwCl (zW cyI cyZ cyL cyD q0 q1 q2 q3 a7 a8) H) : va_at D vwCl (zAd q0 q1 q2 q3 b a7 a8 sk sv fm 29, qCell cyI cyZ (zAd q0 q1 q2 q3 b a7 a8 sk sv fm) (M0 29) (.inl (5, [some 30]))) H := by
  rw [M0_f (by decide) (by decide)]
  exact hP 29 _ rfl
set_option maxRecDepth 20000 in
theorem zc_30 {cyI cyZ cyL cyD : ClassId} {q0 q1 q2 q3 b : Nat} {a7 a8 sk sv : Nat → Nat} {fm : Nat} {D : va_G} {H : Heap} (hP : va_P D vwCl (zW cyI cyZ cyL cyD q0 q1 q2 q3 a7 a8) H) : va_at D vwCl (zAd q0 q1 q2 q3 b a7 a8 sk sv fm 30, qCell cyI cyZ (zAd q0 q1 q2 q3 b a7 a8 sk sv fm) (M0 30) (.inr (8, false))) H := by
  rw [M0_f (by decide) (by decide)]
  exact hP 30 _ rfl
set_option maxRecDepth 20000 in
theorem zc_31 {cyI cyZ cyL cyD : ClassId} {q0 q1 q2 q3 b : Nat} {a7 a8 sk sv : Nat → Nat} {fm : Nat} {D : va_G} {H : Heap} (hP : va_P D vwCl (zW cyI cyZ cyL cyD q0 q1 q2 q3 a7 a8) H) : va_at D vwCl (zAd q0 q1 q2 q3 b a7 a8 sk sv fm 31, qCell cyI cyZ (zAd q0 q1 q2 q3 b a7 a8 sk sv fm) (M0 31) (.inl (1, [some 32, none]))) H := by
  rw [M0_f (by decide) (by decide)]
  exact hP 31 _ rfl
set_option maxRecDepth 20000 in
theorem zc_32 {cyI cyZ cyL cyD : ClassId} {q0 q1 q2 q3 b : Nat} {a7 a8 sk sv : Nat → Nat} {fm : Nat} {D : va_G} {H : Heap} (hP : va_P D vwCl (zW cyI cyZ cyL cyD q0 q1 q2 q3 a7 a8) H) : va_at D vwCl (zAd q0 q1 q2 q3 b a7 a8 sk sv fm 32, qCell cyI cyZ (zAd q0 q1 q2 q3 b a7 a8 sk sv fm) (M0 32) (.inr (1023, false))) H := by
  rw [M0_f (by decide) (by decide)]
  exact hP 32 _ rfl
set_option maxRecDepth 20000 in
theorem zc_33 {cyI cyZ cyL cyD : ClassId} {q0 q1 q2 q3 b : Nat} {a7 a8 sk sv : Nat → Nat} {fm : Nat} {D : va_G} {H : Heap} (hP : va_P D vwCl (zW cyI cyZ cyL cyD q0 q1 q2 q3 a7 a8) H) : va_at D vwCl (zAd q0 q1 q2 q3 b a7 a8 sk sv fm 33, qCell cyI cyZ (zAd q0 q1 q2 q3 b a7 a8 sk sv fm) (M0 33) (.inl (5, [some 34]))) H := by
  rw [M0_f (by decide) (by decide)]
  exact hP 33 _ rfl
set_option maxRecDepth 20000 in
theorem zc_34 {cyI cyZ cyL cyD : ClassId} {q0 q1 q2 q3 b : Nat} {a7 a8 sk sv : Nat → Nat} {fm : Nat} {D : va_G} {H : Heap} (hP : va_P D vwCl (zW cyI cyZ cyL cyD q0 q1 q2 q3 a7 a8) H) : va_at D vwCl (zAd q0 q1 q2 q3 b a7 a8 sk sv fm 34, qCell cyI cyZ (zAd q0 q1 q2 q3 b a7 a8 sk sv fm) (M0 34) (.inr (6, false))) H := by
  rw [M0_f (by decide) (by decide)]
  exact hP 34 _ rfl
set_option maxRecDepth 20000 in
theorem zc_35 {cyI cyZ cyL cyD : ClassId} {q0 q1 q2 q3 b : Nat} {a7 a8 sk sv : Nat → Nat} {fm : Nat} {D : va_G} {H : Heap} (hP : va_P D vwCl (zW cyI cyZ cyL cyD q0 q1 q2 q3 a7 a8) H) : va_at D vwCl (zAd q0 q1 q2 q3 b a7 a8 sk sv fm 35, qCell cyI cyZ (zAd q0 q1 q2 q3 b a7 a8 sk sv fm) (M0 35) (.inl (5, [some 36]))) H := by
  rw [M0_f (by decide) (by decide)]
  exact hP 35 _ rfl
set_option maxRecDepth 20000 in
theorem zc_36 {cyI cyZ cyL cyD : ClassId} {q0 q1 q2 q3 b : Nat} {a7 a8 sk sv : Nat → Nat} {fm : Nat} {D : va_G} {H : Heap} (hP : va_P D vwCl (zW cyI cyZ cyL cyD q0 q1 q2 q3 a7 a8) H) : va_at D vwCl (zAd q0 q1 q2 q3 b a7 a8 sk sv fm 36, qCell cyI cyZ (zAd q0 q1 q2 q3 b a7 a8 sk sv fm) (M0 36) (.inr (2, false))) H := by
  rw [M0_f (by decide) (by decide)]
  exact hP 36 _ rfl
set_option maxRecDepth 20000 in
theorem zc_37 {cyI cyZ cyL cyD : ClassId} {q0 q1 q2 q3 b : Nat} {a7 a8 sk sv : Nat → Nat} {fm : Nat} {D : va_G} {H : Heap} (hP : va_P D vwCl (zW cyI cyZ cyL cyD q0 q1 q2 q3 a7 a8) H) : va_at D vwCl (zAd q0 q1 q2 q3 b a7 a8 sk sv fm 37, qCell cyI cyZ (zAd q0 q1 q2 q3 b a7 a8 sk sv fm) (M0 37) (.inl (8, [none, none, none, none, some 38, some 39, some 40, none, some 41, none, some 42, some 43, none, some 44, some 45, some 46, some 47, none, none, none, some 48, none, none, none, none, none, none, none, none, none, none, none, some 49, some 50, some 51, none]))) H := by
  show va_at D vwCl (zAd q0 q1 q2 q3 b a7 a8 sk sv fm 37, .inr (8, qFs (zAd q0 q1 q2 q3 b a7 a8 sk sv fm) (M0 37) [none, none, none, none, some 38, some 39, some 40, none, some 41, none, some 42, some 43, none, some 44, some 45, some 46, some 47, none, none, none, some 48, none, none, none, none, none, none, none, none, none, none, none, some 49, some 50, some 51, none])) H
  rw [zf_37]
  exact hP 37 _ rfl
set_option maxRecDepth 20000 in
theorem zc_38 {cyI cyZ cyL cyD : ClassId} {q0 q1 q2 q3 b : Nat} {a7 a8 sk sv : Nat → Nat} {fm : Nat} {D : va_G} {H : Heap} (hP : va_P D vwCl (zW cyI cyZ cyL cyD q0 q1 q2 q3 a7 a8) H) : va_at D vwCl (zAd q0 q1 q2 q3 b a7 a8 sk sv fm 38, qCell cyI cyZ (zAd q0 q1 q2 q3 b a7 a8 sk sv fm) (M0 38) (.inr (36, false))) H := by
  rw [M0_f (by decide) (by decide)]
  exact hP 38 _ rfl
set_option maxRecDepth 20000 in
theorem zc_39 {cyI cyZ cyL cyD : ClassId} {q0 q1 q2 q3 b : Nat} {a7 a8 sk sv : Nat → Nat} {fm : Nat} {D : va_G} {H : Heap} (hP : va_P D vwCl (zW cyI cyZ cyL cyD q0 q1 q2 q3 a7 a8) H) : va_at D vwCl (zAd q0 q1 q2 q3 b a7 a8 sk sv fm 39, qCell cyI cyZ (zAd q0 q1 q2 q3 b a7 a8 sk sv fm) (M0 39) (.inr (1536, false))) H := by
  rw [M0_f (by decide) (by decide)]
  exact hP 39 _ rfl
set_option maxRecDepth 20000 in
theorem zc_40 {cyI cyZ cyL cyD : ClassId} {q0 q1 q2 q3 b : Nat} {a7 a8 sk sv : Nat → Nat} {fm : Nat} {D : va_G} {H : Heap} (hP : va_P D vwCl (zW cyI cyZ cyL cyD q0 q1 q2 q3 a7 a8) H) : va_at D vwCl (zAd q0 q1 q2 q3 b a7 a8 sk sv fm 40, qCell cyI cyZ (zAd q0 q1 q2 q3 b a7 a8 sk sv fm) (M0 40) (.inr (15360, false))) H := by
  rw [M0_f (by decide) (by decide)]
  exact hP 40 _ rfl
set_option maxRecDepth 20000 in
theorem zc_41 {cyI cyZ cyL cyD : ClassId} {q0 q1 q2 q3 b : Nat} {a7 a8 sk sv : Nat → Nat} {fm : Nat} {D : va_G} {H : Heap} (hP : va_P D vwCl (zW cyI cyZ cyL cyD q0 q1 q2 q3 a7 a8) H) : va_at D vwCl (zAd q0 q1 q2 q3 b a7 a8 sk sv fm 41, qCell cyI cyZ (zAd q0 q1 q2 q3 b a7 a8 sk sv fm) (M0 41) (.inr (2, true))) H := by
  rw [M0_f (by decide) (by decide)]
  exact hP 41 _ rfl
set_option maxRecDepth 20000 in
theorem zc_42 {cyI cyZ cyL cyD : ClassId} {q0 q1 q2 q3 b : Nat} {a7 a8 sk sv : Nat → Nat} {fm : Nat} {D : va_G} {H : Heap} (hP : va_P D vwCl (zW cyI cyZ cyL cyD q0 q1 q2 q3 a7 a8) H) : va_at D vwCl (zAd q0 q1 q2 q3 b a7 a8 sk sv fm 42, qCell cyI cyZ (zAd q0 q1 q2 q3 b a7 a8 sk sv fm) (M0 42) (.inr (256, false))) H := by
  rw [M0_f (by decide) (by decide)]
  exact hP 42 _ rfl
set_option maxRecDepth 20000 in
theorem zc_43 {cyI cyZ cyL cyD : ClassId} {q0 q1 q2 q3 b : Nat} {a7 a8 sk sv : Nat → Nat} {fm : Nat} {D : va_G} {H : Heap} (hP : va_P D vwCl (zW cyI cyZ cyL cyD q0 q1 q2 q3 a7 a8) H) : va_at D vwCl (zAd q0 q1 q2 q3 b a7 a8 sk sv fm 43, qCell cyI cyZ (zAd q0 q1 q2 q3 b a7 a8 sk sv fm) (M0 43) (.inr (400, false))) H := by
  rw [M0_f (by decide) (by decide)]
  exact hP 43 _ rfl
set_option maxRecDepth 20000 in
theorem zc_44 {cyI cyZ cyL cyD : ClassId} {q0 q1 q2 q3 b : Nat} {a7 a8 sk sv : Nat → Nat} {fm : Nat} {D : va_G} {H : Heap} (hP : va_P D vwCl (zW cyI cyZ cyL cyD q0 q1 q2 q3 a7 a8) H) : va_at D vwCl (zAd q0 q1 q2 q3 b a7 a8 sk sv fm 44, qCell cyI cyZ (zAd q0 q1 q2 q3 b a7 a8 sk sv fm) (M0 44) (.inr (341, false))) H := by
  rw [M0_f (by decide) (by decide)]
  exact hP 44 _ rfl
set_option maxRecDepth 20000 in
theorem zc_45 {cyI cyZ cyL cyD : ClassId} {q0 q1 q2 q3 b : Nat} {a7 a8 sk sv : Nat → Nat} {fm : Nat} {D : va_G} {H : Heap} (hP : va_P D vwCl (zW cyI cyZ cyL cyD q0 q1 q2 q3 a7 a8) H) : va_at D vwCl (zAd q0 q1 q2 q3 b a7 a8 sk sv fm 45, qCell cyI cyZ (zAd q0 q1 q2 q3 b a7 a8 sk sv fm) (M0 45) (.inr (341, false))) H := by
  rw [M0_f (by decide) (by decide)]
  exact hP 45 _ rfl
set_option maxRecDepth 20000 in
theorem zc_46 {cyI cyZ cyL cyD : ClassId} {q0 q1 q2 q3 b : Nat} {a7 a8 sk sv : Nat → Nat} {fm : Nat} {D : va_G} {H : Heap} (hP : va_P D vwCl (zW cyI cyZ cyL cyD q0 q1 q2 q3 a7 a8) H) : va_at D vwCl (zAd q0 q1 q2 q3 b a7 a8 sk sv fm 46, qCell cyI cyZ (zAd q0 q1 q2 q3 b a7 a8 sk sv fm) (M0 46) (.inr (341, false))) H := by
  rw [M0_f (by decide) (by decide)]
  exact hP 46 _ rfl
set_option maxRecDepth 20000 in
theorem zc_47 {cyI cyZ cyL cyD : ClassId} {q0 q1 q2 q3 b : Nat} {a7 a8 sk sv : Nat → Nat} {fm : Nat} {D : va_G} {H : Heap} (hP : va_P D vwCl (zW cyI cyZ cyL cyD q0 q1 q2 q3 a7 a8) H) : va_at D vwCl (zAd q0 q1 q2 q3 b a7 a8 sk sv fm 47, qCell cyI cyZ (zAd q0 q1 q2 q3 b a7 a8 sk sv fm) (M0 47) (.inr (700, false))) H := by
  rw [M0_f (by decide) (by decide)]
  exact hP 47 _ rfl
set_option maxRecDepth 20000 in
theorem zc_48 {cyI cyZ cyL cyD : ClassId} {q0 q1 q2 q3 b : Nat} {a7 a8 sk sv : Nat → Nat} {fm : Nat} {D : va_G} {H : Heap} (hP : va_P D vwCl (zW cyI cyZ cyL cyD q0 q1 q2 q3 a7 a8) H) : va_at D vwCl (zAd q0 q1 q2 q3 b a7 a8 sk sv fm 48, qCell cyI cyZ (zAd q0 q1 q2 q3 b a7 a8 sk sv fm) (M0 48) (.inr (700, false))) H := by
  rw [M0_f (by decide) (by decide)]
  exact hP 48 _ rfl
set_option maxRecDepth 20000 in
theorem zc_49 {cyI cyZ cyL cyD : ClassId} {q0 q1 q2 q3 b : Nat} {a7 a8 sk sv : Nat → Nat} {fm : Nat} {D : va_G} {H : Heap} (hP : va_P D vwCl (zW cyI cyZ cyL cyD q0 q1 q2 q3 a7 a8) H) : va_at D vwCl (zAd q0 q1 q2 q3 b a7 a8 sk sv fm 49, qCell cyI cyZ (zAd q0 q1 q2 q3 b a7 a8 sk sv fm) (M0 49) (.inr (36, false))) H := by
  rw [M0_f (by decide) (by decide)]
  exact hP 49 _ rfl
set_option maxRecDepth 20000 in
theorem zc_50 {cyI cyZ cyL cyD : ClassId} {q0 q1 q2 q3 b : Nat} {a7 a8 sk sv : Nat → Nat} {fm : Nat} {D : va_G} {H : Heap} (hP : va_P D vwCl (zW cyI cyZ cyL cyD q0 q1 q2 q3 a7 a8) H) : va_at D vwCl (zAd q0 q1 q2 q3 b a7 a8 sk sv fm 50, qCell cyI cyZ (zAd q0 q1 q2 q3 b a7 a8 sk sv fm) (M0 50) (.inr (1536, false))) H := by
  rw [M0_f (by decide) (by decide)]
  exact hP 50 _ rfl
set_option maxRecDepth 20000 in
theorem zc_51 {cyI cyZ cyL cyD : ClassId} {q0 q1 q2 q3 b : Nat} {a7 a8 sk sv : Nat → Nat} {fm : Nat} {D : va_G} {H : Heap} (hP : va_P D vwCl (zW cyI cyZ cyL cyD q0 q1 q2 q3 a7 a8) H) : va_at D vwCl (zAd q0 q1 q2 q3 b a7 a8 sk sv fm 51, qCell cyI cyZ (zAd q0 q1 q2 q3 b a7 a8 sk sv fm) (M0 51) (.inr (1400, false))) H := by
  rw [M0_f (by decide) (by decide)]
  exact hP 51 _ rfl
theorem zq_0 {cyI cyZ cyL cyD : ClassId} {q0 q1 q2 q3 b : Nat} {a7 a8 sk sv : Nat → Nat} {fm : Nat} {D : va_G} {H : Heap} (hP : va_P D vwCl (zW cyI cyZ cyL cyD q0 q1 q2 q3 a7 a8) H) : ∀ k kk, 0 ≤ k → k < 13 → qLay[k]? = some kk → va_at D vwCl (zAd q0 q1 q2 q3 b a7 a8 sk sv fm k, qCell cyI cyZ (zAd q0 q1 q2 q3 b a7 a8 sk sv fm) (M0 k) kk) H := by
  intro k kk h0 h1 hk
  rcases (show k = 0 ∨ k = 1 ∨ k = 2 ∨ k = 3 ∨ k = 4 ∨ k = 5 ∨ k = 6 ∨ k = 7 ∨ k = 8 ∨ k = 9 ∨ k = 10 ∨ k = 11 ∨ k = 12 by omega) with rfl | rfl | rfl | rfl | rfl | rfl | rfl | rfl | rfl | rfl | rfl | rfl | rfl
  · obtain rfl : (.inl (7, [some 1, some 3, some 5, some 18, some 25, some 28, some 31, some 33, some 35, none, none, none, none, none]) : qK) = kk := Option.some.inj hk
    exact zc_0 hP
  · obtain rfl : (.inl (1, [some 2, none]) : qK) = kk := Option.some.inj hk
    exact zc_1 hP
  · obtain rfl : (.inr (700, false) : qK) = kk := Option.some.inj hk
    exact zc_2 hP
  · obtain rfl : (.inl (0, [some 4]) : qK) = kk := Option.some.inj hk
    exact zc_3 hP
  · obtain rfl : (.inr (8448, false) : qK) = kk := Option.some.inj hk
    exact zc_4 hP
  · obtain rfl : (.inl (6, [some 3, some 6, some 7, some 8, some 9, some 10, some 11, none, none]) : qK) = kk := Option.some.inj hk
    exact zc_5 hP
  · obtain rfl : (.inl (5, [some 12]) : qK) = kk := Option.some.inj hk
    exact zc_6 hP
  · obtain rfl : (.inl (5, [some 13]) : qK) = kk := Option.some.inj hk
    exact zc_7 hP
  · obtain rfl : (.inl (5, [some 14]) : qK) = kk := Option.some.inj hk
    exact zc_8 hP
  · obtain rfl : (.inl (5, [some 15]) : qK) = kk := Option.some.inj hk
    exact zc_9 hP
  · obtain rfl : (.inl (5, [some 16]) : qK) = kk := Option.some.inj hk
    exact zc_10 hP
  · obtain rfl : (.inl (5, [some 17]) : qK) = kk := Option.some.inj hk
    exact zc_11 hP
  · obtain rfl : (.inr (341, false) : qK) = kk := Option.some.inj hk
    exact zc_12 hP
theorem zq_1 {cyI cyZ cyL cyD : ClassId} {q0 q1 q2 q3 b : Nat} {a7 a8 sk sv : Nat → Nat} {fm : Nat} {D : va_G} {H : Heap} (hP : va_P D vwCl (zW cyI cyZ cyL cyD q0 q1 q2 q3 a7 a8) H) : ∀ k kk, 13 ≤ k → k < 26 → qLay[k]? = some kk → va_at D vwCl (zAd q0 q1 q2 q3 b a7 a8 sk sv fm k, qCell cyI cyZ (zAd q0 q1 q2 q3 b a7 a8 sk sv fm) (M0 k) kk) H := by
  intro k kk h0 h1 hk
  rcases (show k = 13 ∨ k = 14 ∨ k = 15 ∨ k = 16 ∨ k = 17 ∨ k = 18 ∨ k = 19 ∨ k = 20 ∨ k = 21 ∨ k = 22 ∨ k = 23 ∨ k = 24 ∨ k = 25 by omega) with rfl | rfl | rfl | rfl | rfl | rfl | rfl | rfl | rfl | rfl | rfl | rfl | rfl
  · obtain rfl : (.inr (341, false) : qK) = kk := Option.some.inj hk
    exact zc_13 hP
  · obtain rfl : (.inr (341, false) : qK) = kk := Option.some.inj hk
    exact zc_14 hP
  · obtain rfl : (.inr (341, false) : qK) = kk := Option.some.inj hk
    exact zc_15 hP
  · obtain rfl : (.inr (341, false) : qK) = kk := Option.some.inj hk
    exact zc_16 hP
  · obtain rfl : (.inr (341, false) : qK) = kk := Option.some.inj hk
    exact zc_17 hP
  · obtain rfl : (.inl (4, [some 3, some 19, some 20, some 21, none, none, none, none]) : qK) = kk := Option.some.inj hk
    exact zc_18 hP
  · obtain rfl : (.inl (5, [some 22]) : qK) = kk := Option.some.inj hk
    exact zc_19 hP
  · obtain rfl : (.inl (5, [some 23]) : qK) = kk := Option.some.inj hk
    exact zc_20 hP
  · obtain rfl : (.inl (5, [some 24]) : qK) = kk := Option.some.inj hk
    exact zc_21 hP
  · obtain rfl : (.inr (5, false) : qK) = kk := Option.some.inj hk
    exact zc_22 hP
  · obtain rfl : (.inr (5, false) : qK) = kk := Option.some.inj hk
    exact zc_23 hP
  · obtain rfl : (.inr (5, false) : qK) = kk := Option.some.inj hk
    exact zc_24 hP
  · obtain rfl : (.inl (3, [some 1, some 3, some 18, some 26, none, none, none, none, none, none, none, none, none]) : qK) = kk := Option.some.inj hk
    exact zc_25 hP
theorem zq_2 {cyI cyZ cyL cyD : ClassId} {q0 q1 q2 q3 b : Nat} {a7 a8 sk sv : Nat → Nat} {fm : Nat} {D : va_G} {H : Heap} (hP : va_P D vwCl (zW cyI cyZ cyL cyD q0 q1 q2 q3 a7 a8) H) : ∀ k kk, 26 ≤ k → k < 39 → qLay[k]? = some kk → va_at D vwCl (zAd q0 q1 q2 q3 b a7 a8 sk sv fm k, qCell cyI cyZ (zAd q0 q1 q2 q3 b a7 a8 sk sv fm) (M0 k) kk) H := by
  intro k kk h0 h1 hk
  rcases (show k = 26 ∨ k = 27 ∨ k = 28 ∨ k = 29 ∨ k = 30 ∨ k = 31 ∨ k = 32 ∨ k = 33 ∨ k = 34 ∨ k = 35 ∨ k = 36 ∨ k = 37 ∨ k = 38 by omega) with rfl | rfl | rfl | rfl | rfl | rfl | rfl | rfl | rfl | rfl | rfl | rfl | rfl
  · obtain rfl : (.inl (5, [some 27]) : qK) = kk := Option.some.inj hk
    exact zc_26 hP
  · obtain rfl : (.inr (6, false) : qK) = kk := Option.some.inj hk
    exact zc_27 hP
  · obtain rfl : (.inl (2, [some 3, some 29, none, none]) : qK) = kk := Option.some.inj hk
    exact zc_28 hP
  · obtain rfl : (.inl (5, [some 30]) : qK) = kk := Option.some.inj hk
    exact zc_29 hP
  · obtain rfl : (.inr (8, false) : qK) = kk := Option.some.inj hk
    exact zc_30 hP
  · obtain rfl : (.inl (1, [some 32, none]) : qK) = kk := Option.some.inj hk
    exact zc_31 hP
  · obtain rfl : (.inr (1023, false) : qK) = kk := Option.some.inj hk
    exact zc_32 hP
  · obtain rfl : (.inl (5, [some 34]) : qK) = kk := Option.some.inj hk
    exact zc_33 hP
  · obtain rfl : (.inr (6, false) : qK) = kk := Option.some.inj hk
    exact zc_34 hP
  · obtain rfl : (.inl (5, [some 36]) : qK) = kk := Option.some.inj hk
    exact zc_35 hP
  · obtain rfl : (.inr (2, false) : qK) = kk := Option.some.inj hk
    exact zc_36 hP
  · obtain rfl : (.inl (8, [none, none, none, none, some 38, some 39, some 40, none, some 41, none, some 42, some 43, none, some 44, some 45, some 46, some 47, none, none, none, some 48, none, none, none, none, none, none, none, none, none, none, none, some 49, some 50, some 51, none]) : qK) = kk := Option.some.inj hk
    exact zc_37 hP
  · obtain rfl : (.inr (36, false) : qK) = kk := Option.some.inj hk
    exact zc_38 hP
theorem zq_3 {cyI cyZ cyL cyD : ClassId} {q0 q1 q2 q3 b : Nat} {a7 a8 sk sv : Nat → Nat} {fm : Nat} {D : va_G} {H : Heap} (hP : va_P D vwCl (zW cyI cyZ cyL cyD q0 q1 q2 q3 a7 a8) H) : ∀ k kk, 39 ≤ k → k < 52 → qLay[k]? = some kk → va_at D vwCl (zAd q0 q1 q2 q3 b a7 a8 sk sv fm k, qCell cyI cyZ (zAd q0 q1 q2 q3 b a7 a8 sk sv fm) (M0 k) kk) H := by
  intro k kk h0 h1 hk
  rcases (show k = 39 ∨ k = 40 ∨ k = 41 ∨ k = 42 ∨ k = 43 ∨ k = 44 ∨ k = 45 ∨ k = 46 ∨ k = 47 ∨ k = 48 ∨ k = 49 ∨ k = 50 ∨ k = 51 by omega) with rfl | rfl | rfl | rfl | rfl | rfl | rfl | rfl | rfl | rfl | rfl | rfl | rfl
  · obtain rfl : (.inr (1536, false) : qK) = kk := Option.some.inj hk
    exact zc_39 hP
  · obtain rfl : (.inr (15360, false) : qK) = kk := Option.some.inj hk
    exact zc_40 hP
  · obtain rfl : (.inr (2, true) : qK) = kk := Option.some.inj hk
    exact zc_41 hP
  · obtain rfl : (.inr (256, false) : qK) = kk := Option.some.inj hk
    exact zc_42 hP
  · obtain rfl : (.inr (400, false) : qK) = kk := Option.some.inj hk
    exact zc_43 hP
  · obtain rfl : (.inr (341, false) : qK) = kk := Option.some.inj hk
    exact zc_44 hP
  · obtain rfl : (.inr (341, false) : qK) = kk := Option.some.inj hk
    exact zc_45 hP
  · obtain rfl : (.inr (341, false) : qK) = kk := Option.some.inj hk
    exact zc_46 hP
  · obtain rfl : (.inr (700, false) : qK) = kk := Option.some.inj hk
    exact zc_47 hP
  · obtain rfl : (.inr (700, false) : qK) = kk := Option.some.inj hk
    exact zc_48 hP
  · obtain rfl : (.inr (36, false) : qK) = kk := Option.some.inj hk
    exact zc_49 hP
  · obtain rfl : (.inr (1536, false) : qK) = kk := Option.some.inj hk
    exact zc_50 hP
  · obtain rfl : (.inr (1400, false) : qK) = kk := Option.some.inj hk
    exact zc_51 hP
theorem z_P {cyI cyZ cyL cyD : ClassId} {q0 q1 q2 q3 b : Nat} {a7 a8 sk sv : Nat → Nat} {fm : Nat} {D : va_G} {H : Heap} (hP : va_P D vwCl (zW cyI cyZ cyL cyD q0 q1 q2 q3 a7 a8) H) : va_P D vwCl (lWd cyI cyZ cyL cyD (zAd q0 q1 q2 q3 b a7 a8 sk sv fm) (M0, (fun _ => 0), (fun _ => 0))) H := by
  intro k q hk
  have h54 := (lWd_inv hk).1
  by_cases g : k < 52
  · rw [lWd_q g] at hk
    obtain ⟨x, h1, rfl⟩ := qWd_inv hk
    rcases (show k < 13 ∨ (13 ≤ k ∧ k < 26) ∨ (26 ≤ k ∧ k < 39) ∨ (39 ≤ k ∧ k < 52) by omega) with z | z | z | z
    · exact zq_0 hP k x (by omega) z h1
    · exact zq_1 hP k x z.1 z.2 h1
    · exact zq_2 hP k x z.1 z.2 h1
    · exact zq_3 hP k x z.1 z.2 h1
  · have e : k = 52 ∨ k = 53 := by omega
    rcases e with rfl | rfl
    · rw [lWd_o] at hk
      cases hk
      exact hP 52 _ rfl
    · rw [lWd_d] at hk
      cases hk
      exact hP 53 _ rfl

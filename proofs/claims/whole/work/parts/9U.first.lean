/-! The first world of both. -/
def M0 : qM := fun o k => if (o = 0 ∧ k = 13) ∨ (o = 37 ∧ k = 23) then -1 else 0
theorem M0_z {o : Nat} (h : o ≠ 0) (h' : o ≠ 37) (k : Int) : M0 o k = 0 := if_neg (fun w => w.elim (fun q => h q.1) (fun q => h' q.1))
theorem M0_0 {k : Int} (h : k ≠ 13) : M0 0 k = 0 := if_neg (fun w => w.elim (fun q => h q.2) (fun q => by have := q.1; omega))
theorem M0_37 {k : Int} (h : k ≠ 23) : M0 37 k = 0 := if_neg (fun w => w.elim (fun q => by have := q.1; omega) (fun q => h q.2))
theorem CI_M0 : CI M0 := by
  unfold CI
  rw [M0_z (o := 18) (by decide) (by decide), M0_z (o := 1) (by decide) (by decide), M0_0 (k := 9) (by decide), M0_0 (k := 11) (by decide), M0_z (o := 28) (by decide) (by decide), M0_z (o := 28) (by decide) (by decide) 3, M0_z (o := 31) (by decide) (by decide)]
  refine ⟨fun i _ _ => ?_, fun j => ?_, Or.inl rfl, by omega, fun i i0 i1 => by omega, Or.inl rfl, fun h => by omega, by omega, by omega, by omega, fun j _ _ => ?_, by omega, fun k k0 k1 => by omega, fun s _ _ => Or.inl (M0_z (by decide) (by decide) s), fun s _ _ h => absurd (M0_z (by decide) (by decide) s) h⟩
  · rw [M0_z (by decide) (by decide)]; omega
  · rw [M0_z (by decide) (by decide)]; exact zR0
  · rw [M0_z (by decide) (by decide)]; omega
theorem MI_M0 : MI M0 := by
  unfold MI
  rw [M0_37 (k := 1) (by decide), M0_37 (k := 2) (by decide), M0_37 (k := 3) (by decide), M0_37 (k := 7) (by decide), M0_37 (k := 21) (by decide), M0_37 (k := 35) (by decide)]
  refine ⟨Or.inl rfl, by omega, fun h => by omega, by omega, fun i _ _ => ?_, fun i _ _ => ?_, by omega, fun s _ _ => Or.inl (M0_z (by decide) (by decide) s), by omega, fun i i0 i1 => by omega, by omega, fun k i _ _ _ _ => M0_z (by decide) (by decide) _, fun i i0 i1 => by omega, fun st k i _ _ _ _ _ _ _ => M0_z (by decide) (by decide) _⟩
  · rw [M0_z (by decide) (by decide)]; omega
  · rw [M0_z (by decide) (by decide)]; omega
theorem Inv_M0 : Inv M0 := by
  refine ⟨CI_M0, MI_M0, 0, ?_⟩
  have e : ∀ o o', o ≠ 0 → o ≠ 37 → o' ≠ 0 → o' ≠ 37 → M0 o = M0 o' := fun o o' a b c d => by funext k; rw [M0_z a b, M0_z c d]
  unfold qRl
  rw [M0_37 (k := 1) (by decide), M0_37 (k := 2) (by decide), M0_37 (k := 3) (by decide), M0_37 (k := 7) (by decide), M0_37 (k := 21) (by decide), M0_37 (k := 22) (by decide), M0_37 (k := 35) (by decide), M0_0 (k := 9) (by decide), M0_0 (k := 10) (by decide), M0_0 (k := 11) (by decide), M0_0 (k := 12) (by decide)]
  exact ⟨rfl, rfl, rfl, rfl, rfl, rfl, M0_z (by decide) (by decide) _, e 2 48 (by decide) (by decide) (by decide) (by decide), M0_z (by decide) (by decide) _, e 32 51 (by decide) (by decide) (by decide) (by decide), fun k k0 k1 => by omega, fun k k0 k1 => by omega, M0_z (by decide) (by decide) _, fun j k hj => by omega, fun s _ _ => by rw [M0_z (by decide) (by decide), M0_z (by decide) (by decide)], fun s k _ _ h => absurd (M0_z (by decide) (by decide) s) h⟩


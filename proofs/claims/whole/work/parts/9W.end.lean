/-! The end of the law. -/
theorem law_fin {p : Program} {l : Launch} {e : Env} {s : State} {m : MethodId} {below : List Frame} {meth : Method} {c : Code} {dC : Nat → ClassId} {dI : Nat → Nat → Nat} {cyI cyZ : ClassId} {ad : Nat → Nat} {cy : ClassId × ClassId} {b : Nat} {L : List (Option Value)} {w : lM} : LW (p, l, e, s, m, #[Value.ref b], below, meth, c, dC, dI, cyI, cyZ, ad) (cL_law, 9, ret, room_1, [], cy, (fun q : Nat => s.heap.size ≤ q), lw_Z below #[Value.ref b] s) 601024 7293033 3633 L [] w := by
  obtain ⟨cyL, cyD⟩ := cy
  refine l_iconst dL_law_3633 ?_
  intro ok H locs ls hP hS hl
  obtain ⟨hx, hb, hml, hown, hts, hret, hlocks, hex, hK, hinj, henv, hst, hne, hA1, hA2⟩ := id ok
  refine va_forget (fun q hq => hS.2.2 q hq) ?_
  refine W.base ?_
  exact lw_ret (Drawn.sameBut.refl s.drawn lw_cs) hx hb hret hlocks dL_law_3634


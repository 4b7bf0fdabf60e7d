/-! The law: share. -/
theorem dec32 {n : Nat} (h : n ≤ 2139095040) : FP.Core.decode FP.Core.b32 n = .inf false ∨ ∃ c q, FP.Core.decode FP.Core.b32 n = .fin false c q := by
  have he : FP.Core.b32.exps = 256 := by decide
  have ht : FP.Core.b32.tails = 8388608 := by decide
  have hs : FP.Core.fieldS FP.Core.b32 n = false := by
    unfold FP.Core.fieldS
    rw [he, ht, show n / 8388608 / 256 % 2 = 0 by omega]
    rfl
  unfold FP.Core.decode
  rw [hs]
  unfold FP.Core.fieldE FP.Core.fieldT
  rw [he, ht]
  by_cases g : n / 8388608 % 256 = 256 - 1
  · rw [if_pos g, if_pos (by omega)]
    exact Or.inl rfl
  · rw [if_neg g]
    by_cases g2 : n / 8388608 % 256 = 0
    · rw [if_pos g2]; exact Or.inr ⟨_, _, rfl⟩
    · rw [if_neg g2]; exact Or.inr ⟨_, _, rfl⟩
theorem f2d_n {n : Nat} (h : n ≤ 2139095040) : vf_n64 (FP.f2d (UInt32.ofNat n)) := by
  have hn : (UInt32.ofNat n).toNat = n := by rw [UInt32.toNat_ofNat']; omega
  have hd := dec32 h
  have hnan : FP.Core.fIsNaN (UInt32.ofNat n) = false := by
    unfold FP.Core.fIsNaN FP.Core.isNaN
    rw [hn]
    rcases hd with e | ⟨c, q, e⟩
    · rw [e]; exact decide_eq_false (fun w => by cases w)
    · rw [e]; exact decide_eq_false (fun w => by cases w)
  have e1 : FP.f2d (UInt32.ofNat n) = UInt64.ofNat (FP.Core.convert FP.Core.b32 FP.Core.b64 n) := by
    unfold FP.f2d
    rw [hnan]
    show UInt64.ofNat (FP.Core.convert FP.Core.b32 FP.Core.b64 (UInt32.ofNat n).toNat) = _
    rw [hn]
  rw [e1]
  refine n64_of ?_
  unfold FP.Core.convert
  rcases hd with e | ⟨c, q, e⟩
  · rw [e]
    show FP.Core.encode FP.Core.b64 (.inf false) ≤ _
    decide
  · rw [e]
    exact rr_le c 1 q
theorem dec64 {n : Nat} (h : n ≤ 9218868437227405312) : FP.Core.decode FP.Core.b64 n = .inf false ∨ ∃ c q, FP.Core.decode FP.Core.b64 n = .fin false c q := by
  have he : FP.Core.b64.exps = 2048 := by decide
  have ht : FP.Core.b64.tails = 4503599627370496 := by decide
  have hs : FP.Core.fieldS FP.Core.b64 n = false := by
    unfold FP.Core.fieldS
    rw [he, ht, show n / 4503599627370496 / 2048 % 2 = 0 by omega]
    rfl
  unfold FP.Core.decode
  rw [hs]
  unfold FP.Core.fieldE FP.Core.fieldT
  rw [he, ht]
  by_cases g : n / 4503599627370496 % 2048 = 2048 - 1
  · rw [if_pos g, if_pos (by omega)]
    exact Or.inl rfl
  · rw [if_neg g]
    by_cases g2 : n / 4503599627370496 % 2048 = 0
    · rw [if_pos g2]; exact Or.inr ⟨_, _, rfl⟩
    · rw [if_neg g2]; exact Or.inr ⟨_, _, rfl⟩
theorem f2d_m {n : Nat} (h : n ≤ 2139095040) : ∃ m : Nat, m ≤ 9218868437227405312 ∧ FP.f2d (UInt32.ofNat n) = UInt64.ofNat m := by
  have hn : (UInt32.ofNat n).toNat = n := by rw [UInt32.toNat_ofNat']; omega
  have hd := dec32 h
  have hnan : FP.Core.fIsNaN (UInt32.ofNat n) = false := by
    unfold FP.Core.fIsNaN FP.Core.isNaN
    rw [hn]
    rcases hd with e | ⟨c, q, e⟩
    · rw [e]; exact decide_eq_false (fun w => by cases w)
    · rw [e]; exact decide_eq_false (fun w => by cases w)
  refine ⟨FP.Core.convert FP.Core.b32 FP.Core.b64 n, ?_, ?_⟩
  · unfold FP.Core.convert
    rcases hd with e | ⟨c, q, e⟩
    · rw [e]
      show FP.Core.encode FP.Core.b64 (.inf false) ≤ _
      decide
    · rw [e]
      exact rr_le c 1 q
  · unfold FP.f2d
    rw [hnan]
    show UInt64.ofNat (FP.Core.convert FP.Core.b32 FP.Core.b64 (UInt32.ofNat n).toNat) = _
    rw [hn]
theorem dcmp_0 {m : Nat} (h : m ≤ 9218868437227405312) : Op.cmpValue (FP.dcmp (UInt64.ofNat m) (UInt64.ofNat m)) .l = 0 := by
  have hm : (UInt64.ofNat m).toNat = m := by rw [UInt64.toNat_ofNat']; omega
  have e : FP.dcmp (UInt64.ofNat m) (UInt64.ofNat m) = some .eq := by
    show FP.Core.order (FP.Core.decode FP.Core.b64 (UInt64.ofNat m).toNat) (FP.Core.decode FP.Core.b64 (UInt64.ofNat m).toNat) = _
    rw [hm]
    rcases dec64 h with e | ⟨c, q, e⟩
    · rw [e]; rfl
    · rw [e]
      unfold FP.Core.order
      simp [compare, compareOfLessAndEq]
  rw [e]
  rfl


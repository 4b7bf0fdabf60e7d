/-! The words of the grammar: constants of the class String. -/
section QSTR
variable {X : qX} {own : Nat} {cc : ByteArray} {nL : Nat} {ret : Option FieldType} {u d : Nat} {P : qP} {b pc : Nat} {L : List (Option Value)} {st : List Value} {M : qM}
set_option maxHeartbeats 2000000 in
theorem q_callVS {idx n : Nat} {y : qY} {u' d' b' : Nat} {av : List Value} {o : Nat} {rest : List Value} {P' : qP} (dd : decode cc pc = .ok (.invokevirtual idx, 3)) (hlk : q_Ml own idx y) (hm : q_Md y n false) (hC : qCt y u' d' (.ref o :: av) M P') (hn : av.length = n) {i : Nat} (ho : o = 100 + i) (hi7 : i < 7) (hc : y.1.cls = "java/lang/String") (hu : b' + u' = b) (hd : d' < d) (hL : y.2.2.1 ≤ 21) (hr : (rest.map fun v => v.category).sum ≤ 8)
    (hk : QK X (own, cc, nL, ret, u, d) P b' (pc + 3) L rest P') : QW X (own, cc, nL, ret, u, d) P b pc L (av.reverse ++ .ref o :: rest) M := by
  obtain ⟨p, l, e, s, m, args, below, meth, c, dC, dI, cyI, cyZ, ad⟩ := X
  intro ok H locs cells slots ls hP hS hl h1 h2
  obtain ⟨hx, hb, hml, hown, hts, hret, hlocks, hex, hK, hinj, henv, hst⟩ := id ok
  have hC2 := hC l hst dC dI cyI cyZ ad H.size
  have hwq : ∀ w ∈ (Cond.code y.1 y.2.1 y.2.2.1 y.2.2.2 :: qT), w ∈ qT := fun w hw => (List.mem_cons.mp hw).elim (fun h => h ▸ hm.1) id
  have hw : ∀ w ∈ (Cond.code y.1 y.2.1 y.2.2.1 y.2.2.2 :: qT), ∀ (a' : Array Value) (U : State), s.WarmedH U.vm → w.before a' U = true := fun w hw a' U hW => word_at hW (good_of_word (List.mem_filter.mp (hwq w hw)).2) (hts w (hwq w hw))
  have hcb : CallB (qRm u d) s args (qNm own) idx y.1 y.2.1 y.2.2.1 y.2.2.2 (Cond.code y.1 y.2.1 y.2.2.1 y.2.2.2 :: qT) (qRm u' d') u' (6 * u') n :=
    ⟨rfl, rfl, by show d' + 6 + 1 ≤ d + 6; omega, by show 8 + (y.2.2.1 + 11) + (100 + 40 * d') ≤ 100 + 40 * d; omega, hw, List.mem_cons_self, hts _ hm.1, hts _ hm.2.1, hm.2.2.2.1, fun sig hs => by have := hm.2.2.2.2.1; rw [hs] at this; exact (Option.some.inj this).symm, hts _ hlk⟩
  have hpre : ∀ U : State, U.heap = H → s.WarmedH U.vm → qPc dC dI cyI cyZ ad H.size (.ref o :: av) M ((.ref o :: av).map (qTr ad)).toArray U := fun U hU hW =>
    ⟨rfl, by rw [hU], by rw [hU]; exact hP, va_K.moved hW.alike hK, hinj, by rw [hU]; exact henv.to hW hS.2.1 (qA_ge hS.1)⟩
  have hcats : (((rest.map (qTr ad)).map fun v => v.category).sum) ≤ 8 := by rw [qTr_cats]; exact hr
  have hrecv : ∃ cellB : Cell, H[ad o]? = some cellB ∧ cellB.vm.isStatics = false ∧ s.vm.findClass y.1.cls = some cellB.cls := by
    rw [hc, ho]
    exact vk_recv (i := i) henv.2.2.2.2.1 hi7 hS
  have hrun := vx_runV (p := p) (l := l) (e := e) (R := qRm u d) (below := below) (meth := meth) (locs := locs) (cells := cells) (slots := slots) (own := qNm own) (C := y.1.cls) (b := ad o) (As := av.map (qTr ad)) (rest := rest.map (qTr ad)) (g := F0 m pc ls ((av.reverse ++ .ref o :: rest).map (qTr ad))) (Ts := qT) (cc := cc) (nL := nL) ⟨hx, hb, hml, hown, hts⟩ hC2
    ⟨hcb, hts _ hm.2.2.1.1, hts _ hm.2.2.1.2⟩ ⟨qPc_blind, hrecv, hpre⟩ rfl (by simpa using hn) hl.1 (by simp [qTr]) (lv_room hcats) dd ⟨by show cells + u' ≤ u; omega, by show slots + 6 * u' ≤ 6 * u; omega⟩
  intro T hT XX
  rcases hrun T hT XX with ⟨v, st₀, t, T', LL, h0, X', hLL, e1, e2, ⟨⟨v', M', hv, hp, hPw⟩, hF⟩, stp⟩ | ⟨q, st₀, t, T', LL, E, ce, h0, X', hLL, e1, e2, ⟨M', hp, hPw, hF⟩, hce, hcv, hcl, stp⟩
  · obtain ⟨k1, k2, k3⟩ := vx_keep h0 e1 hS (fun q _ => qA_ge hS.1 q) (fun q h => qA_ge hS.1 q h) hLL hF
    have hv2 : v = v'.map (qTr ad) := by cases hv; rfl
    subst hv2
    obtain ⟨t2, a1, b1⟩ := hk.1 v' M' hp ok T'.heap (locs ++ LL) (cells + u') (slots + 6 * u') ls (by rw [e1]; exact hPw) k3 hl (by omega) (by omega) T' rfl X'
    refine ⟨t2, stp t2 ?_, b1⟩
    have : (v'.map (qTr ad)).toList ++ rest.map (qTr ad) = (v'.toList ++ rest).map (qTr ad) := by cases v' <;> simp
    rw [this]
    exact a1
  · obtain ⟨k1, k2, k3⟩ := vx_keep h0 e1 hS (fun q _ => qA_ge hS.1 q) (fun q h => qA_ge hS.1 q h) hLL hF
    have ho := vx_out (p := p) (l := l) (e := e) (R := qRm u d) (s := s) (m := m) (args := args) (below := below) (meth := meth) (c := c) (H := T'.heap) (locs := locs ++ LL) (cells := cells + u') (slots := slots + 6 * u') (pc := pc) (ls := ls) (rest := rest.map (qTr ad)) (q := q) (mc := u) (ms := 6 * u) (Qc := qQc dC dI cyI cyZ ad s.heap.size P) (XC := qXC dC dI cyI cyZ ad s.heap.size P) (free := qA ad s.heap.size)
      (fun x hx => (hex x hx).elim) hlocks (by rw [e1]; exact hce) hcv hcl (fun t' ht' _ => ⟨M', hk.2 E M' hp, by rw [ht', e1]; exact hPw, k3.F ht'⟩) k3.2.2 (by omega) (by omega)
    obtain ⟨t2, a1, b1⟩ := ho T' rfl X'
    exact ⟨t2, stp.trans a1, b1⟩
theorem q_nreturn {z : Int} {ty : FieldType} (hn : narrow ty (.int (zI z)) = .int (zI z)) (dd : decode cc pc = .ok (.ireturn, 1)) (h : P.1 (some (.int (zI z))) M) : QW X (own, cc, nL, some ty, u, d) P b pc L [.int (zI z)] M := by
  obtain ⟨p, l, e, s, m, args, below, meth, c, dC, dI, cyI, cyZ, ad⟩ := X
  intro ok H locs cells slots ls hP hS hl h1 h2
  obtain ⟨hx, hb, hml, hown, hts, hret, hlocks, hex, hK, hinj, henv, hst⟩ := id ok
  refine W.widen (k := u) (n := 6 * u) (by omega) (by omega) (vx_ret ?_)
  refine W.zret hx hb hret hn (fun t ht hW => ⟨⟨(some (.int (zI z))), M, rfl, h, by rw [ht]; exact hP⟩, hS.F ht⟩) hS.2.2 dd hlocks
theorem q_strval {i : Nat} (hi : i < 7) (hown : own = 11) (dd : decode cc pc = .ok (.getfield 9, 3)) (k : QW X (own, cc, nL, ret, u, d) P b (pc + 3) L (.ref (110 + i) :: st) M) : QW X (own, cc, nL, ret, u, d) P b pc L (.ref (100 + i) :: st) M := by
  subst hown
  obtain ⟨p, l, e, s, m, args, below, meth, c, dC, dI, cyI, cyZ, ad⟩ := X
  intro ok H locs cells slots ls hP hS hl h1 h2
  obtain ⟨hx, hb, hml, hown, hts, hret, hlocks, hex, hK, hinj, henv, hst⟩ := id ok
  exact vk_getf hx hb (henv.2.2.2.2.1.1 i hi).2.2.1 hS hown (hts _ (show Cond.fieldLink "java/lang/String" 9 "java/lang/String" "value" "[B" ∈ qT from qT_of 1989 (by decide +kernel) (by decide +kernel))) (fun x h => h) dd (k ok H locs cells slots ls hP hS hl h1 h2)
theorem q_strcoder {i : Nat} (hi : i < 7) (hown : own = 11) (dd : decode cc pc = .ok (.getfield 15, 3)) (k : QW X (own, cc, nL, ret, u, d) P b (pc + 3) L (.int (zI 0) :: st) M) : QW X (own, cc, nL, ret, u, d) P b pc L (.ref (100 + i) :: st) M := by
  subst hown
  obtain ⟨p, l, e, s, m, args, below, meth, c, dC, dI, cyI, cyZ, ad⟩ := X
  intro ok H locs cells slots ls hP hS hl h1 h2
  obtain ⟨hx, hb, hml, hown, hts, hret, hlocks, hex, hK, hinj, henv, hst⟩ := id ok
  exact vk_getf hx hb (henv.2.2.2.2.1.1 i hi).2.1 hS hown (hts _ (show Cond.fieldLink "java/lang/String" 15 "java/lang/String" "coder" "B" ∈ qT from qT_of 1990 (by decide +kernel) (by decide +kernel))) (fun x h => h) dd (k ok H locs cells slots ls hP hS hl h1 h2)
theorem q_strcs (hown : own = 11) (dd : decode cc pc = .ok (.getstatic 38, 3)) (k : QW X (own, cc, nL, ret, u, d) P b (pc + 3) L (.int (zI 1) :: st) M) : QW X (own, cc, nL, ret, u, d) P b pc L st M := by
  subst hown
  obtain ⟨p, l, e, s, m, args, below, meth, c, dC, dI, cyI, cyZ, ad⟩ := X
  intro ok H locs cells slots ls hP hS hl h1 h2
  obtain ⟨hx, hb, hml, hown, hts, hret, hlocks, hex, hK, hinj, henv, hst⟩ := id ok
  exact va_gets hx hb henv.2.2.2.2.2.1 hS hown (hts _ (show Cond.fieldLink "java/lang/String" 38 "java/lang/String" "COMPACT_STRINGS" "Z" ∈ qT from qT_of 518 (by decide +kernel) (by decide +kernel))) (fun x h => h) dd (k ok H locs cells slots ls hP hS hl h1 h2)
theorem q_strfm (hown : own = 11) (dd : decode cc pc = .ok (.getstatic 1053, 3)) (k : ∀ v, v = .null ∨ v = .ref 120 → QW X (own, cc, nL, ret, u, d) P b (pc + 3) L (v :: st) M) : QW X (own, cc, nL, ret, u, d) P b pc L st M := by
  subst hown
  obtain ⟨p, l, e, s, m, args, below, meth, c, dC, dI, cyI, cyZ, ad⟩ := X
  intro ok H locs cells slots ls hP hS hl h1 h2
  obtain ⟨hx, hb, hml, hown, hts, hret, hlocks, hex, hK, hinj, henv, hst⟩ := id ok
  have hw := hts _ (show Cond.fieldLink "java/lang/String" 1053 "jdk/internal/util/Preconditions" "SIOOBE_FORMATTER" "Ljava/util/function/BiFunction;" ∈ qT from qT_of 534 (by decide +kernel) (by decide +kernel))
  rcases henv.2.2.2.2.2.2.1 with hz | hz
  · exact va_gets hx hb hz hS hown hw (fun x h => h) dd (k .null (Or.inl rfl) ok H locs cells slots ls hP hS hl h1 h2)
  · exact va_gets hx hb hz hS hown hw (fun x h => h) dd (k (.ref 120) (Or.inr rfl) ok H locs cells slots ls hP hS hl h1 h2)
theorem q_strlen {i : Nat} (hi : i < 7) (dd : decode cc pc = .ok (.arraylength, 1)) (k : QW X (own, cc, nL, ret, u, d) P b (pc + 1) L (.int (zI ((qWl.getD i 0 : Nat) : Int)) :: st) M) : QW X (own, cc, nL, ret, u, d) P b pc L (.ref (110 + i) :: st) M := by
  obtain ⟨p, l, e, s, m, args, below, meth, c, dC, dI, cyI, cyZ, ad⟩ := X
  intro ok H locs cells slots ls hP hS hl h1 h2
  obtain ⟨hx, hb, hml, hown, hts, hret, hlocks, hex, hK, hinj, henv, hst⟩ := id ok
  exact va_tlen hx hb (henv.2.2.2.2.1.1 i hi).2.2.2 hS (by rw [zI_nat]; rfl) dd (k ok H locs cells slots ls hP hS hl h1 h2)
def chW (i k : Nat) : Int := ((qWb.getD i []).getD k 0).toInt
theorem q_strbld {i k : Nat} (hi : i < 7) (hk : k < qWl.getD i 0) (dd : decode cc pc = .ok (.baload, 1)) (kk : QW X (own, cc, nL, ret, u, d) P b (pc + 1) L (.int (zI (chW i k)) :: st) M) : QW X (own, cc, nL, ret, u, d) P b pc L (.int (zI (k : Int)) :: .ref (110 + i) :: st) M := by
  obtain ⟨p, l, e, s, m, args, below, meth, c, dC, dI, cyI, cyZ, ad⟩ := X
  intro ok H locs cells slots ls hP hS hl h1 h2
  obtain ⟨hx, hb, hml, hown, hts, hret, hlocks, hex, hK, hinj, henv, hst⟩ := id ok
  have hk5 : k < 6 := by
    have : ∀ i : Fin 7, qWl.getD i.val 0 < 6 := by decide
    have := this ⟨i, hi⟩
    simp only at this
    omega
  have hlen : qWl.getD i 0 < 2147483648 := by
    have : ∀ i : Fin 7, qWl.getD i.val 0 < 2147483648 := by decide
    exact this ⟨i, hi⟩
  have hk2 : (k : Int) < ((qWl.getD i 0 : Nat) : Int) := by omega
  refine va_tb hx hb (henv.2.2.2.2.1.1 i hi).2.2.2 hS (zI_in (by omega) hk2 hlen) (v := .int (zI (chW i k))) ?_ dd (kk ok H locs cells slots ls hP hS hl h1 h2)
  rw [zI_clamp (by omega) (by omega)]
  show Value.int ((qWb.getD i []).getD ((k : Int)).toNat 0) = _
  rw [show ((k : Int)).toNat = k by omega]
  unfold chW
  rw [zI_of]
theorem q_i2c {z : Int} (hz : 0 ≤ z ∧ z < 128) (dd : decode cc pc = .ok (.i2c, 1)) (k : QW X (own, cc, nL, ret, u, d) P b (pc + 1) L (.int (zI z) :: st) M) : QW X (own, cc, nL, ret, u, d) P b pc L (.int (zI z) :: st) M := by
  obtain ⟨p, l, e, s, m, args, below, meth, c, dC, dI, cyI, cyZ, ad⟩ := X
  intro ok H locs cells slots ls hP hS hl h1 h2
  obtain ⟨hx, hb, hml, hown, hts, hret, hlocks, hex, hK, hinj, henv, hst⟩ := id ok
  refine lv_i2c hx hb dd ?_ (k ok H locs cells slots ls hP hS hl h1 h2)
  obtain ⟨n, rfl⟩ := z_nat hz.1
  have key : ∀ a : Fin 128, ((zI (a.val : Int)).toUInt32 % 65536).toInt32 = zI (a.val : Int) := by decide +kernel
  exact key ⟨n, by omega⟩
end QSTR
theorem wl_in : ∀ i : Fin 7, 1 ≤ qWl.getD i.val 0 ∧ qWl.getD i.val 0 < 6 := by decide
theorem ch_in : ∀ i : Fin 7, ∀ k : Fin 6, k.val < qWl.getD i.val 0 → 97 ≤ chW i.val k.val ∧ chW i.val k.val ≤ 122 := by decide +kernel
theorem ch_in2 {i k : Nat} (hi : i < 7) (hk : k < qWl.getD i 0) : 97 ≤ chW i k ∧ chW i k ≤ 122 := by
  have h := (wl_in ⟨i, hi⟩).2
  simp only at h
  exact ch_in ⟨i, hi⟩ ⟨k, by omega⟩ hk
section QSC
variable {i : Nat} {M : qM}
set_option maxHeartbeats 1000000 in
theorem c_coder (hi : i < 7) : qCt mJ0_coder_7d493 0 0 [.ref (100 + i)] M (qpe 0 M) := by
  refine q_intro (own := 11) (L := [some (.ref (100 + i))]) md_J0_coder_7d493 rfl rfl rfl (Nat.le_of_ble_eq_true rfl) (fun X => ?_)
  refine q_strcs rfl dJ0_coder_7d493_0 ?_
  refine q_if_eq (tgt := 13) dJ0_coder_7d493_3 rfl (by (first | (unfold zR; omega) | (unfold zLR; omega) | omega | (simp only [zR, qup] at *; omega) | (simp [zR, qup]; omega) | (simp [zR, qup]; done))) (fun h3 => absurd h3 (by omega)) (fun h3 => ?_)
  refine q_aload_n dJ0_coder_7d493_6 rfl ?_
  refine q_strcoder hi rfl dJ0_coder_7d493_7 ?_
  refine q_goto (tgt := 14) dJ0_coder_7d493_10 rfl ?_
  exact q_nreturn rfl dJ0_coder_7d493_14 ⟨rfl, rfl⟩
set_option maxHeartbeats 1000000 in
theorem c_isLatin1 (hi : i < 7) : qCt mJ0_isLatin1_aae02 0 0 [.ref (100 + i)] M (qpe 1 M) := by
  refine q_intro (own := 11) (L := [some (.ref (100 + i))]) md_J0_isLatin1_aae02 rfl rfl rfl (Nat.le_of_ble_eq_true rfl) (fun X => ?_)
  refine q_strcs rfl dJ0_isLatin1_aae02_0 ?_
  refine q_if_eq (tgt := 17) dJ0_isLatin1_aae02_3 rfl (by (first | (unfold zR; omega) | (unfold zLR; omega) | omega | (simp only [zR, qup] at *; omega) | (simp [zR, qup]; omega) | (simp [zR, qup]; done))) (fun h3 => absurd h3 (by omega)) (fun h3 => ?_)
  refine q_aload_n dJ0_isLatin1_aae02_6 rfl ?_
  refine q_strcoder hi rfl dJ0_isLatin1_aae02_7 ?_
  refine q_if_ne (tgt := 17) dJ0_isLatin1_aae02_10 rfl (by (first | (unfold zR; omega) | (unfold zLR; omega) | omega | (simp only [zR, qup] at *; omega) | (simp [zR, qup]; omega) | (simp [zR, qup]; done))) (fun h10 => absurd h10 (by omega)) (fun h10 => ?_)
  refine q_iconst dJ0_isLatin1_aae02_13 ?_
  refine q_goto (tgt := 18) dJ0_isLatin1_aae02_14 rfl ?_
  refine q_zreturn (by first | exact Or.inl rfl | exact Or.inr rfl) dJ0_isLatin1_aae02_18 ?_
  exact ⟨rfl, rfl⟩
set_option maxHeartbeats 1000000 in
theorem c_strlen (hi : i < 7) : qCt mJ0_length_8abf5 0 1 [.ref (100 + i)] M (qpe ((qWl.getD i 0 : Nat) : Int) M) := by
  have hw := wl_in ⟨i, hi⟩
  simp only at hw
  refine q_intro (own := 11) (L := [some (.ref (100 + i))]) md_J0_length_8abf5 rfl rfl rfl (Nat.le_of_ble_eq_true rfl) (fun X => ?_)
  refine q_aload_n dJ0_length_8abf5_0 rfl ?_
  refine q_strval hi rfl dJ0_length_8abf5_1 ?_
  refine q_strlen hi dJ0_length_8abf5_4 ?_
  refine q_aload_n dJ0_length_8abf5_5 rfl ?_
  refine q_callVS (av := []) dJ0_length_8abf5_6 ml_11_335 md_J0_coder_7d493 (c_coder hi) rfl rfl hi rfl rfl (by decide) (by decide) (Nat.le_of_ble_eq_true rfl) (qk_e ?_)
  refine q_ishr dJ0_length_8abf5_9 ?_
  refine q_ireturn dJ0_length_8abf5_10 ⟨?_, rfl⟩
  have : zshr ((qWl.getD i 0 : Nat) : Int) 0 = ((qWl.getD i 0 : Nat) : Int) := by
    have := zshr_c (a := ((qWl.getD i 0 : Nat) : Int)) 0 (by omega) (by omega) (by decide)
    simpa using this
  rw [this]
set_option maxHeartbeats 1000000 in
theorem c_pcheck {k n : Int} {v : Value} (hv : v = .null ∨ v = .ref 120) (hk : 0 ≤ k ∧ k < n) (hn : n < 2147483648) : qCt mJ3_checkIndex_8e157 0 0 [.int (zI k), .int (zI n), v] M (qpe k M) := by
  rcases hv with rfl | rfl
  ·
    refine q_intro (own := 13) (L := [some (.int (zI k)), some (.int (zI n)), some (.null)]) md_J3_checkIndex_8e157 rfl rfl rfl (Nat.le_of_ble_eq_true rfl) (fun X => ?_)
    refine q_iload_n dJ3_checkIndex_8e157_0 rfl ?_
    refine q_if_lt (tgt := 9) dJ3_checkIndex_8e157_1 rfl (by (first | (unfold zR; omega) | (unfold zLR; omega) | omega | (simp only [zR, qup] at *; omega) | (simp [zR, qup]; omega) | (simp [zR, qup]; done))) (fun h1 => absurd h1 (by omega)) (fun h1 => ?_)
    refine q_iload_n dJ3_checkIndex_8e157_4 rfl ?_
    refine q_iload_n dJ3_checkIndex_8e157_5 rfl ?_
    refine q_icmp_lt (tgt := 16) dJ3_checkIndex_8e157_6 rfl (by (first | (unfold zR; omega) | (unfold zLR; omega) | omega | (simp only [zR, qup] at *; omega) | (simp [zR, qup]; omega) | (simp [zR, qup]; done))) (by (first | (unfold zR; omega) | (unfold zLR; omega) | omega | (simp only [zR, qup] at *; omega) | (simp [zR, qup]; omega) | (simp [zR, qup]; done))) (fun h6 => ?_) (fun h6 => absurd h6 (by omega))
    refine q_iload_n dJ3_checkIndex_8e157_16 rfl ?_
    refine q_ireturn dJ3_checkIndex_8e157_17 ?_
    exact ⟨rfl, rfl⟩
  ·
    refine q_intro (own := 13) (L := [some (.int (zI k)), some (.int (zI n)), some (.ref 120)]) md_J3_checkIndex_8e157 rfl rfl rfl (Nat.le_of_ble_eq_true rfl) (fun X => ?_)
    refine q_iload_n dJ3_checkIndex_8e157_0 rfl ?_
    refine q_if_lt (tgt := 9) dJ3_checkIndex_8e157_1 rfl (by (first | (unfold zR; omega) | (unfold zLR; omega) | omega | (simp only [zR, qup] at *; omega) | (simp [zR, qup]; omega) | (simp [zR, qup]; done))) (fun h1 => absurd h1 (by omega)) (fun h1 => ?_)
    refine q_iload_n dJ3_checkIndex_8e157_4 rfl ?_
    refine q_iload_n dJ3_checkIndex_8e157_5 rfl ?_
    refine q_icmp_lt (tgt := 16) dJ3_checkIndex_8e157_6 rfl (by (first | (unfold zR; omega) | (unfold zLR; omega) | omega | (simp only [zR, qup] at *; omega) | (simp [zR, qup]; omega) | (simp [zR, qup]; done))) (by (first | (unfold zR; omega) | (unfold zLR; omega) | omega | (simp only [zR, qup] at *; omega) | (simp [zR, qup]; omega) | (simp [zR, qup]; done))) (fun h6 => ?_) (fun h6 => absurd h6 (by omega))
    refine q_iload_n dJ3_checkIndex_8e157_16 rfl ?_
    refine q_ireturn dJ3_checkIndex_8e157_17 ?_
    exact ⟨rfl, rfl⟩
set_option maxHeartbeats 1000000 in
theorem c_scheck {k n : Int} (hk : 0 ≤ k ∧ k < n) (hn : n < 2147483648) : qCt mJ0_checkIndex_df160 0 1 [.int (zI k), .int (zI n)] M (qpv M) := by
  refine q_intro (own := 11) (L := [some (.int (zI k)), some (.int (zI n))]) md_J0_checkIndex_df160 rfl rfl rfl (Nat.le_of_ble_eq_true rfl) (fun X => ?_)
  refine q_iload_n dJ0_checkIndex_df160_0 rfl ?_
  refine q_iload_n dJ0_checkIndex_df160_1 rfl ?_
  refine q_strfm rfl dJ0_checkIndex_df160_2 (fun v hv => ?_)
  refine q_callS (av := [.int (zI k), .int (zI n), v]) dJ0_checkIndex_df160_5 ml_11_1059 md_J3_checkIndex_8e157 (c_pcheck hv hk hn) rfl rfl (by decide) (by decide) (by decide) (qk_e ?_)
  refine q_pop dJ0_checkIndex_df160_8 rfl ?_
  exact q_return dJ0_checkIndex_df160_9 ⟨rfl, rfl⟩
set_option maxHeartbeats 1000000 in
theorem c_l1char {k : Nat} (hi : i < 7) (hk : k < qWl.getD i 0) : qCt mJ1_charAt_3b067 0 2 [.ref (110 + i), .int (zI (k : Int))] M (qpe (chW i k) M) := by
  have hw := wl_in ⟨i, hi⟩
  have hc := ch_in2 hi hk
  simp only at hw
  refine q_intro (own := 12) (L := [some (.ref (110 + i)), some (.int (zI (k : Int)))]) md_J1_charAt_3b067 rfl rfl rfl (Nat.le_of_ble_eq_true rfl) (fun X => ?_)
  refine q_iload_n dJ1_charAt_3b067_0 rfl ?_
  refine q_aload_n dJ1_charAt_3b067_1 rfl ?_
  refine q_strlen hi dJ1_charAt_3b067_2 ?_
  refine q_S2 dJ1_charAt_3b067_3 ml_12_9 md_J0_checkIndex_df160 (c_scheck (by omega) (by omega)) rfl (by decide) (by decide) (by decide) (qk_v ?_)
  refine q_aload_n dJ1_charAt_3b067_6 rfl ?_
  refine q_iload_n dJ1_charAt_3b067_7 rfl ?_
  refine q_strbld hi hk dJ1_charAt_3b067_8 ?_
  refine q_sipush dJ1_charAt_3b067_9 rfl ?_
  refine q_iand dJ1_charAt_3b067_12 ?_
  have e : zand (chW i k) 255 = chW i k := by
    obtain ⟨n, hn⟩ := z_nat (show 0 ≤ chW i k by omega)
    have key : ∀ a : Fin 128, zand (a.val : Int) 255 = (a.val : Int) := by decide +kernel
    rw [hn]
    exact key ⟨n, by omega⟩
  rw [e]
  refine q_i2c (by omega) dJ1_charAt_3b067_13 ?_
  refine q_nreturn ?_ dJ1_charAt_3b067_14 ⟨rfl, rfl⟩
  obtain ⟨n, hn⟩ := z_nat (show 0 ≤ chW i k by omega)
  have key : ∀ a : Fin 128, narrow .char (.int (zI (a.val : Int))) = .int (zI (a.val : Int)) := by decide +kernel
  rw [hn]
  exact key ⟨n, by omega⟩
set_option maxHeartbeats 1000000 in
theorem c_strchar {k : Nat} (hi : i < 7) (hk : k < qWl.getD i 0) : qCt mJ0_charAt_5068e 0 3 [.ref (100 + i), .int (zI (k : Int))] M (qpe (chW i k) M) := by
  have hc := ch_in2 hi hk
  refine q_intro (own := 11) (L := [some (.ref (100 + i)), some (.int (zI (k : Int)))]) md_J0_charAt_5068e rfl rfl rfl (Nat.le_of_ble_eq_true rfl) (fun X => ?_)
  refine q_aload_n dJ0_charAt_5068e_0 rfl ?_
  refine q_callVS (av := []) dJ0_charAt_5068e_1 ml_11_492 md_J0_isLatin1_aae02 (c_isLatin1 hi) rfl rfl hi rfl rfl (by decide) (by decide) (by decide) (qk_e ?_)
  refine q_if_eq (tgt := 16) dJ0_charAt_5068e_4 rfl (by (first | (unfold zR; omega) | (unfold zLR; omega) | omega | (simp only [zR, qup] at *; omega) | (simp [zR, qup]; omega) | (simp [zR, qup]; done))) (fun h4 => absurd h4 (by omega)) (fun h4 => ?_)
  refine q_aload_n dJ0_charAt_5068e_7 rfl ?_
  refine q_strval hi rfl dJ0_charAt_5068e_8 ?_
  refine q_iload_n dJ0_charAt_5068e_11 rfl ?_
  refine q_S2 dJ0_charAt_5068e_12 ml_11_495 md_J1_charAt_3b067 (c_l1char hi hk) rfl (by decide) (by decide) (by decide) (qk_e ?_)
  refine q_nreturn ?_ dJ0_charAt_5068e_15 ⟨rfl, rfl⟩
  obtain ⟨n, hn⟩ := z_nat (show 0 ≤ chW i k by omega)
  have key : ∀ a : Fin 128, narrow .char (.int (zI (a.val : Int))) = .int (zI (a.val : Int)) := by decide +kernel
  rw [hn]
  exact key ⟨n, by omega⟩
end QSC


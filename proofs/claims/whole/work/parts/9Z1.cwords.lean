/-! Words of the constructors (gen/ctor.py). -/
theorem fd_0 : ∀ j, j < 1 → defaultValue (qTy 0 j) = vp_V [.null] j := by
  intro j hj
  rcases (show j = 0 by omega) with rfl <;> rfl
theorem fd_1 : ∀ j, j < 2 → defaultValue (qTy 1 j) = vp_V [.null, .int 0] j := by
  intro j hj
  rcases (show j = 0 ∨ j = 1 by omega) with rfl | rfl <;> rfl
theorem fd_2 : ∀ j, j < 4 → defaultValue (qTy 2 j) = vp_V [.null, .null, .int 0, .int 0] j := by
  intro j hj
  rcases (show j = 0 ∨ j = 1 ∨ j = 2 ∨ j = 3 by omega) with rfl | rfl | rfl | rfl <;> rfl
theorem fd_3 : ∀ j, j < 13 → defaultValue (qTy 3 j) = vp_V [.null, .null, .null, .null, .int 0, .int 0, .int 0, .int 0, .int 0, .int 0, .int 0, .int 0, .int 0] j := by
  intro j hj
  rcases (show j = 0 ∨ j = 1 ∨ j = 2 ∨ j = 3 ∨ j = 4 ∨ j = 5 ∨ j = 6 ∨ j = 7 ∨ j = 8 ∨ j = 9 ∨ j = 10 ∨ j = 11 ∨ j = 12 by omega) with rfl | rfl | rfl | rfl | rfl | rfl | rfl | rfl | rfl | rfl | rfl | rfl | rfl <;> rfl
theorem fd_4 : ∀ j, j < 8 → defaultValue (qTy 4 j) = vp_V [.null, .null, .null, .null, .int 0, .int 0, .int 0, .int 0] j := by
  intro j hj
  rcases (show j = 0 ∨ j = 1 ∨ j = 2 ∨ j = 3 ∨ j = 4 ∨ j = 5 ∨ j = 6 ∨ j = 7 by omega) with rfl | rfl | rfl | rfl | rfl | rfl | rfl | rfl <;> rfl
theorem fd_5 : ∀ j, j < 1 → defaultValue (qTy 5 j) = vp_V [.null] j := by
  intro j hj
  rcases (show j = 0 by omega) with rfl <;> rfl
theorem fd_6 : ∀ j, j < 9 → defaultValue (qTy 6 j) = vp_V [.null, .null, .null, .null, .null, .null, .null, .int 0, .int 0] j := by
  intro j hj
  rcases (show j = 0 ∨ j = 1 ∨ j = 2 ∨ j = 3 ∨ j = 4 ∨ j = 5 ∨ j = 6 ∨ j = 7 ∨ j = 8 by omega) with rfl | rfl | rfl | rfl | rfl | rfl | rfl | rfl | rfl <;> rfl
theorem fd_7 : ∀ j, j < 14 → defaultValue (qTy 7 j) = vp_V [.null, .null, .null, .null, .null, .null, .null, .null, .null, .int 0, .int 0, .int 0, .int 0, .int 0] j := by
  intro j hj
  rcases (show j = 0 ∨ j = 1 ∨ j = 2 ∨ j = 3 ∨ j = 4 ∨ j = 5 ∨ j = 6 ∨ j = 7 ∨ j = 8 ∨ j = 9 ∨ j = 10 ∨ j = 11 ∨ j = 12 ∨ j = 13 by omega) with rfl | rfl | rfl | rfl | rfl | rfl | rfl | rfl | rfl | rfl | rfl | rfl | rfl | rfl <;> rfl
theorem fd_8 : ∀ j, j < 36 → defaultValue (qTy 8 j) = vp_V [.int 0, .int 0, .int 0, .int 0, .null, .null, .null, .int 0, .null, .int 0, .null, .null, .int 0, .null, .null, .null, .null, .int 0, .int 0, .int 0, .null, .int 0, .int 0, .int 0, .int 0, .int 0, .int 0, .int 0, .int 0, .int 0, .int 0, .int 0, .null, .null, .null, .int 0] j := by
  intro j hj
  rcases (show j = 0 ∨ j = 1 ∨ j = 2 ∨ j = 3 ∨ j = 4 ∨ j = 5 ∨ j = 6 ∨ j = 7 ∨ j = 8 ∨ j = 9 ∨ j = 10 ∨ j = 11 ∨ j = 12 ∨ j = 13 ∨ j = 14 ∨ j = 15 ∨ j = 16 ∨ j = 17 ∨ j = 18 ∨ j = 19 ∨ j = 20 ∨ j = 21 ∨ j = 22 ∨ j = 23 ∨ j = 24 ∨ j = 25 ∨ j = 26 ∨ j = 27 ∨ j = 28 ∨ j = 29 ∨ j = 30 ∨ j = 31 ∨ j = 32 ∨ j = 33 ∨ j = 34 ∨ j = 35 by omega) with rfl | rfl | rfl | rfl | rfl | rfl | rfl | rfl | rfl | rfl | rfl | rfl | rfl | rfl | rfl | rfl | rfl | rfl | rfl | rfl | rfl | rfl | rfl | rfl | rfl | rfl | rfl | rfl | rfl | rfl | rfl | rfl | rfl | rfl | rfl | rfl <;> rfl
theorem mi_X0 : q_Mi mX0_init 0 := ⟨qT_of 158 (by decide +kernel) (by decide +kernel), qT_of 112 (by decide +kernel) (by decide +kernel), qT_of 157 (by decide +kernel) (by decide +kernel), rfl, by decide +kernel, by decide +kernel, by decide +kernel⟩
theorem mi_X1 : q_Mi mX1_init 1 := ⟨qT_of 144 (by decide +kernel) (by decide +kernel), qT_of 111 (by decide +kernel) (by decide +kernel), qT_of 143 (by decide +kernel) (by decide +kernel), rfl, by decide +kernel, by decide +kernel, by decide +kernel⟩
theorem mi_X2 : q_Mi mX2_init 1 := ⟨qT_of 293 (by decide +kernel) (by decide +kernel), qT_of 117 (by decide +kernel) (by decide +kernel), qT_of 292 (by decide +kernel) (by decide +kernel), rfl, by decide +kernel, by decide +kernel, by decide +kernel⟩
theorem mi_X3 : q_Mi mX3_init 3 := ⟨qT_of 245 (by decide +kernel) (by decide +kernel), qT_of 116 (by decide +kernel) (by decide +kernel), qT_of 244 (by decide +kernel) (by decide +kernel), rfl, by decide +kernel, by decide +kernel, by decide +kernel⟩
theorem mi_X4 : q_Mi mX4_init 1 := ⟨qT_of 168 (by decide +kernel) (by decide +kernel), qT_of 113 (by decide +kernel) (by decide +kernel), qT_of 167 (by decide +kernel) (by decide +kernel), rfl, by decide +kernel, by decide +kernel, by decide +kernel⟩
theorem mi_X5 : q_Mi mX5_init 1 := ⟨qT_of 174 (by decide +kernel) (by decide +kernel), qT_of 114 (by decide +kernel) (by decide +kernel), qT_of 173 (by decide +kernel) (by decide +kernel), rfl, by decide +kernel, by decide +kernel, by decide +kernel⟩
theorem mi_X6 : q_Mi mX6_init 1 := ⟨qT_of 209 (by decide +kernel) (by decide +kernel), qT_of 115 (by decide +kernel) (by decide +kernel), qT_of 208 (by decide +kernel) (by decide +kernel), rfl, by decide +kernel, by decide +kernel, by decide +kernel⟩
theorem mi_X7 : q_Mi mX7_init 0 := ⟨qT_of 136 (by decide +kernel) (by decide +kernel), qT_of 110 (by decide +kernel) (by decide +kernel), qT_of 135 (by decide +kernel) (by decide +kernel), rfl, by decide +kernel, by decide +kernel, by decide +kernel⟩
theorem mi_X8 : q_Mi mX8_init 0 := ⟨qT_of 1349 (by decide +kernel) (by decide +kernel), qT_of 118 (by decide +kernel) (by decide +kernel), qT_of 1348 (by decide +kernel) (by decide +kernel), rfl, by decide +kernel, by decide +kernel, by decide +kernel⟩
theorem zo_i : Cond.instanceMethod objectInit ∈ qT := qT_of 138 (by decide +kernel) (by decide +kernel)
theorem zo_c : Cond.code objectInit ⟨#[0xb1]⟩ 1 none ∈ qT := qT_of 139 (by decide +kernel) (by decide +kernel)
theorem zo_I : Cond.arrayClass .int ∈ qT := qT_of 153 (by decide +kernel) (by decide +kernel)
theorem zo_Z : Cond.arrayClass .boolean ∈ qT := qT_of 1460 (by decide +kernel) (by decide +kernel)
theorem zo_5_1 : Cond.methodLink (qNm 5) 1 objectInit ∈ qT := qT_of 175 (by decide +kernel) (by decide +kernel)
theorem zo_1_1 : Cond.methodLink (qNm 1) 1 objectInit ∈ qT := qT_of 145 (by decide +kernel) (by decide +kernel)
theorem zo_0_3 : Cond.methodLink (qNm 0) 3 objectInit ∈ qT := qT_of 159 (by decide +kernel) (by decide +kernel)
theorem zo_2_3 : Cond.methodLink (qNm 2) 3 objectInit ∈ qT := qT_of 294 (by decide +kernel) (by decide +kernel)
theorem nw_2_9 : q_Nw 2 9 5 1 [.null] := ⟨(RX5, TX5, 1), rfl, rfl, qT_of 295 (by decide +kernel) (by decide +kernel), qT_of 171 (by decide +kernel) (by decide +kernel), qT_of 114 (by decide +kernel) (by decide +kernel), fd_5⟩
theorem zo_3_3 : Cond.methodLink (qNm 3) 3 objectInit ∈ qT := qT_of 246 (by decide +kernel) (by decide +kernel)
theorem nw_3_9 : q_Nw 3 9 5 1 [.null] := ⟨(RX5, TX5, 1), rfl, rfl, qT_of 247 (by decide +kernel) (by decide +kernel), qT_of 171 (by decide +kernel) (by decide +kernel), qT_of 114 (by decide +kernel) (by decide +kernel), fd_5⟩
theorem zo_4_3 : Cond.methodLink (qNm 4) 3 objectInit ∈ qT := qT_of 169 (by decide +kernel) (by decide +kernel)
theorem nw_4_9 : q_Nw 4 9 5 1 [.null] := ⟨(RX5, TX5, 1), rfl, rfl, qT_of 170 (by decide +kernel) (by decide +kernel), qT_of 171 (by decide +kernel) (by decide +kernel), qT_of 114 (by decide +kernel) (by decide +kernel), fd_5⟩
theorem zo_6_3 : Cond.methodLink (qNm 6) 3 objectInit ∈ qT := qT_of 210 (by decide +kernel) (by decide +kernel)
theorem nw_6_9 : q_Nw 6 9 5 1 [.null] := ⟨(RX5, TX5, 1), rfl, rfl, qT_of 211 (by decide +kernel) (by decide +kernel), qT_of 171 (by decide +kernel) (by decide +kernel), qT_of 114 (by decide +kernel) (by decide +kernel), fd_5⟩
theorem zo_7_3 : Cond.methodLink (qNm 7) 3 objectInit ∈ qT := qT_of 137 (by decide +kernel) (by decide +kernel)
theorem nw_7_9 : q_Nw 7 9 1 2 [.null, .int 0] := ⟨(RX1, TX1, 2), rfl, rfl, qT_of 140 (by decide +kernel) (by decide +kernel), qT_of 141 (by decide +kernel) (by decide +kernel), qT_of 111 (by decide +kernel) (by decide +kernel), fd_1⟩
theorem nw_7_14 : q_Nw 7 14 0 1 [.null] := ⟨(RX0, TX0, 1), rfl, rfl, qT_of 154 (by decide +kernel) (by decide +kernel), qT_of 155 (by decide +kernel) (by decide +kernel), qT_of 112 (by decide +kernel) (by decide +kernel), fd_0⟩
theorem nw_7_17 : q_Nw 7 17 4 8 [.null, .null, .null, .null, .int 0, .int 0, .int 0, .int 0] := ⟨(RX4, TX4, 8), rfl, rfl, qT_of 164 (by decide +kernel) (by decide +kernel), qT_of 165 (by decide +kernel) (by decide +kernel), qT_of 113 (by decide +kernel) (by decide +kernel), fd_4⟩
theorem nw_7_34 : q_Nw 7 34 6 9 [.null, .null, .null, .null, .null, .null, .null, .int 0, .int 0] := ⟨(RX6, TX6, 9), rfl, rfl, qT_of 205 (by decide +kernel) (by decide +kernel), qT_of 206 (by decide +kernel) (by decide +kernel), qT_of 115 (by decide +kernel) (by decide +kernel), fd_6⟩
theorem nw_7_41 : q_Nw 7 41 3 13 [.null, .null, .null, .null, .int 0, .int 0, .int 0, .int 0, .int 0, .int 0, .int 0, .int 0, .int 0] := ⟨(RX3, TX3, 13), rfl, rfl, qT_of 241 (by decide +kernel) (by decide +kernel), qT_of 242 (by decide +kernel) (by decide +kernel), qT_of 116 (by decide +kernel) (by decide +kernel), fd_3⟩
theorem nw_7_50 : q_Nw 7 50 2 4 [.null, .null, .int 0, .int 0] := ⟨(RX2, TX2, 4), rfl, rfl, qT_of 289 (by decide +kernel) (by decide +kernel), qT_of 290 (by decide +kernel) (by decide +kernel), qT_of 117 (by decide +kernel) (by decide +kernel), fd_2⟩
theorem nw_7_60 : q_Nw 7 60 5 1 [.null] := ⟨(RX5, TX5, 1), rfl, rfl, qT_of 310 (by decide +kernel) (by decide +kernel), qT_of 171 (by decide +kernel) (by decide +kernel), qT_of 114 (by decide +kernel) (by decide +kernel), fd_5⟩
theorem zo_8_1 : Cond.methodLink (qNm 8) 1 objectInit ∈ qT := qT_of 1350 (by decide +kernel) (by decide +kernel)
theorem nw_9_8 : q_Nw 9 8 7 14 [.null, .null, .null, .null, .null, .null, .null, .null, .null, .int 0, .int 0, .int 0, .int 0, .int 0] := ⟨(RX7, TX7, 14), rfl, rfl, qT_of 132 (by decide +kernel) (by decide +kernel), qT_of 133 (by decide +kernel) (by decide +kernel), qT_of 110 (by decide +kernel) (by decide +kernel), fd_7⟩
theorem nw_9_165 : q_Nw 9 165 8 36 [.int 0, .int 0, .int 0, .int 0, .null, .null, .null, .int 0, .null, .int 0, .null, .null, .int 0, .null, .null, .null, .null, .int 0, .int 0, .int 0, .null, .int 0, .int 0, .int 0, .int 0, .int 0, .int 0, .int 0, .int 0, .int 0, .int 0, .int 0, .null, .null, .null, .int 0] := ⟨(RX8, TX8, 36), rfl, rfl, qT_of 1345 (by decide +kernel) (by decide +kernel), qT_of 1346 (by decide +kernel) (by decide +kernel), qT_of 118 (by decide +kernel) (by decide +kernel), fd_8⟩
theorem ml_9_164 : q_Ml 9 164 mX7_init := qT_of 134 (by decide +kernel) (by decide +kernel)
theorem ml_9_167 : q_Ml 9 167 mX8_init := qT_of 1347 (by decide +kernel) (by decide +kernel)

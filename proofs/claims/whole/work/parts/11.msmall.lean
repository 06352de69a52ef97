theorem i32_not_le_of_lt {x y : Int32} (h : x < y) : ¬ y ≤ x := by
  rw [Int32.le_iff_toInt_le]
  rw [Int32.lt_iff_toInt_lt] at h
  omega
/-- finding k (0 to 6) is counted: place 0 for all, place k + 1 for it -/
def mFi (g : Nat → Int32) (k : Nat) : Nat → Int32 := upd (upd g 0 (g 0 + nI 1)) (k + 1) (upd g 0 (g 0 + nI 1) (k + 1) + nI 1)
theorem fin_ix : ∀ k, k < 7 → (-1000001 : Int32) - ((-1000001) - nI k) + nI 1 = nI (k + 1) := by decide +kernel
set_option maxRecDepth 100000 in
set_option maxHeartbeats 4000000 in
theorem c_X4_at (l : Launch) (D : va_G) (cI cJ : ClassId) (a : Nat → Nat) (f : Nat → Int32) (σ : Nat → Nat → Int32) (k : Nat) (w : Nat) : RO l yX4_at cX4_at 2 (some .int) 0 D cI cJ (MW cI a f σ) [.int (nI k), .int (nI w)] (.int (nI (16 + 7 * k + w))) := by
  refine RO.of (by decide) (Nat.le_of_ble_eq_true rfl) (fun p e s m below meth c ls S hr hlk hK hP hl => ?_)
  obtain ⟨hx, hb, hml, hown, hU⟩ := id S
  have hl : lv_has ls 2 [(0, .int (nI k)), (1, .int (nI w))] := hl
  refine lv_bipush (v := nI 16) hx hb dX4_at_0 (by decide) ?_
  refine lv_bipush (v := nI 7) hx hb dX4_at_2 (by decide) ?_
  refine lv_iload_n hx hb dX4_at_4 rfl (lv_at hl 0 rfl) ?_
  refine q_imulN (a := 7) (b := k) hx hb dX4_at_5 ?_
  refine q_iaddN (a := 16) (b := 7 * k) hx hb dX4_at_6 ?_
  refine lv_iload_n hx hb dX4_at_7 rfl (lv_at hl 1 rfl) ?_
  refine q_iaddN (a := 16 + (7 * k)) (b := w) hx hb dX4_at_8 ?_
  exact RO.iret S hr hlk rfl dX4_at_9
set_option maxRecDepth 100000 in
set_option maxHeartbeats 4000000 in
theorem c_X4_its (l : Launch) (D : va_G) (cI cJ : ClassId) (a : Nat → Nat) (f : Nat → Int32) (σ : Nat → Nat → Int32) (k : Nat) (w : Nat) (h : 16 + 7 * k + w < 82) : RO l yX4_its cX4_its 3 (some .int) 0 D cI cJ (MW cI a f σ) [.ref (a 0), .int (nI k), .int (nI w)] (.int (fi f k w)) := by
  refine RO.of (by decide) (Nat.le_of_ble_eq_true rfl) (fun p e s m below meth c ls S hr hlk hK hP hl => ?_)
  obtain ⟨hx, hb, hml, hown, hU⟩ := id S
  have hl : lv_has ls 3 [(0, .ref (a 0)), (1, .int (nI k)), (2, .int (nI w))] := hl
  refine lv_aload_n hx hb dX4_its_0 rfl (lv_at hl 0 rfl) ?_
  refine g4_s S hK hP dX4_its_1 ?_
  refine lv_bipush (v := nI 16) hx hb dX4_its_4 (by decide) ?_
  refine lv_bipush (v := nI 7) hx hb dX4_its_6 (by decide) ?_
  refine lv_iload_n hx hb dX4_its_8 rfl (lv_at hl 1 rfl) ?_
  refine q_imulN (a := 7) (b := k) hx hb dX4_its_9 ?_
  refine q_iaddN (a := 16) (b := 7 * k) hx hb dX4_its_10 ?_
  refine lv_iload_n hx hb dX4_its_11 rfl (lv_at hl 2 rfl) ?_
  refine q_iaddN (a := 16 + (7 * k)) (b := w) hx hb dX4_its_12 ?_
  refine l4_s S hK hP (j := (16 + (7 * k)) + w) (by omega) dX4_its_13 ?_
  exact RO.iret S hr hlk rfl dX4_its_14
set_option maxRecDepth 100000 in
set_option maxHeartbeats 4000000 in
theorem c_X4_least (l : Launch) (D : va_G) (cI cJ : ClassId) (a : Nat → Nat) (f : Nat → Int32) (σ : Nat → Nat → Int32) (x : Int32) (y : Int32) : RO l yX4_least cX4_least 2 (some .int) 0 D cI cJ (MW cI a f σ) [.int x, .int y] (.int (iMin x y)) := by
  refine RO.of (by decide) (Nat.le_of_ble_eq_true rfl) (fun p e s m below meth c ls S hr hlk hK hP hl => ?_)
  obtain ⟨hx, hb, hml, hown, hU⟩ := id S
  have hl : lv_has ls 2 [(0, .int x), (1, .int y)] := hl
  refine lv_iload_n hx hb dX4_least_0 rfl (lv_at hl 0 rfl) ?_
  refine lv_iload_n hx hb dX4_least_1 rfl (lv_at hl 1 rfl) ?_
  refine lv_icmp_ge (tgt := 9) hx hb dX4_least_2 (by decide) (fun c_2 => ?_) (fun c_2 => ?_)
  · refine lv_iload_n hx hb dX4_least_9 rfl (lv_at hl 1 rfl) ?_
    exact RO.iret S hr hlk (congrArg Value.int (iMin_r c_2)) dX4_least_10
  · refine lv_iload_n hx hb dX4_least_5 rfl (lv_at hl 0 rfl) ?_
    refine lv_goto (tgt := 10) hx hb dX4_least_6 (by decide) ?_
    exact RO.iret S hr hlk (congrArg Value.int (iMin_l c_2)) dX4_least_10
set_option maxRecDepth 100000 in
set_option maxHeartbeats 4000000 in
theorem c_X4_greatest (l : Launch) (D : va_G) (cI cJ : ClassId) (a : Nat → Nat) (f : Nat → Int32) (σ : Nat → Nat → Int32) (x : Int32) (y : Int32) : RO l yX4_greatest cX4_greatest 2 (some .int) 0 D cI cJ (MW cI a f σ) [.int x, .int y] (.int (iMax x y)) := by
  refine RO.of (by decide) (Nat.le_of_ble_eq_true rfl) (fun p e s m below meth c ls S hr hlk hK hP hl => ?_)
  obtain ⟨hx, hb, hml, hown, hU⟩ := id S
  have hl : lv_has ls 2 [(0, .int x), (1, .int y)] := hl
  refine lv_iload_n hx hb dX4_greatest_0 rfl (lv_at hl 0 rfl) ?_
  refine lv_iload_n hx hb dX4_greatest_1 rfl (lv_at hl 1 rfl) ?_
  refine lv_icmp_le (tgt := 9) hx hb dX4_greatest_2 (by decide) (fun c_2 => ?_) (fun c_2 => ?_)
  · refine lv_iload_n hx hb dX4_greatest_9 rfl (lv_at hl 1 rfl) ?_
    exact RO.iret S hr hlk (congrArg Value.int (iMax_r c_2)) dX4_greatest_10
  · refine lv_iload_n hx hb dX4_greatest_5 rfl (lv_at hl 0 rfl) ?_
    refine lv_goto (tgt := 10) hx hb dX4_greatest_6 (by decide) ?_
    exact RO.iret S hr hlk (congrArg Value.int (iMax_l c_2)) dX4_greatest_10
set_option maxRecDepth 100000 in
set_option maxHeartbeats 4000000 in
theorem c_X4_isCellar (l : Launch) (D : va_G) (cI cJ : ClassId) (a : Nat → Nat) (f : Nat → Int32) (σ : Nat → Nat → Int32) (x : Int32) : RO l yX4_isCellar cX4_isCellar 1 (some .boolean) 0 D cI cJ (MW cI a f σ) [.int x] (.int (bI (0 ≤ x ∧ x < nI 6))) := by
  refine RO.of (by decide) (Nat.le_of_ble_eq_true rfl) (fun p e s m below meth c ls S hr hlk hK hP hl => ?_)
  obtain ⟨hx, hb, hml, hown, hU⟩ := id S
  have hl : lv_has ls 1 [(0, .int x)] := hl
  refine lv_iload_n hx hb dX4_isCellar_0 rfl (lv_at hl 0 rfl) ?_
  refine lv_if_lt (tgt := 14) hx hb dX4_isCellar_1 (by decide) (fun c_1 => ?_) (fun c_1 => ?_)
  · refine lv_iconst (v := nI 0) hx hb dX4_isCellar_14 (by decide) ?_
    exact RO.zret S hr hlk (bI_f (fun q => absurd q.1 (i32_not_le_of_lt c_1))) dX4_isCellar_15
  · refine lv_iload_n hx hb dX4_isCellar_4 rfl (lv_at hl 0 rfl) ?_
    refine lv_bipush (v := nI 6) hx hb dX4_isCellar_5 (by decide) ?_
    refine lv_icmp_ge (tgt := 14) hx hb dX4_isCellar_7 (by decide) (fun c_7 => ?_) (fun c_7 => ?_)
    · refine lv_iconst (v := nI 0) hx hb dX4_isCellar_14 (by decide) ?_
      exact RO.zret S hr hlk (bI_f (fun q => absurd q.2 (i32_not_lt_of_le c_7))) dX4_isCellar_15
    · refine lv_iconst (v := nI 1) hx hb dX4_isCellar_10 (by decide) ?_
      refine lv_goto (tgt := 15) hx hb dX4_isCellar_11 (by decide) ?_
      exact RO.zret S hr hlk (bI_t (⟨i32_le_of_not_lt c_1, i32_lt_of_not_le c_7⟩)) dX4_isCellar_15
set_option maxRecDepth 100000 in
set_option maxHeartbeats 4000000 in
theorem c_X4_isSheet (l : Launch) (D : va_G) (cI cJ : ClassId) (a : Nat → Nat) (f : Nat → Int32) (σ : Nat → Nat → Int32) (x : Int32) : RO l yX4_isSheet cX4_isSheet 1 (some .boolean) 0 D cI cJ (MW cI a f σ) [.int x] (.int (bI (0 ≤ x ∧ x < nI 4))) := by
  refine RO.of (by decide) (Nat.le_of_ble_eq_true rfl) (fun p e s m below meth c ls S hr hlk hK hP hl => ?_)
  obtain ⟨hx, hb, hml, hown, hU⟩ := id S
  have hl : lv_has ls 1 [(0, .int x)] := hl
  refine lv_iload_n hx hb dX4_isSheet_0 rfl (lv_at hl 0 rfl) ?_
  refine lv_if_lt (tgt := 13) hx hb dX4_isSheet_1 (by decide) (fun c_1 => ?_) (fun c_1 => ?_)
  · refine lv_iconst (v := nI 0) hx hb dX4_isSheet_13 (by decide) ?_
    exact RO.zret S hr hlk (bI_f (fun q => absurd q.1 (i32_not_le_of_lt c_1))) dX4_isSheet_14
  · refine lv_iload_n hx hb dX4_isSheet_4 rfl (lv_at hl 0 rfl) ?_
    refine lv_iconst (v := nI 4) hx hb dX4_isSheet_5 (by decide) ?_
    refine lv_icmp_ge (tgt := 13) hx hb dX4_isSheet_6 (by decide) (fun c_6 => ?_) (fun c_6 => ?_)
    · refine lv_iconst (v := nI 0) hx hb dX4_isSheet_13 (by decide) ?_
      exact RO.zret S hr hlk (bI_f (fun q => absurd q.2 (i32_not_lt_of_le c_6))) dX4_isSheet_14
    · refine lv_iconst (v := nI 1) hx hb dX4_isSheet_9 (by decide) ?_
      refine lv_goto (tgt := 14) hx hb dX4_isSheet_10 (by decide) ?_
      exact RO.zret S hr hlk (bI_t (⟨i32_le_of_not_lt c_1, i32_lt_of_not_le c_6⟩)) dX4_isSheet_14
set_option maxRecDepth 100000 in
set_option maxHeartbeats 4000000 in
theorem c_X4_isLetter (l : Launch) (D : va_G) (cI cJ : ClassId) (a : Nat → Nat) (f : Nat → Int32) (σ : Nat → Nat → Int32) (x : Int32) : RO l yX4_isLetter cX4_isLetter 1 (some .boolean) 0 D cI cJ (MW cI a f σ) [.int x] (.int (bI (nI 97 ≤ x ∧ x ≤ nI 122))) := by
  refine RO.of (by decide) (Nat.le_of_ble_eq_true rfl) (fun p e s m below meth c ls S hr hlk hK hP hl => ?_)
  obtain ⟨hx, hb, hml, hown, hU⟩ := id S
  have hl : lv_has ls 1 [(0, .int x)] := hl
  refine lv_iload_n hx hb dX4_isLetter_0 rfl (lv_at hl 0 rfl) ?_
  refine lv_bipush (v := nI 97) hx hb dX4_isLetter_1 (by decide) ?_
  refine lv_icmp_lt (tgt := 16) hx hb dX4_isLetter_3 (by decide) (fun c_3 => ?_) (fun c_3 => ?_)
  · refine lv_iconst (v := nI 0) hx hb dX4_isLetter_16 (by decide) ?_
    exact RO.zret S hr hlk (bI_f (fun q => absurd q.1 (i32_not_le_of_lt c_3))) dX4_isLetter_17
  · refine lv_iload_n hx hb dX4_isLetter_6 rfl (lv_at hl 0 rfl) ?_
    refine lv_bipush (v := nI 122) hx hb dX4_isLetter_7 (by decide) ?_
    refine lv_icmp_gt (tgt := 16) hx hb dX4_isLetter_9 (by decide) (fun c_9 => ?_) (fun c_9 => ?_)
    · refine lv_iconst (v := nI 0) hx hb dX4_isLetter_16 (by decide) ?_
      exact RO.zret S hr hlk (bI_f (fun q => absurd q.2 (i32_not_le_of_lt c_9))) dX4_isLetter_17
    · refine lv_iconst (v := nI 1) hx hb dX4_isLetter_12 (by decide) ?_
      refine lv_goto (tgt := 17) hx hb dX4_isLetter_13 (by decide) ?_
      exact RO.zret S hr hlk (bI_t (⟨i32_le_of_not_lt c_3, i32_le_of_not_lt c_9⟩)) dX4_isLetter_17
set_option maxRecDepth 100000 in
set_option maxHeartbeats 4000000 in
theorem c_X4_isDigit (l : Launch) (D : va_G) (cI cJ : ClassId) (a : Nat → Nat) (f : Nat → Int32) (σ : Nat → Nat → Int32) (x : Int32) : RO l yX4_isDigit cX4_isDigit 1 (some .boolean) 0 D cI cJ (MW cI a f σ) [.int x] (.int (bI (nI 48 ≤ x ∧ x ≤ nI 57))) := by
  refine RO.of (by decide) (Nat.le_of_ble_eq_true rfl) (fun p e s m below meth c ls S hr hlk hK hP hl => ?_)
  obtain ⟨hx, hb, hml, hown, hU⟩ := id S
  have hl : lv_has ls 1 [(0, .int x)] := hl
  refine lv_iload_n hx hb dX4_isDigit_0 rfl (lv_at hl 0 rfl) ?_
  refine lv_bipush (v := nI 48) hx hb dX4_isDigit_1 (by decide) ?_
  refine lv_icmp_lt (tgt := 16) hx hb dX4_isDigit_3 (by decide) (fun c_3 => ?_) (fun c_3 => ?_)
  · refine lv_iconst (v := nI 0) hx hb dX4_isDigit_16 (by decide) ?_
    exact RO.zret S hr hlk (bI_f (fun q => absurd q.1 (i32_not_le_of_lt c_3))) dX4_isDigit_17
  · refine lv_iload_n hx hb dX4_isDigit_6 rfl (lv_at hl 0 rfl) ?_
    refine lv_bipush (v := nI 57) hx hb dX4_isDigit_7 (by decide) ?_
    refine lv_icmp_gt (tgt := 16) hx hb dX4_isDigit_9 (by decide) (fun c_9 => ?_) (fun c_9 => ?_)
    · refine lv_iconst (v := nI 0) hx hb dX4_isDigit_16 (by decide) ?_
      exact RO.zret S hr hlk (bI_f (fun q => absurd q.2 (i32_not_le_of_lt c_9))) dX4_isDigit_17
    · refine lv_iconst (v := nI 1) hx hb dX4_isDigit_12 (by decide) ?_
      refine lv_goto (tgt := 17) hx hb dX4_isDigit_13 (by decide) ?_
      exact RO.zret S hr hlk (bI_t (⟨i32_le_of_not_lt c_3, i32_le_of_not_lt c_9⟩)) dX4_isDigit_17
set_option maxRecDepth 100000 in
set_option maxHeartbeats 4000000 in
theorem c_X4_isCask (l : Launch) (D : va_G) (cI cJ : ClassId) (a : Nat → Nat) (f : Nat → Int32) (σ : Nat → Nat → Int32) (x : Int32) (n : Nat) (hn : f 0 = nI n) : RO l yX4_isCask cX4_isCask 2 (some .boolean) 0 D cI cJ (MW cI a f σ) [.ref (a 0), .int x] (.int (bI (0 ≤ x ∧ x < nI n))) := by
  refine RO.of (by decide) (Nat.le_of_ble_eq_true rfl) (fun p e s m below meth c ls S hr hlk hK hP hl => ?_)
  obtain ⟨hx, hb, hml, hown, hU⟩ := id S
  have hl : lv_has ls 2 [(0, .ref (a 0)), (1, .int x)] := hl
  refine lv_iload_n hx hb dX4_isCask_0 rfl (lv_at hl 1 rfl) ?_
  refine lv_if_lt (tgt := 18) hx hb dX4_isCask_1 (by decide) (fun c_1 => ?_) (fun c_1 => ?_)
  · refine lv_iconst (v := nI 0) hx hb dX4_isCask_18 (by decide) ?_
    exact RO.zret S hr hlk (bI_f (fun q => absurd q.1 (i32_not_le_of_lt c_1))) dX4_isCask_19
  · refine lv_iload_n hx hb dX4_isCask_4 rfl (lv_at hl 1 rfl) ?_
    refine lv_aload_n hx hb dX4_isCask_5 rfl (lv_at hl 0 rfl) ?_
    refine g4_s S hK hP dX4_isCask_6 ?_
    refine lv_iconst (v := nI 0) hx hb dX4_isCask_9 (by decide) ?_
    refine l4_s S hK hP (j := 0) (by omega) dX4_isCask_10 ?_
    refine q_eqi (y := nI n) (hn) ?_
    refine lv_icmp_ge (tgt := 18) hx hb dX4_isCask_11 (by decide) (fun c_11 => ?_) (fun c_11 => ?_)
    · refine lv_iconst (v := nI 0) hx hb dX4_isCask_18 (by decide) ?_
      exact RO.zret S hr hlk (bI_f (fun q => absurd q.2 (i32_not_lt_of_le c_11))) dX4_isCask_19
    · refine lv_iconst (v := nI 1) hx hb dX4_isCask_14 (by decide) ?_
      refine lv_goto (tgt := 19) hx hb dX4_isCask_15 (by decide) ?_
      exact RO.zret S hr hlk (bI_t (⟨i32_le_of_not_lt c_1, i32_lt_of_not_le c_11⟩)) dX4_isCask_19
set_option maxRecDepth 100000 in
set_option maxHeartbeats 4000000 in
theorem c_X4_isIn (l : Launch) (D : va_G) (cI cJ : ClassId) (a : Nat → Nat) (f : Nat → Int32) (σ : Nat → Nat → Int32) (x : Int32) (y : Int32) (z : Int32) : RO l yX4_isIn cX4_isIn 6 (some .boolean) 0 D cI cJ (MW cI a f σ) [.long x.toInt64, .long y.toInt64, .long z.toInt64] (.int (bI (y ≤ x ∧ x ≤ z))) := by
  refine RO.of (by decide) (Nat.le_of_ble_eq_true rfl) (fun p e s m below meth c ls S hr hlk hK hP hl => ?_)
  obtain ⟨hx, hb, hml, hown, hU⟩ := id S
  have hl : lv_has ls 6 [(0, .long x.toInt64), (2, .long y.toInt64), (4, .long z.toInt64)] := hl
  refine lv_lload_n hx hb dX4_isIn_0 rfl (lv_at hl 0 rfl) ?_
  refine lv_lload_n hx hb dX4_isIn_1 rfl (lv_at hl 1 rfl) ?_
  refine W.lcmp hx hb dX4_isIn_2 ?_
  refine lv_if_lt (tgt := 17) hx hb dX4_isIn_3 (by decide) (fun c_3 => ?_) (fun c_3 => ?_)
  · refine lv_iconst (v := nI 0) hx hb dX4_isIn_17 (by decide) ?_
    exact RO.zret S hr hlk (bI_f (fun q => absurd (toInt64_lt.mp ((lg_cmp_lt _ _).mp c_3)) (i32_not_lt_of_le q.1))) dX4_isIn_18
  · refine lv_lload_n hx hb dX4_isIn_6 rfl (lv_at hl 0 rfl) ?_
    refine lv_lload hx hb dX4_isIn_7 (lv_at hl 2 rfl) ?_
    refine W.lcmp hx hb dX4_isIn_9 ?_
    refine lv_if_gt (tgt := 17) hx hb dX4_isIn_10 (by decide) (fun c_10 => ?_) (fun c_10 => ?_)
    · refine lv_iconst (v := nI 0) hx hb dX4_isIn_17 (by decide) ?_
      exact RO.zret S hr hlk (bI_f (fun q => absurd (toInt64_lt.mp ((lg_cmp_gt _ _).mp c_10)) (i32_not_lt_of_le q.2))) dX4_isIn_18
    · refine lv_iconst (v := nI 1) hx hb dX4_isIn_13 (by decide) ?_
      refine lv_goto (tgt := 18) hx hb dX4_isIn_14 (by decide) ?_
      exact RO.zret S hr hlk (bI_t (⟨i32_le_of_not_lt (fun q => c_3 ((lg_cmp_lt _ _).mpr (toInt64_lt.mpr q))), i32_le_of_not_lt (fun q => c_10 ((lg_cmp_gt _ _).mpr (toInt64_lt.mpr q)))⟩)) dX4_isIn_18
set_option maxRecDepth 100000 in
set_option maxHeartbeats 4000000 in
theorem c_X4_many (l : Launch) (D : va_G) (cI cJ : ClassId) (a : Nat → Nat) (f : Nat → Int32) (σ : Nat → Nat → Int32) (q : Nat) (h : q < 256) : RO l yX4_many cX4_many 3 (some .int) 0 D cI cJ (MW cI a f σ) [.int (nI q)] (.int (nI (popc q))) := by
  refine RO.of (by decide) (Nat.le_of_ble_eq_true rfl) (fun p e s m below meth c ls S hr hlk hK hP hl => ?_)
  obtain ⟨hx, hb, hml, hown, hU⟩ := id S
  have hl : lv_has ls 3 [(0, .int (nI q))] := hl
  refine lv_iconst (v := nI 0) hx hb dX4_many_0 (by decide) ?_
  refine lv_istore_n (lv' := [(1, .int (nI 0)), (0, .int (nI q))]) hx hb dX4_many_1 rfl hl (by decide) rfl (fun ls hl => ?_)
  refine lv_iload_n hx hb dX4_many_2 rfl (lv_at hl 1 rfl) ?_
  refine lv_istore_n (lv' := [(2, .int (nI q)), (1, .int (nI 0)), (0, .int (nI q))]) hx hb dX4_many_3 rfl hl (by decide) rfl (fun ls hl => ?_)
  have L_4 : ∀ (n9 : Nat) (t : Nat) (r : Nat) (ls : Array Slot), t < n9 → t < 256 → popc t + r = popc q → lv_has ls 3 [(0, .int (nI q)), (1, .int (nI r)), (2, .int (nI t))] → W p l e (rmd 0) s m ([.int (nI q)] : List Value).toArray below meth c s.heap [] 0 0 (ZR below ([.int (nI q)] : List Value).toArray s (.int (nI (popc q)))) (F0 m 4 ls []) := by
    intro n9
    induction n9 with
    | zero => intro t r ls hm; exact absurd hm (Nat.not_lt_zero _)
    | succ n9 ih_4 =>
      intro t r ls hm ht hr2 hl
      refine lv_iload_n hx hb dX4_many_4 rfl (lv_at hl 2 rfl) ?_
      refine q_if_eqN (tgt := 20) (a := t) hx hb dX4_many_5 (by decide) (by omega) (fun c_5 => ?_) (fun c_5 => ?_)
      · refine lv_iload_n hx hb dX4_many_20 rfl (lv_at hl 1 rfl) ?_
        exact RO.iret S hr hlk (congrArg Value.int (by rw [show r = popc q by subst c_5; exact (Nat.zero_add r).symm.trans hr2])) dX4_many_21
      · refine lv_iinc (v := nI (r + 1)) (lv' := [(1, .int (nI (r + 1))), (0, .int (nI q)), (2, .int (nI t))]) hx hb dX4_many_8 hl (k := 1) rfl (q_inc _) (by decide) rfl (fun ls hl => ?_)
        refine lv_iload_n hx hb dX4_many_11 rfl (lv_at hl 2 rfl) ?_
        refine lv_iload_n hx hb dX4_many_12 rfl (lv_at hl 2 rfl) ?_
        refine lv_iconst (v := nI 1) hx hb dX4_many_13 (by decide) ?_
        refine q_isubN (a := t) (b := 1) hx hb dX4_many_14 (by omega) ?_
        refine lv_iand hx hb dX4_many_15 ?_
        refine q_eqi (y := nI (t &&& (t - 1))) (nI_and (by omega) (by omega)) ?_
        refine lv_istore_n (lv' := [(2, .int (nI (t &&& (t - 1)))), (1, .int (nI (r + 1))), (0, .int (nI q))]) hx hb dX4_many_16 rfl hl (by decide) rfl (fun ls hl => ?_)
        refine lv_goto (tgt := 4) hx hb dX4_many_17 (by decide) ?_
        exact ih_4 (t &&& (t - 1)) (r + 1) ls (by have := (popc_step t ht (by omega)).2; omega) (by have := (popc_step t ht (by omega)).2; omega) (by have := (popc_step t ht (by omega)).1; omega) (lv_sub hl [2, 1, 0] rfl)
  exact L_4 (q + 1) q 0 ls (Nat.lt_succ_self _) (h) (rfl) (lv_sub hl [2, 1, 0] rfl)
set_option maxRecDepth 100000 in
set_option maxHeartbeats 4000000 in
theorem c_X4_finds (l : Launch) (D : va_G) (cI cJ : ClassId) (a : Nat → Nat) (f : Nat → Int32) (σ : Nat → Nat → Int32) (k : Nat) (h : k < 7) : WR l yX4_finds cX4_finds 2 (some .int) 0 D cI cJ (MW cI a f σ) [.ref (a 0), .int ((-1000001) - nI k)] (some (.int ((-1000001) - nI k))) (MW cI a f (va_up σ 4 (mFi (σ 4) k))) := by
  refine WR.of (by decide) (Nat.le_of_ble_eq_true rfl) (fun p e s m below meth c ls A S hr hlk hK hP hD hS hA hl => ?_)
  obtain ⟨hx, hb, hml, hown, hU⟩ := id S
  have hl : lv_has ls 2 [(0, .ref (a 0)), (1, .int ((-1000001) - nI k))] := hl
  refine lv_aload_n hx hb dX4_finds_0 rfl (lv_at hl 0 rfl) ?_
  refine g4_findings S hK hP dX4_finds_1 ?_
  refine lv_iconst (v := nI 0) hx hb dX4_finds_4 (by decide) ?_
  refine lv_dup2_11 hx hb dX4_finds_5 rfl rfl ?_
  refine l4_findings S hK hP (j := 0) (by omega) dX4_finds_6 ?_
  refine lv_iconst (v := nI 1) hx hb dX4_finds_7 (by decide) ?_
  refine lv_iadd hx hb dX4_finds_8 ?_
  refine s4_findings S hK hP hD hS (j := 0) (by omega) dX4_finds_9 (fun H locs hP hD hS => ?_)
  refine lv_aload_n hx hb dX4_finds_10 rfl (lv_at hl 0 rfl) ?_
  refine g4_findings S hK hP dX4_finds_11 ?_
  refine lv_ldc (v := (-1000001)) hx hb hown (hU _ mK_X4_37) dX4_finds_14 ?_
  refine lv_iload_n hx hb dX4_finds_16 rfl (lv_at hl 1 rfl) ?_
  refine lv_isub hx hb dX4_finds_17 ?_
  refine lv_iconst (v := nI 1) hx hb dX4_finds_18 (by decide) ?_
  refine lv_iadd hx hb dX4_finds_19 ?_
  refine q_eqi (y := nI (k + 1)) (show (-1000001 : Int32) - ((-1000001) - nI k) + nI 1 = nI (k + 1) from fin_ix k h) ?_
  refine lv_dup2_11 hx hb dX4_finds_20 rfl rfl ?_
  refine l4_findings S hK hP (j := k + 1) (by omega) dX4_finds_21 ?_
  refine lv_iconst (v := nI 1) hx hb dX4_finds_22 (by decide) ?_
  refine lv_iadd hx hb dX4_finds_23 ?_
  refine s4_findings S hK hP hD hS (j := k + 1) (by omega) dX4_finds_24 (fun H locs hP hD hS => ?_)
  refine lv_iload_n hx hb dX4_finds_25 rfl (lv_at hl 1 rfl) ?_
  exact WR.iret S hr hlk hP hS (rfl) rfl dX4_finds_26
set_option maxRecDepth 100000 in
set_option maxHeartbeats 4000000 in
theorem c_X4_becomes (l : Launch) (D : va_G) (cI cJ : ClassId) (a : Nat → Nat) (f : Nat → Int32) (σ : Nat → Nat → Int32) (j : Nat) (v : Int32) (h : j < 82) : WR l yX4_becomes cX4_becomes 4 (some .int) 0 D cI cJ (MW cI a f σ) [.ref (a 0), .int (nI j), .int v] (some (.int (f j))) (MW cI a (upd f j v) σ) := by
  refine WR.of (by decide) (Nat.le_of_ble_eq_true rfl) (fun p e s m below meth c ls A S hr hlk hK hP hD hS hA hl => ?_)
  obtain ⟨hx, hb, hml, hown, hU⟩ := id S
  have hl : lv_has ls 4 [(0, .ref (a 0)), (1, .int (nI j)), (2, .int v)] := hl
  refine lv_aload_n hx hb dX4_becomes_0 rfl (lv_at hl 0 rfl) ?_
  refine g4_s S hK hP dX4_becomes_1 ?_
  refine lv_iload_n hx hb dX4_becomes_4 rfl (lv_at hl 1 rfl) ?_
  refine l4_s S hK hP (j := j) (by omega) dX4_becomes_5 ?_
  refine lv_istore_n (lv' := [(3, .int (f j)), (0, .ref (a 0)), (1, .int (nI j)), (2, .int v)]) hx hb dX4_becomes_6 rfl hl (by decide) rfl (fun ls hl => ?_)
  refine lv_aload_n hx hb dX4_becomes_7 rfl (lv_at hl 1 rfl) ?_
  refine g4_s S hK hP dX4_becomes_8 ?_
  refine lv_iload_n hx hb dX4_becomes_11 rfl (lv_at hl 2 rfl) ?_
  refine lv_iload_n hx hb dX4_becomes_12 rfl (lv_at hl 3 rfl) ?_
  refine s4_s S hK hP hD hS (j := j) (by omega) dX4_becomes_13 (fun H locs hP hD hS => ?_)
  refine lv_iload_n hx hb dX4_becomes_14 rfl (lv_at hl 0 rfl) ?_
  exact WR.iret S hr hlk hP hS (rfl) rfl dX4_becomes_15

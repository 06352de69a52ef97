set_option maxRecDepth 100000 in
set_option maxHeartbeats 4000000 in
theorem c_X4_isWord (l : Launch) (D : va_G) (cI cJ : ClassId) (a : Nat → Nat) (f : Nat → Int32) (σ : Nat → Nat → Int32) (L : Nat) (S9 : Nat) (hL : σ 9 1 = nI L) (hL120 : L ≤ 120) (hS9 : S9 ≤ L) (q : Nat) (hq : q ≤ 120) : RO l yX4_isWord cX4_isWord 2 (some .boolean) 0 D cI cJ (MW cI a f (TS σ L S9)) [.ref (a 0), .int (nI q)] (.int (bI (tK (σ 5) L S9 = 1 ∧ tE (σ 5) L S9 = S9 + q))) := by
  have hte := tE_le (b := σ 5) (L := L) (s := S9) hS9
  have htv := tV_lt (b := σ 5) (L := L) (s := S9)
  have htk := tK_lt (b := σ 5) (L := L) (s := S9)
  refine RO.of (by decide) (Nat.le_of_ble_eq_true rfl) (fun p e s m below meth c ls S hr hlk hK hP hl => ?_)
  obtain ⟨hx, hb, hml, hown, hU⟩ := id S
  have hl : lv_has ls 2 [(0, .ref (a 0)), (1, .int (nI q))] := hl
  refine lv_aload_n hx hb dX4_isWord_0 rfl (lv_at hl 0 rfl) ?_
  refine g4_token S hK hP dX4_isWord_1 ?_
  refine lv_iconst (v := nI 1) hx hb dX4_isWord_4 (by decide) ?_
  refine q_icmp_neN (tgt := 25) (a := tK (σ 5) L S9) (b := 1) hx hb dX4_isWord_5 (by decide) (by omega) (by omega) (fun c_5 => ?_) (fun c_5 => ?_)
  · refine lv_iconst (v := nI 0) hx hb dX4_isWord_25 (by decide) ?_
    exact RO.zret S hr hlk (bI_f (fun q5 => c_5 q5.1)) dX4_isWord_26
  · refine lv_aload_n hx hb dX4_isWord_8 rfl (lv_at hl 0 rfl) ?_
    refine g4_to S hK hP dX4_isWord_9 ?_
    refine lv_aload_n hx hb dX4_isWord_12 rfl (lv_at hl 0 rfl) ?_
    refine g4_from S hK hP dX4_isWord_13 ?_
    refine q_isubN (a := tE (σ 5) L S9) (b := S9) hx hb dX4_isWord_16 (by omega) ?_
    refine lv_iload_n hx hb dX4_isWord_17 rfl (lv_at hl 1 rfl) ?_
    refine q_icmp_neN (tgt := 25) (a := (tE (σ 5) L S9) - S9) (b := q) hx hb dX4_isWord_18 (by decide) (by omega) (by omega) (fun c_18 => ?_) (fun c_18 => ?_)
    · refine lv_iconst (v := nI 0) hx hb dX4_isWord_25 (by decide) ?_
      exact RO.zret S hr hlk (bI_f (fun q5 => c_18 (by omega))) dX4_isWord_26
    · refine lv_iconst (v := nI 1) hx hb dX4_isWord_21 (by decide) ?_
      refine lv_goto (tgt := 26) hx hb dX4_isWord_22 (by decide) ?_
      exact RO.zret S hr hlk (bI_t (⟨c_5, by omega⟩)) dX4_isWord_26
set_option maxRecDepth 100000 in
set_option maxHeartbeats 4000000 in
theorem c_X4_has3 (l : Launch) (D : va_G) (cI cJ : ClassId) (a : Nat → Nat) (f : Nat → Int32) (σ : Nat → Nat → Int32) (L : Nat) (S9 : Nat) (hL : σ 9 1 = nI L) (hL120 : L ≤ 120) (hS9 : S9 ≤ L) (q : Nat) (c0 : Nat) (c1 : Nat) (c2 : Nat) (hq : S9 + q + 2 < L) : RO l yX4_has3 cX4_has3 5 (some .boolean) 1 D cI cJ (MW cI a f (TS σ L S9)) [.ref (a 0), .int (nI q), .int (nI c0), .int (nI c1), .int (nI c2)] (.int (bI (σ 5 (S9 + q) = nI c0 ∧ σ 5 (S9 + q + 1) = nI c1 ∧ σ 5 (S9 + q + 2) = nI c2))) := by
  have hte := tE_le (b := σ 5) (L := L) (s := S9) hS9
  have htv := tV_lt (b := σ 5) (L := L) (s := S9)
  have htk := tK_lt (b := σ 5) (L := L) (s := S9)
  refine RO.of (by decide) (Nat.le_of_ble_eq_true rfl) (fun p e s m below meth c ls S hr hlk hK hP hl => ?_)
  obtain ⟨hx, hb, hml, hown, hU⟩ := id S
  have hl : lv_has ls 5 [(0, .ref (a 0)), (1, .int (nI q)), (2, .int (nI c0)), (3, .int (nI c1)), (4, .int (nI c2))] := hl
  refine lv_aload_n hx hb dX4_has3_0 rfl (lv_at hl 0 rfl) ?_
  refine lv_aload_n hx hb dX4_has3_1 rfl (lv_at hl 0 rfl) ?_
  refine g4_from S hK hP dX4_has3_2 ?_
  refine lv_iload_n hx hb dX4_has3_5 rfl (lv_at hl 1 rfl) ?_
  refine q_iaddN (a := S9) (b := q) hx hb dX4_has3_6 ?_
  refine RO.callV S kv_X4_216 (c_X4_byteAt_in l D cI cJ a f (TS σ L S9) (S9 + q) L hL hL120 (by omega)) hK hP rfl ⟨Nat.le_of_ble_eq_true rfl, Nat.le_of_ble_eq_true rfl⟩ hl.1 rfl rfl (Nat.le_of_ble_eq_true rfl) (Nat.zero_le _) (Nat.zero_le _) dX4_has3_7 ?_
  refine q_eqi (y := σ 5 (S9 + q)) rfl ?_
  refine lv_iload_n hx hb dX4_has3_10 rfl (lv_at hl 2 rfl) ?_
  refine lv_icmp_ne (tgt := 51) hx hb dX4_has3_11 (by decide) (fun c_11 => ?_) (fun c_11 => ?_)
  · refine lv_iconst (v := nI 0) hx hb dX4_has3_51 (by decide) ?_
    exact RO.zret S hr hlk (bI_f (fun q5 => c_11 q5.1)) dX4_has3_52
  · refine lv_aload_n hx hb dX4_has3_14 rfl (lv_at hl 0 rfl) ?_
    refine lv_aload_n hx hb dX4_has3_15 rfl (lv_at hl 0 rfl) ?_
    refine g4_from S hK hP dX4_has3_16 ?_
    refine lv_iload_n hx hb dX4_has3_19 rfl (lv_at hl 1 rfl) ?_
    refine q_iaddN (a := S9) (b := q) hx hb dX4_has3_20 ?_
    refine lv_iconst (v := nI 1) hx hb dX4_has3_21 (by decide) ?_
    refine q_iaddN (a := S9 + q) (b := 1) hx hb dX4_has3_22 ?_
    refine RO.callV S kv_X4_216 (c_X4_byteAt_in l D cI cJ a f (TS σ L S9) ((S9 + q) + 1) L hL hL120 (by omega)) hK hP rfl ⟨Nat.le_of_ble_eq_true rfl, Nat.le_of_ble_eq_true rfl⟩ hl.1 rfl rfl (Nat.le_of_ble_eq_true rfl) (Nat.zero_le _) (Nat.zero_le _) dX4_has3_23 ?_
    refine q_eqi (y := σ 5 ((S9 + q) + 1)) rfl ?_
    refine lv_iload_n hx hb dX4_has3_26 rfl (lv_at hl 3 rfl) ?_
    refine lv_icmp_ne (tgt := 51) hx hb dX4_has3_27 (by decide) (fun c_27 => ?_) (fun c_27 => ?_)
    · refine lv_iconst (v := nI 0) hx hb dX4_has3_51 (by decide) ?_
      exact RO.zret S hr hlk (bI_f (fun q5 => c_27 q5.2.1)) dX4_has3_52
    · refine lv_aload_n hx hb dX4_has3_30 rfl (lv_at hl 0 rfl) ?_
      refine lv_aload_n hx hb dX4_has3_31 rfl (lv_at hl 0 rfl) ?_
      refine g4_from S hK hP dX4_has3_32 ?_
      refine lv_iload_n hx hb dX4_has3_35 rfl (lv_at hl 1 rfl) ?_
      refine q_iaddN (a := S9) (b := q) hx hb dX4_has3_36 ?_
      refine lv_iconst (v := nI 2) hx hb dX4_has3_37 (by decide) ?_
      refine q_iaddN (a := S9 + q) (b := 2) hx hb dX4_has3_38 ?_
      refine RO.callV S kv_X4_216 (c_X4_byteAt_in l D cI cJ a f (TS σ L S9) ((S9 + q) + 2) L hL hL120 (by omega)) hK hP rfl ⟨Nat.le_of_ble_eq_true rfl, Nat.le_of_ble_eq_true rfl⟩ hl.1 rfl rfl (Nat.le_of_ble_eq_true rfl) (Nat.zero_le _) (Nat.zero_le _) dX4_has3_39 ?_
      refine q_eqi (y := σ 5 ((S9 + q) + 2)) rfl ?_
      refine lv_iload hx hb dX4_has3_42 (lv_at hl 4 rfl) ?_
      refine lv_icmp_ne (tgt := 51) hx hb dX4_has3_44 (by decide) (fun c_44 => ?_) (fun c_44 => ?_)
      · refine lv_iconst (v := nI 0) hx hb dX4_has3_51 (by decide) ?_
        exact RO.zret S hr hlk (bI_f (fun q5 => c_44 q5.2.2)) dX4_has3_52
      · refine lv_iconst (v := nI 1) hx hb dX4_has3_47 (by decide) ?_
        refine lv_goto (tgt := 52) hx hb dX4_has3_48 (by decide) ?_
        exact RO.zret S hr hlk (bI_t (⟨c_11, c_27, c_44⟩)) dX4_has3_52
set_option maxRecDepth 100000 in
set_option maxHeartbeats 4000000 in
theorem c_X4_isFour (l : Launch) (D : va_G) (cI cJ : ClassId) (a : Nat → Nat) (f : Nat → Int32) (σ : Nat → Nat → Int32) (L : Nat) (S9 : Nat) (hL : σ 9 1 = nI L) (hL120 : L ≤ 120) (hS9 : S9 ≤ L) (c0 : Nat) (c1 : Nat) (c2 : Nat) (c3 : Nat) : RO l yX4_isFour cX4_isFour 5 (some .boolean) 2 D cI cJ (MW cI a f (TS σ L S9)) [.ref (a 0), .int (nI c0), .int (nI c1), .int (nI c2), .int (nI c3)] (.int (bI (wd (σ 5) L S9 [c0, c1, c2, c3] = true))) := by
  have hte := tE_le (b := σ 5) (L := L) (s := S9) hS9
  have htv := tV_lt (b := σ 5) (L := L) (s := S9)
  have htk := tK_lt (b := σ 5) (L := L) (s := S9)
  refine RO.of (by decide) (Nat.le_of_ble_eq_true rfl) (fun p e s m below meth c ls S hr hlk hK hP hl => ?_)
  obtain ⟨hx, hb, hml, hown, hU⟩ := id S
  have hl : lv_has ls 5 [(0, .ref (a 0)), (1, .int (nI c0)), (2, .int (nI c1)), (3, .int (nI c2)), (4, .int (nI c3))] := hl
  refine lv_aload_n hx hb dX4_isFour_0 rfl (lv_at hl 0 rfl) ?_
  refine lv_iconst (v := nI 4) hx hb dX4_isFour_1 (by decide) ?_
  refine RO.callV S kv_X4_234 (c_X4_isWord l D cI cJ a f σ L S9 hL hL120 (hS9) 4 (by omega)) hK hP rfl ⟨Nat.le_of_ble_eq_true rfl, Nat.le_of_ble_eq_true rfl⟩ hl.1 rfl rfl (Nat.le_of_ble_eq_true rfl) (Nat.zero_le _) (Nat.zero_le _) dX4_isFour_2 ?_
  refine q_if_eqB (tgt := 35) hx hb dX4_isFour_5 (by decide) (fun c_5 => ?_) (fun c_5 => ?_)
  · refine lv_iconst (v := nI 0) hx hb dX4_isFour_35 (by decide) ?_
    exact RO.zret S hr hlk (bI_f (fun q5 => c_5 ⟨(wd4_iff.mp q5).1, (wd4_iff.mp q5).2.1⟩)) dX4_isFour_36
  · refine lv_aload_n hx hb dX4_isFour_8 rfl (lv_at hl 0 rfl) ?_
    refine lv_iconst (v := nI 0) hx hb dX4_isFour_9 (by decide) ?_
    refine lv_iload_n hx hb dX4_isFour_10 rfl (lv_at hl 1 rfl) ?_
    refine lv_iload_n hx hb dX4_isFour_11 rfl (lv_at hl 2 rfl) ?_
    refine lv_iload_n hx hb dX4_isFour_12 rfl (lv_at hl 3 rfl) ?_
    refine RO.callV S kv_X4_237 (c_X4_has3 l D cI cJ a f σ L S9 hL hL120 (hS9) 0 c0 c1 c2 (by omega)) hK hP rfl ⟨Nat.le_of_ble_eq_true rfl, Nat.le_of_ble_eq_true rfl⟩ hl.1 rfl rfl (Nat.le_of_ble_eq_true rfl) (Nat.zero_le _) (Nat.zero_le _) dX4_isFour_13 ?_
    refine q_if_eqB (tgt := 35) hx hb dX4_isFour_16 (by decide) (fun c_16 => ?_) (fun c_16 => ?_)
    · refine lv_iconst (v := nI 0) hx hb dX4_isFour_35 (by decide) ?_
      exact RO.zret S hr hlk (bI_f (fun q5 => c_16 ⟨(wd4_iff.mp q5).2.2.1, (wd4_iff.mp q5).2.2.2.1, (wd4_iff.mp q5).2.2.2.2.1⟩)) dX4_isFour_36
    · refine lv_aload_n hx hb dX4_isFour_19 rfl (lv_at hl 0 rfl) ?_
      refine lv_iconst (v := nI 1) hx hb dX4_isFour_20 (by decide) ?_
      refine lv_iload_n hx hb dX4_isFour_21 rfl (lv_at hl 2 rfl) ?_
      refine lv_iload_n hx hb dX4_isFour_22 rfl (lv_at hl 3 rfl) ?_
      refine lv_iload hx hb dX4_isFour_23 (lv_at hl 4 rfl) ?_
      refine RO.callV S kv_X4_237 (c_X4_has3 l D cI cJ a f σ L S9 hL hL120 (hS9) 1 c1 c2 c3 (by omega)) hK hP rfl ⟨Nat.le_of_ble_eq_true rfl, Nat.le_of_ble_eq_true rfl⟩ hl.1 rfl rfl (Nat.le_of_ble_eq_true rfl) (Nat.zero_le _) (Nat.zero_le _) dX4_isFour_25 ?_
      refine q_if_eqB (tgt := 35) hx hb dX4_isFour_28 (by decide) (fun c_28 => ?_) (fun c_28 => ?_)
      · refine lv_iconst (v := nI 0) hx hb dX4_isFour_35 (by decide) ?_
        exact RO.zret S hr hlk (bI_f (fun q5 => c_28 ⟨(wd4_iff.mp q5).2.2.2.1, (wd4_iff.mp q5).2.2.2.2.1, (wd4_iff.mp q5).2.2.2.2.2⟩)) dX4_isFour_36
      · refine lv_iconst (v := nI 1) hx hb dX4_isFour_31 (by decide) ?_
        refine lv_goto (tgt := 36) hx hb dX4_isFour_32 (by decide) ?_
        exact RO.zret S hr hlk (bI_t (wd4_iff.mpr ⟨c_5.1, c_5.2, c_16.1, c_16.2.1, c_16.2.2, c_28.2.2⟩)) dX4_isFour_36
set_option maxRecDepth 100000 in
set_option maxHeartbeats 4000000 in
theorem c_X4_isFive (l : Launch) (D : va_G) (cI cJ : ClassId) (a : Nat → Nat) (f : Nat → Int32) (σ : Nat → Nat → Int32) (L : Nat) (S9 : Nat) (hL : σ 9 1 = nI L) (hL120 : L ≤ 120) (hS9 : S9 ≤ L) (c0 : Nat) (c1 : Nat) (c2 : Nat) (c3 : Nat) (c4 : Nat) : RO l yX4_isFive cX4_isFive 6 (some .boolean) 2 D cI cJ (MW cI a f (TS σ L S9)) [.ref (a 0), .int (nI c0), .int (nI c1), .int (nI c2), .int (nI c3), .int (nI c4)] (.int (bI (wd (σ 5) L S9 [c0, c1, c2, c3, c4] = true))) := by
  have hte := tE_le (b := σ 5) (L := L) (s := S9) hS9
  have htv := tV_lt (b := σ 5) (L := L) (s := S9)
  have htk := tK_lt (b := σ 5) (L := L) (s := S9)
  refine RO.of (by decide) (Nat.le_of_ble_eq_true rfl) (fun p e s m below meth c ls S hr hlk hK hP hl => ?_)
  obtain ⟨hx, hb, hml, hown, hU⟩ := id S
  have hl : lv_has ls 6 [(0, .ref (a 0)), (1, .int (nI c0)), (2, .int (nI c1)), (3, .int (nI c2)), (4, .int (nI c3)), (5, .int (nI c4))] := hl
  refine lv_aload_n hx hb dX4_isFive_0 rfl (lv_at hl 0 rfl) ?_
  refine lv_iconst (v := nI 5) hx hb dX4_isFive_1 (by decide) ?_
  refine RO.callV S kv_X4_234 (c_X4_isWord l D cI cJ a f σ L S9 hL hL120 (hS9) 5 (by omega)) hK hP rfl ⟨Nat.le_of_ble_eq_true rfl, Nat.le_of_ble_eq_true rfl⟩ hl.1 rfl rfl (Nat.le_of_ble_eq_true rfl) (Nat.zero_le _) (Nat.zero_le _) dX4_isFive_2 ?_
  refine q_if_eqB (tgt := 36) hx hb dX4_isFive_5 (by decide) (fun c_5 => ?_) (fun c_5 => ?_)
  · refine lv_iconst (v := nI 0) hx hb dX4_isFive_36 (by decide) ?_
    exact RO.zret S hr hlk (bI_f (fun q5 => c_5 ⟨(wd5_iff.mp q5).1, (wd5_iff.mp q5).2.1⟩)) dX4_isFive_37
  · refine lv_aload_n hx hb dX4_isFive_8 rfl (lv_at hl 0 rfl) ?_
    refine lv_iconst (v := nI 0) hx hb dX4_isFive_9 (by decide) ?_
    refine lv_iload_n hx hb dX4_isFive_10 rfl (lv_at hl 1 rfl) ?_
    refine lv_iload_n hx hb dX4_isFive_11 rfl (lv_at hl 2 rfl) ?_
    refine lv_iload_n hx hb dX4_isFive_12 rfl (lv_at hl 3 rfl) ?_
    refine RO.callV S kv_X4_237 (c_X4_has3 l D cI cJ a f σ L S9 hL hL120 (hS9) 0 c0 c1 c2 (by omega)) hK hP rfl ⟨Nat.le_of_ble_eq_true rfl, Nat.le_of_ble_eq_true rfl⟩ hl.1 rfl rfl (Nat.le_of_ble_eq_true rfl) (Nat.zero_le _) (Nat.zero_le _) dX4_isFive_13 ?_
    refine q_if_eqB (tgt := 36) hx hb dX4_isFive_16 (by decide) (fun c_16 => ?_) (fun c_16 => ?_)
    · refine lv_iconst (v := nI 0) hx hb dX4_isFive_36 (by decide) ?_
      exact RO.zret S hr hlk (bI_f (fun q5 => c_16 ⟨(wd5_iff.mp q5).2.2.1, (wd5_iff.mp q5).2.2.2.1, (wd5_iff.mp q5).2.2.2.2.1⟩)) dX4_isFive_37
    · refine lv_aload_n hx hb dX4_isFive_19 rfl (lv_at hl 0 rfl) ?_
      refine lv_iconst (v := nI 2) hx hb dX4_isFive_20 (by decide) ?_
      refine lv_iload_n hx hb dX4_isFive_21 rfl (lv_at hl 3 rfl) ?_
      refine lv_iload hx hb dX4_isFive_22 (lv_at hl 4 rfl) ?_
      refine lv_iload hx hb dX4_isFive_24 (lv_at hl 5 rfl) ?_
      refine RO.callV S kv_X4_237 (c_X4_has3 l D cI cJ a f σ L S9 hL hL120 (hS9) 2 c2 c3 c4 (by omega)) hK hP rfl ⟨Nat.le_of_ble_eq_true rfl, Nat.le_of_ble_eq_true rfl⟩ hl.1 rfl rfl (Nat.le_of_ble_eq_true rfl) (Nat.zero_le _) (Nat.zero_le _) dX4_isFive_26 ?_
      refine q_if_eqB (tgt := 36) hx hb dX4_isFive_29 (by decide) (fun c_29 => ?_) (fun c_29 => ?_)
      · refine lv_iconst (v := nI 0) hx hb dX4_isFive_36 (by decide) ?_
        exact RO.zret S hr hlk (bI_f (fun q5 => c_29 ⟨(wd5_iff.mp q5).2.2.2.2.1, (wd5_iff.mp q5).2.2.2.2.2.1, (wd5_iff.mp q5).2.2.2.2.2.2⟩)) dX4_isFive_37
      · refine lv_iconst (v := nI 1) hx hb dX4_isFive_32 (by decide) ?_
        refine lv_goto (tgt := 37) hx hb dX4_isFive_33 (by decide) ?_
        exact RO.zret S hr hlk (bI_t (wd5_iff.mpr ⟨c_5.1, c_5.2, c_16.1, c_16.2.1, c_16.2.2, c_29.2.1, c_29.2.2⟩)) dX4_isFive_37
set_option maxRecDepth 100000 in
set_option maxHeartbeats 4000000 in
theorem c_X4_isSix (l : Launch) (D : va_G) (cI cJ : ClassId) (a : Nat → Nat) (f : Nat → Int32) (σ : Nat → Nat → Int32) (L : Nat) (S9 : Nat) (hL : σ 9 1 = nI L) (hL120 : L ≤ 120) (hS9 : S9 ≤ L) (c0 : Nat) (c1 : Nat) (c2 : Nat) (c3 : Nat) (c4 : Nat) (c5 : Nat) : RO l yX4_isSix cX4_isSix 7 (some .boolean) 2 D cI cJ (MW cI a f (TS σ L S9)) [.ref (a 0), .int (nI c0), .int (nI c1), .int (nI c2), .int (nI c3), .int (nI c4), .int (nI c5)] (.int (bI (wd (σ 5) L S9 [c0, c1, c2, c3, c4, c5] = true))) := by
  have hte := tE_le (b := σ 5) (L := L) (s := S9) hS9
  have htv := tV_lt (b := σ 5) (L := L) (s := S9)
  have htk := tK_lt (b := σ 5) (L := L) (s := S9)
  refine RO.of (by decide) (Nat.le_of_ble_eq_true rfl) (fun p e s m below meth c ls S hr hlk hK hP hl => ?_)
  obtain ⟨hx, hb, hml, hown, hU⟩ := id S
  have hl : lv_has ls 7 [(0, .ref (a 0)), (1, .int (nI c0)), (2, .int (nI c1)), (3, .int (nI c2)), (4, .int (nI c3)), (5, .int (nI c4)), (6, .int (nI c5))] := hl
  refine lv_aload_n hx hb dX4_isSix_0 rfl (lv_at hl 0 rfl) ?_
  refine lv_bipush (v := nI 6) hx hb dX4_isSix_1 (by decide) ?_
  refine RO.callV S kv_X4_234 (c_X4_isWord l D cI cJ a f σ L S9 hL hL120 (hS9) 6 (by omega)) hK hP rfl ⟨Nat.le_of_ble_eq_true rfl, Nat.le_of_ble_eq_true rfl⟩ hl.1 rfl rfl (Nat.le_of_ble_eq_true rfl) (Nat.zero_le _) (Nat.zero_le _) dX4_isSix_3 ?_
  refine q_if_eqB (tgt := 38) hx hb dX4_isSix_6 (by decide) (fun c_6 => ?_) (fun c_6 => ?_)
  · refine lv_iconst (v := nI 0) hx hb dX4_isSix_38 (by decide) ?_
    exact RO.zret S hr hlk (bI_f (fun q5 => c_6 ⟨(wd6_iff.mp q5).1, (wd6_iff.mp q5).2.1⟩)) dX4_isSix_39
  · refine lv_aload_n hx hb dX4_isSix_9 rfl (lv_at hl 0 rfl) ?_
    refine lv_iconst (v := nI 0) hx hb dX4_isSix_10 (by decide) ?_
    refine lv_iload_n hx hb dX4_isSix_11 rfl (lv_at hl 1 rfl) ?_
    refine lv_iload_n hx hb dX4_isSix_12 rfl (lv_at hl 2 rfl) ?_
    refine lv_iload_n hx hb dX4_isSix_13 rfl (lv_at hl 3 rfl) ?_
    refine RO.callV S kv_X4_237 (c_X4_has3 l D cI cJ a f σ L S9 hL hL120 (hS9) 0 c0 c1 c2 (by omega)) hK hP rfl ⟨Nat.le_of_ble_eq_true rfl, Nat.le_of_ble_eq_true rfl⟩ hl.1 rfl rfl (Nat.le_of_ble_eq_true rfl) (Nat.zero_le _) (Nat.zero_le _) dX4_isSix_14 ?_
    refine q_if_eqB (tgt := 38) hx hb dX4_isSix_17 (by decide) (fun c_17 => ?_) (fun c_17 => ?_)
    · refine lv_iconst (v := nI 0) hx hb dX4_isSix_38 (by decide) ?_
      exact RO.zret S hr hlk (bI_f (fun q5 => c_17 ⟨(wd6_iff.mp q5).2.2.1, (wd6_iff.mp q5).2.2.2.1, (wd6_iff.mp q5).2.2.2.2.1⟩)) dX4_isSix_39
    · refine lv_aload_n hx hb dX4_isSix_20 rfl (lv_at hl 0 rfl) ?_
      refine lv_iconst (v := nI 3) hx hb dX4_isSix_21 (by decide) ?_
      refine lv_iload hx hb dX4_isSix_22 (lv_at hl 4 rfl) ?_
      refine lv_iload hx hb dX4_isSix_24 (lv_at hl 5 rfl) ?_
      refine lv_iload hx hb dX4_isSix_26 (lv_at hl 6 rfl) ?_
      refine RO.callV S kv_X4_237 (c_X4_has3 l D cI cJ a f σ L S9 hL hL120 (hS9) 3 c3 c4 c5 (by omega)) hK hP rfl ⟨Nat.le_of_ble_eq_true rfl, Nat.le_of_ble_eq_true rfl⟩ hl.1 rfl rfl (Nat.le_of_ble_eq_true rfl) (Nat.zero_le _) (Nat.zero_le _) dX4_isSix_28 ?_
      refine q_if_eqB (tgt := 38) hx hb dX4_isSix_31 (by decide) (fun c_31 => ?_) (fun c_31 => ?_)
      · refine lv_iconst (v := nI 0) hx hb dX4_isSix_38 (by decide) ?_
        exact RO.zret S hr hlk (bI_f (fun q5 => c_31 ⟨(wd6_iff.mp q5).2.2.2.2.2.1, (wd6_iff.mp q5).2.2.2.2.2.2.1, (wd6_iff.mp q5).2.2.2.2.2.2.2⟩)) dX4_isSix_39
      · refine lv_iconst (v := nI 1) hx hb dX4_isSix_34 (by decide) ?_
        refine lv_goto (tgt := 39) hx hb dX4_isSix_35 (by decide) ?_
        exact RO.zret S hr hlk (bI_t (wd6_iff.mpr ⟨c_6.1, c_6.2, c_17.1, c_17.2.1, c_17.2.2, c_31.1, c_31.2.1, c_31.2.2⟩)) dX4_isSix_39
set_option maxRecDepth 100000 in
set_option maxHeartbeats 4000000 in
theorem c_X4_kindHere (l : Launch) (D : va_G) (cI cJ : ClassId) (a : Nat → Nat) (f : Nat → Int32) (σ : Nat → Nat → Int32) (L : Nat) (S9 : Nat) (hL : σ 9 1 = nI L) (hL120 : L ≤ 120) (hS9 : S9 ≤ L) : RO l yX4_kindHere cX4_kindHere 1 (some .int) 3 D cI cJ (MW cI a f (TS σ L S9)) [.ref (a 0)] (.int (oI (kdO (σ 5) L S9))) := by
  have hte := tE_le (b := σ 5) (L := L) (s := S9) hS9
  have htv := tV_lt (b := σ 5) (L := L) (s := S9)
  have htk := tK_lt (b := σ 5) (L := L) (s := S9)
  refine RO.of (by decide) (Nat.le_of_ble_eq_true rfl) (fun p e s m below meth c ls S hr hlk hK hP hl => ?_)
  obtain ⟨hx, hb, hml, hown, hU⟩ := id S
  have hl : lv_has ls 1 [(0, .ref (a 0))] := hl
  refine lv_aload_n hx hb dX4_kindHere_0 rfl (lv_at hl 0 rfl) ?_
  refine lv_bipush (v := nI 99) hx hb dX4_kindHere_1 (by decide) ?_
  refine lv_bipush (v := nI 97) hx hb dX4_kindHere_3 (by decide) ?_
  refine lv_bipush (v := nI 115) hx hb dX4_kindHere_5 (by decide) ?_
  refine lv_bipush (v := nI 107) hx hb dX4_kindHere_7 (by decide) ?_
  refine RO.callV S kv_X4_245 (c_X4_isFour l D cI cJ a f σ L S9 hL hL120 (hS9) 99 97 115 107) hK hP rfl ⟨Nat.le_of_ble_eq_true rfl, Nat.le_of_ble_eq_true rfl⟩ hl.1 rfl rfl (Nat.le_of_ble_eq_true rfl) (Nat.zero_le _) (Nat.zero_le _) dX4_kindHere_9 ?_
  refine q_if_eqB (tgt := 17) hx hb dX4_kindHere_12 (by decide) (fun c_12 => ?_) (fun c_12 => ?_)
  · refine lv_aload_n hx hb dX4_kindHere_17 rfl (lv_at hl 0 rfl) ?_
    refine lv_bipush (v := nI 99) hx hb dX4_kindHere_18 (by decide) ?_
    refine lv_bipush (v := nI 114) hx hb dX4_kindHere_20 (by decide) ?_
    refine lv_bipush (v := nI 97) hx hb dX4_kindHere_22 (by decide) ?_
    refine lv_bipush (v := nI 99) hx hb dX4_kindHere_24 (by decide) ?_
    refine lv_bipush (v := nI 107) hx hb dX4_kindHere_26 (by decide) ?_
    refine RO.callV S kv_X4_248 (c_X4_isFive l D cI cJ a f σ L S9 hL hL120 (hS9) 99 114 97 99 107) hK hP rfl ⟨Nat.le_of_ble_eq_true rfl, Nat.le_of_ble_eq_true rfl⟩ hl.1 rfl rfl (Nat.le_of_ble_eq_true rfl) (Nat.zero_le _) (Nat.zero_le _) dX4_kindHere_28 ?_
    refine q_if_eqB (tgt := 36) hx hb dX4_kindHere_31 (by decide) (fun c_31 => ?_) (fun c_31 => ?_)
    · refine lv_aload_n hx hb dX4_kindHere_36 rfl (lv_at hl 0 rfl) ?_
      refine lv_bipush (v := nI 114) hx hb dX4_kindHere_37 (by decide) ?_
      refine lv_bipush (v := nI 111) hx hb dX4_kindHere_39 (by decide) ?_
      refine lv_bipush (v := nI 108) hx hb dX4_kindHere_41 (by decide) ?_
      refine lv_bipush (v := nI 108) hx hb dX4_kindHere_43 (by decide) ?_
      refine RO.callV S kv_X4_245 (c_X4_isFour l D cI cJ a f σ L S9 hL hL120 (hS9) 114 111 108 108) hK hP rfl ⟨Nat.le_of_ble_eq_true rfl, Nat.le_of_ble_eq_true rfl⟩ hl.1 rfl rfl (Nat.le_of_ble_eq_true rfl) (Nat.zero_le _) (Nat.zero_le _) dX4_kindHere_45 ?_
      refine q_if_eqB (tgt := 53) hx hb dX4_kindHere_48 (by decide) (fun c_48 => ?_) (fun c_48 => ?_)
      · refine lv_aload_n hx hb dX4_kindHere_53 rfl (lv_at hl 0 rfl) ?_
        refine lv_bipush (v := nI 109) hx hb dX4_kindHere_54 (by decide) ?_
        refine lv_bipush (v := nI 101) hx hb dX4_kindHere_56 (by decide) ?_
        refine lv_bipush (v := nI 108) hx hb dX4_kindHere_58 (by decide) ?_
        refine lv_bipush (v := nI 108) hx hb dX4_kindHere_60 (by decide) ?_
        refine lv_bipush (v := nI 111) hx hb dX4_kindHere_62 (by decide) ?_
        refine lv_bipush (v := nI 119) hx hb dX4_kindHere_64 (by decide) ?_
        refine RO.callV S kv_X4_252 (c_X4_isSix l D cI cJ a f σ L S9 hL hL120 (hS9) 109 101 108 108 111 119) hK hP rfl ⟨Nat.le_of_ble_eq_true rfl, Nat.le_of_ble_eq_true rfl⟩ hl.1 rfl rfl (Nat.le_of_ble_eq_true rfl) (Nat.zero_le _) (Nat.zero_le _) dX4_kindHere_66 ?_
        refine q_if_eqB (tgt := 74) hx hb dX4_kindHere_69 (by decide) (fun c_69 => ?_) (fun c_69 => ?_)
        · refine lv_aload_n hx hb dX4_kindHere_74 rfl (lv_at hl 0 rfl) ?_
          refine lv_bipush (v := nI 101) hx hb dX4_kindHere_75 (by decide) ?_
          refine lv_bipush (v := nI 99) hx hb dX4_kindHere_77 (by decide) ?_
          refine lv_bipush (v := nI 104) hx hb dX4_kindHere_79 (by decide) ?_
          refine lv_bipush (v := nI 111) hx hb dX4_kindHere_81 (by decide) ?_
          refine RO.callV S kv_X4_245 (c_X4_isFour l D cI cJ a f σ L S9 hL hL120 (hS9) 101 99 104 111) hK hP rfl ⟨Nat.le_of_ble_eq_true rfl, Nat.le_of_ble_eq_true rfl⟩ hl.1 rfl rfl (Nat.le_of_ble_eq_true rfl) (Nat.zero_le _) (Nat.zero_le _) dX4_kindHere_83 ?_
          refine q_if_eqB (tgt := 91) hx hb dX4_kindHere_86 (by decide) (fun c_86 => ?_) (fun c_86 => ?_)
          · refine lv_aload_n hx hb dX4_kindHere_91 rfl (lv_at hl 0 rfl) ?_
            refine lv_bipush (v := nI 104) hx hb dX4_kindHere_92 (by decide) ?_
            refine lv_bipush (v := nI 101) hx hb dX4_kindHere_94 (by decide) ?_
            refine lv_bipush (v := nI 97) hx hb dX4_kindHere_96 (by decide) ?_
            refine lv_bipush (v := nI 116) hx hb dX4_kindHere_98 (by decide) ?_
            refine RO.callV S kv_X4_245 (c_X4_isFour l D cI cJ a f σ L S9 hL hL120 (hS9) 104 101 97 116) hK hP rfl ⟨Nat.le_of_ble_eq_true rfl, Nat.le_of_ble_eq_true rfl⟩ hl.1 rfl rfl (Nat.le_of_ble_eq_true rfl) (Nat.zero_le _) (Nat.zero_le _) dX4_kindHere_100 ?_
            refine q_if_eqB (tgt := 108) hx hb dX4_kindHere_103 (by decide) (fun c_103 => ?_) (fun c_103 => ?_)
            · refine lv_aload_n hx hb dX4_kindHere_108 rfl (lv_at hl 0 rfl) ?_
              refine lv_bipush (v := nI 102) hx hb dX4_kindHere_109 (by decide) ?_
              refine lv_bipush (v := nI 111) hx hb dX4_kindHere_111 (by decide) ?_
              refine lv_bipush (v := nI 114) hx hb dX4_kindHere_113 (by decide) ?_
              refine lv_bipush (v := nI 103) hx hb dX4_kindHere_115 (by decide) ?_
              refine lv_bipush (v := nI 101) hx hb dX4_kindHere_117 (by decide) ?_
              refine lv_bipush (v := nI 100) hx hb dX4_kindHere_119 (by decide) ?_
              refine RO.callV S kv_X4_252 (c_X4_isSix l D cI cJ a f σ L S9 hL hL120 (hS9) 102 111 114 103 101 100) hK hP rfl ⟨Nat.le_of_ble_eq_true rfl, Nat.le_of_ble_eq_true rfl⟩ hl.1 rfl rfl (Nat.le_of_ble_eq_true rfl) (Nat.zero_le _) (Nat.zero_le _) dX4_kindHere_121 ?_
              refine q_if_eqB (tgt := 132) hx hb dX4_kindHere_124 (by decide) (fun c_124 => ?_) (fun c_124 => ?_)
              · refine lv_iconst (v := (-1)) hx hb dX4_kindHere_132 (by decide) ?_
                exact RO.iret S hr hlk (congrArg Value.int (by unfold kdO; rw [fst1_go (p := fun k => wd (σ 5) L S9 (wK k)) (t := 0) c_12, fst1_go (p := fun k => wd (σ 5) L S9 (wK k)) (t := 1) c_31, fst1_go (p := fun k => wd (σ 5) L S9 (wK k)) (t := 2) c_48, fst1_go (p := fun k => wd (σ 5) L S9 (wK k)) (t := 3) c_69, fst1_go (p := fun k => wd (σ 5) L S9 (wK k)) (t := 4) c_86, fst1_go (p := fun k => wd (σ 5) L S9 (wK k)) (t := 5) c_103, fst1_go (p := fun k => wd (σ 5) L S9 (wK k)) (t := 6) c_124]; rfl)) dX4_kindHere_133
              · refine lv_bipush (v := nI 6) hx hb dX4_kindHere_127 (by decide) ?_
                refine lv_goto (tgt := 133) hx hb dX4_kindHere_129 (by decide) ?_
                exact RO.iret S hr hlk (congrArg Value.int (by unfold kdO; rw [fst1_go (p := fun k => wd (σ 5) L S9 (wK k)) (t := 0) c_12, fst1_go (p := fun k => wd (σ 5) L S9 (wK k)) (t := 1) c_31, fst1_go (p := fun k => wd (σ 5) L S9 (wK k)) (t := 2) c_48, fst1_go (p := fun k => wd (σ 5) L S9 (wK k)) (t := 3) c_69, fst1_go (p := fun k => wd (σ 5) L S9 (wK k)) (t := 4) c_86, fst1_go (p := fun k => wd (σ 5) L S9 (wK k)) (t := 5) c_103, fst1_hit (p := fun k => wd (σ 5) L S9 (wK k)) (t := 6) c_124]; rfl)) dX4_kindHere_133
            · refine lv_iconst (v := nI 5) hx hb dX4_kindHere_106 (by decide) ?_
              exact RO.iret S hr hlk (congrArg Value.int (by unfold kdO; rw [fst1_go (p := fun k => wd (σ 5) L S9 (wK k)) (t := 0) c_12, fst1_go (p := fun k => wd (σ 5) L S9 (wK k)) (t := 1) c_31, fst1_go (p := fun k => wd (σ 5) L S9 (wK k)) (t := 2) c_48, fst1_go (p := fun k => wd (σ 5) L S9 (wK k)) (t := 3) c_69, fst1_go (p := fun k => wd (σ 5) L S9 (wK k)) (t := 4) c_86, fst1_hit (p := fun k => wd (σ 5) L S9 (wK k)) (t := 5) c_103]; rfl)) dX4_kindHere_107
          · refine lv_iconst (v := nI 4) hx hb dX4_kindHere_89 (by decide) ?_
            exact RO.iret S hr hlk (congrArg Value.int (by unfold kdO; rw [fst1_go (p := fun k => wd (σ 5) L S9 (wK k)) (t := 0) c_12, fst1_go (p := fun k => wd (σ 5) L S9 (wK k)) (t := 1) c_31, fst1_go (p := fun k => wd (σ 5) L S9 (wK k)) (t := 2) c_48, fst1_go (p := fun k => wd (σ 5) L S9 (wK k)) (t := 3) c_69, fst1_hit (p := fun k => wd (σ 5) L S9 (wK k)) (t := 4) c_86]; rfl)) dX4_kindHere_90
        · refine lv_iconst (v := nI 3) hx hb dX4_kindHere_72 (by decide) ?_
          exact RO.iret S hr hlk (congrArg Value.int (by unfold kdO; rw [fst1_go (p := fun k => wd (σ 5) L S9 (wK k)) (t := 0) c_12, fst1_go (p := fun k => wd (σ 5) L S9 (wK k)) (t := 1) c_31, fst1_go (p := fun k => wd (σ 5) L S9 (wK k)) (t := 2) c_48, fst1_hit (p := fun k => wd (σ 5) L S9 (wK k)) (t := 3) c_69]; rfl)) dX4_kindHere_73
      · refine lv_iconst (v := nI 2) hx hb dX4_kindHere_51 (by decide) ?_
        exact RO.iret S hr hlk (congrArg Value.int (by unfold kdO; rw [fst1_go (p := fun k => wd (σ 5) L S9 (wK k)) (t := 0) c_12, fst1_go (p := fun k => wd (σ 5) L S9 (wK k)) (t := 1) c_31, fst1_hit (p := fun k => wd (σ 5) L S9 (wK k)) (t := 2) c_48]; rfl)) dX4_kindHere_52
    · refine lv_iconst (v := nI 1) hx hb dX4_kindHere_34 (by decide) ?_
      exact RO.iret S hr hlk (congrArg Value.int (by unfold kdO; rw [fst1_go (p := fun k => wd (σ 5) L S9 (wK k)) (t := 0) c_12, fst1_hit (p := fun k => wd (σ 5) L S9 (wK k)) (t := 1) c_31]; rfl)) dX4_kindHere_35
  · refine lv_iconst (v := nI 0) hx hb dX4_kindHere_15 (by decide) ?_
    exact RO.iret S hr hlk (congrArg Value.int (by unfold kdO; rw [fst1_hit (p := fun k => wd (σ 5) L S9 (wK k)) (t := 0) c_12]; rfl)) dX4_kindHere_16

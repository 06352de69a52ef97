set_option maxRecDepth 100000 in
set_option maxHeartbeats 4000000 in
theorem c_X2_readPair_list (l : Launch) (D : va_G) (cI cJ : ClassId) (t : Nat → Nat) (f g h : Nat → Int32) (τ : Nat → Nat → Int32) (mt ka : Nat) (kk vv : Nat → Nat) (v : Int32) (L : Nat) (S9 : Nat) (hL : τ 0 1 = nI L) (hL120 : L ≤ 120) (hS9 : S9 ≤ L) : WY mt ka kk vv l yX2_readPair cX2_readPair 4 (some .boolean) 3 D cI cJ (TW cI cJ t f g h (CS τ L S9 v)) [.ref (sf t 34 0), .ref (sf t 12 2), .int (nI 99)] (some (.int (bI ((iR (τ 1) L g S9 10 99).1 = true)))) (TW cI cJ t f ((iR (τ 1) L g S9 10 99).2.1) h (CS τ L (iR (τ 1) L g S9 10 99).2.2 (vR (τ 1) L v S9 99))) := by
  refine WY.of (by decide) (Nat.le_of_ble_eq_true rfl) (fun p e s m below meth c ls A S hr hlk hK hP hD hS hA hZ hl => ?_)
  obtain ⟨hx, hb, hml, hown, hU⟩ := id S
  have hl : lv_has ls 4 [(0, .ref (sf t 34 0)), (1, .ref (sf t 12 2)), (2, .int (nI 99))] := hl
  refine lv_aload_n hx hb dX2_readPair_0 rfl (lv_at hl 0 rfl) ?_
  refine WR.callV (w1 := TW cI cJ t f g h (CS τ L (nx (τ 1) L S9) (cV (τ 1) L S9 v))) S kv_X2_31 (c_X2_stepS l D cI cJ (sf t 34) τ v L S9 hL hL120 (hS9)) hK hP hD hS hA (_) (_) TW_cs TW_cs TT_fst rfl ⟨Nat.le_of_ble_eq_true rfl, Nat.le_of_ble_eq_true rfl⟩ hl.1 rfl rfl (Nat.le_of_ble_eq_true rfl) (Nat.zero_le _) (Nat.zero_le _) dX2_readPair_1 (fun H locs hP hD hS => ?_)
  refine W.eq (g2 := F0 m 4 ls []) rfl ?_
  refine lv_aload_n hx hb dX2_readPair_4 rfl (lv_at hl 0 rfl) ?_
  refine lv_iconst (v := nI 5) hx hb dX2_readPair_5 (by decide) ?_
  refine RO.callV S kv_X2_81 (c_X2_isNumber l D cI cJ (sf t 34) τ (cV (τ 1) L S9 v) L (nx (τ 1) L S9) hL hL120 (nx_le (hS9)) 5 (by decide)) hK (TW_tape hP) rfl ⟨Nat.le_of_ble_eq_true rfl, Nat.le_of_ble_eq_true rfl⟩ hl.1 rfl rfl (Nat.le_of_ble_eq_true rfl) (Nat.zero_le _) (Nat.zero_le _) dX2_readPair_6 ?_
  refine q_if_neB (tgt := 14) hx hb dX2_readPair_9 (by decide) (fun c_9 => ?_) (fun c_9 => ?_)
  · refine lv_aload_n hx hb dX2_readPair_14 rfl (lv_at hl 0 rfl) ?_
    refine g22_value S hK (TW_tape hP) dX2_readPair_15 ?_
    refine q_eqi (y := nI (tV (τ 1) L (nx (τ 1) L S9))) (cV_le c_9 (by decide)) ?_
    refine lv_istore_n (lv' := [(3, .int (nI (tV (τ 1) L (nx (τ 1) L S9)))), (0, .ref (sf t 34 0)), (1, .ref (sf t 12 2)), (2, .int (nI 99))]) hx hb dX2_readPair_18 rfl hl (by decide) rfl (fun ls hl => ?_)
    refine lv_aload_n hx hb dX2_readPair_19 rfl (lv_at hl 1 rfl) ?_
    refine WR.callV (w1 := TW cI cJ t f g h (CS τ L (nx (τ 1) L (nx (τ 1) L S9)) (cV (τ 1) L (nx (τ 1) L S9) (cV (τ 1) L S9 v)))) S kv_X2_31 (c_X2_stepS l D cI cJ (sf t 34) τ (cV (τ 1) L S9 v) L (nx (τ 1) L S9) hL hL120 (nx_le (hS9))) hK hP hD hS hA (_) (_) TW_cs TW_cs TT_fst rfl ⟨Nat.le_of_ble_eq_true rfl, Nat.le_of_ble_eq_true rfl⟩ hl.1 rfl rfl (Nat.le_of_ble_eq_true rfl) (Nat.zero_le _) (Nat.zero_le _) dX2_readPair_20 (fun H locs hP hD hS => ?_)
    refine W.eq (g2 := F0 m 23 ls []) rfl ?_
    refine lv_aload_n hx hb dX2_readPair_23 rfl (lv_at hl 1 rfl) ?_
    refine lv_iload_n hx hb dX2_readPair_24 rfl (lv_at hl 3 rfl) ?_
    refine RO.callV S kv_X2_81 (c_X2_isNumber l D cI cJ (sf t 34) τ (cV (τ 1) L (nx (τ 1) L S9) (cV (τ 1) L S9 v)) L (nx (τ 1) L (nx (τ 1) L S9)) hL hL120 (nx_le (nx_le (hS9))) 99 (by decide)) hK (TW_tape hP) rfl ⟨Nat.le_of_ble_eq_true rfl, Nat.le_of_ble_eq_true rfl⟩ hl.1 rfl rfl (Nat.le_of_ble_eq_true rfl) (Nat.zero_le _) (Nat.zero_le _) dX2_readPair_25 ?_
    refine q_if_neB (tgt := 33) hx hb dX2_readPair_28 (by decide) (fun c_28 => ?_) (fun c_28 => ?_)
    · refine lv_aload_n hx hb dX2_readPair_33 rfl (lv_at hl 2 rfl) ?_
      refine lv_iload_n hx hb dX2_readPair_34 rfl (lv_at hl 0 rfl) ?_
      refine lv_aload_n hx hb dX2_readPair_35 rfl (lv_at hl 1 rfl) ?_
      refine g22_value S hK (TW_tape hP) dX2_readPair_36 ?_
      refine q_eqi (y := nI (tV (τ 1) L (nx (τ 1) L (nx (τ 1) L S9)))) (cV_le c_28 (by decide)) ?_
      refine ss_list (w1 := TW cI cJ t f (upd g (10 + (tV (τ 1) L (nx (τ 1) L S9))) (nI (tV (τ 1) L (nx (τ 1) L (nx (τ 1) L S9))))) h (CS τ L (nx (τ 1) L (nx (τ 1) L S9)) (cV (τ 1) L (nx (τ 1) L S9) (cV (τ 1) L S9 v)))) S hK hP hD hS TW_s2 (j := tV (τ 1) L (nx (τ 1) L S9)) (by omega) TW_s2 dX2_readPair_39 (fun H locs hP hD hS => ?_)
      refine lv_aload_n hx hb dX2_readPair_40 rfl (lv_at hl 1 rfl) ?_
      refine WR.callV (w1 := TW cI cJ t f (upd g (10 + (tV (τ 1) L (nx (τ 1) L S9))) (nI (tV (τ 1) L (nx (τ 1) L (nx (τ 1) L S9))))) h (CS τ L (nx (τ 1) L (nx (τ 1) L (nx (τ 1) L S9))) (cV (τ 1) L (nx (τ 1) L (nx (τ 1) L S9)) (cV (τ 1) L (nx (τ 1) L S9) (cV (τ 1) L S9 v))))) S kv_X2_31 (c_X2_stepS l D cI cJ (sf t 34) τ (cV (τ 1) L (nx (τ 1) L S9) (cV (τ 1) L S9 v)) L (nx (τ 1) L (nx (τ 1) L S9)) hL hL120 (nx_le (nx_le (hS9)))) hK hP hD hS hA (_) (_) TW_cs TW_cs TT_fst rfl ⟨Nat.le_of_ble_eq_true rfl, Nat.le_of_ble_eq_true rfl⟩ hl.1 rfl rfl (Nat.le_of_ble_eq_true rfl) (Nat.zero_le _) (Nat.zero_le _) dX2_readPair_41 (fun H locs hP hD hS => ?_)
      refine W.eq (g2 := F0 m 44 ls []) rfl ?_
      refine lv_iconst (v := nI 1) hx hb dX2_readPair_44 (by decide) ?_
      exact WR.zret S hr hlk hP hS (by rw [iR_t c_9, pN_t c_28, vR_t c_9, vN_t c_28]) (bI_t (by rw [iR_t c_9, pN_t c_28])) dX2_readPair_45
    · refine lv_iconst (v := nI 0) hx hb dX2_readPair_31 (by decide) ?_
      exact WR.zret S hr hlk hP hS (by rw [iR_t c_9, pN_f c_28, vR_t c_9, vN_f c_28]) (bI_f (by rw [iR_t c_9, pN_f c_28]; exact Bool.false_ne_true)) dX2_readPair_32
  · refine lv_iconst (v := nI 0) hx hb dX2_readPair_12 (by decide) ?_
    exact WR.zret S hr hlk hP hS (by rw [iR_f c_9, vR_f c_9]) (bI_f (by rw [iR_f c_9]; exact Bool.false_ne_true)) dX2_readPair_13
set_option maxRecDepth 100000 in
set_option maxHeartbeats 4000000 in
theorem c_X2_readPair_frosts (l : Launch) (D : va_G) (cI cJ : ClassId) (t : Nat → Nat) (f g h : Nat → Int32) (τ : Nat → Nat → Int32) (mt ka : Nat) (kk vv : Nat → Nat) (v : Int32) (L : Nat) (S9 : Nat) (hL : τ 0 1 = nI L) (hL120 : L ≤ 120) (hS9 : S9 ≤ L) : WY mt ka kk vv l yX2_readPair cX2_readPair 4 (some .boolean) 3 D cI cJ (TW cI cJ t f g h (CS τ L S9 v)) [.ref (sf t 34 0), .ref (sf t 12 1), .int (nI 9)] (some (.int (bI ((iR (τ 1) L g S9 4 9).1 = true)))) (TW cI cJ t f ((iR (τ 1) L g S9 4 9).2.1) h (CS τ L (iR (τ 1) L g S9 4 9).2.2 (vR (τ 1) L v S9 9))) := by
  refine WY.of (by decide) (Nat.le_of_ble_eq_true rfl) (fun p e s m below meth c ls A S hr hlk hK hP hD hS hA hZ hl => ?_)
  obtain ⟨hx, hb, hml, hown, hU⟩ := id S
  have hl : lv_has ls 4 [(0, .ref (sf t 34 0)), (1, .ref (sf t 12 1)), (2, .int (nI 9))] := hl
  refine lv_aload_n hx hb dX2_readPair_0 rfl (lv_at hl 0 rfl) ?_
  refine WR.callV (w1 := TW cI cJ t f g h (CS τ L (nx (τ 1) L S9) (cV (τ 1) L S9 v))) S kv_X2_31 (c_X2_stepS l D cI cJ (sf t 34) τ v L S9 hL hL120 (hS9)) hK hP hD hS hA (_) (_) TW_cs TW_cs TT_fst rfl ⟨Nat.le_of_ble_eq_true rfl, Nat.le_of_ble_eq_true rfl⟩ hl.1 rfl rfl (Nat.le_of_ble_eq_true rfl) (Nat.zero_le _) (Nat.zero_le _) dX2_readPair_1 (fun H locs hP hD hS => ?_)
  refine W.eq (g2 := F0 m 4 ls []) rfl ?_
  refine lv_aload_n hx hb dX2_readPair_4 rfl (lv_at hl 0 rfl) ?_
  refine lv_iconst (v := nI 5) hx hb dX2_readPair_5 (by decide) ?_
  refine RO.callV S kv_X2_81 (c_X2_isNumber l D cI cJ (sf t 34) τ (cV (τ 1) L S9 v) L (nx (τ 1) L S9) hL hL120 (nx_le (hS9)) 5 (by decide)) hK (TW_tape hP) rfl ⟨Nat.le_of_ble_eq_true rfl, Nat.le_of_ble_eq_true rfl⟩ hl.1 rfl rfl (Nat.le_of_ble_eq_true rfl) (Nat.zero_le _) (Nat.zero_le _) dX2_readPair_6 ?_
  refine q_if_neB (tgt := 14) hx hb dX2_readPair_9 (by decide) (fun c_9 => ?_) (fun c_9 => ?_)
  · refine lv_aload_n hx hb dX2_readPair_14 rfl (lv_at hl 0 rfl) ?_
    refine g22_value S hK (TW_tape hP) dX2_readPair_15 ?_
    refine q_eqi (y := nI (tV (τ 1) L (nx (τ 1) L S9))) (cV_le c_9 (by decide)) ?_
    refine lv_istore_n (lv' := [(3, .int (nI (tV (τ 1) L (nx (τ 1) L S9)))), (0, .ref (sf t 34 0)), (1, .ref (sf t 12 1)), (2, .int (nI 9))]) hx hb dX2_readPair_18 rfl hl (by decide) rfl (fun ls hl => ?_)
    refine lv_aload_n hx hb dX2_readPair_19 rfl (lv_at hl 1 rfl) ?_
    refine WR.callV (w1 := TW cI cJ t f g h (CS τ L (nx (τ 1) L (nx (τ 1) L S9)) (cV (τ 1) L (nx (τ 1) L S9) (cV (τ 1) L S9 v)))) S kv_X2_31 (c_X2_stepS l D cI cJ (sf t 34) τ (cV (τ 1) L S9 v) L (nx (τ 1) L S9) hL hL120 (nx_le (hS9))) hK hP hD hS hA (_) (_) TW_cs TW_cs TT_fst rfl ⟨Nat.le_of_ble_eq_true rfl, Nat.le_of_ble_eq_true rfl⟩ hl.1 rfl rfl (Nat.le_of_ble_eq_true rfl) (Nat.zero_le _) (Nat.zero_le _) dX2_readPair_20 (fun H locs hP hD hS => ?_)
    refine W.eq (g2 := F0 m 23 ls []) rfl ?_
    refine lv_aload_n hx hb dX2_readPair_23 rfl (lv_at hl 1 rfl) ?_
    refine lv_iload_n hx hb dX2_readPair_24 rfl (lv_at hl 3 rfl) ?_
    refine RO.callV S kv_X2_81 (c_X2_isNumber l D cI cJ (sf t 34) τ (cV (τ 1) L (nx (τ 1) L S9) (cV (τ 1) L S9 v)) L (nx (τ 1) L (nx (τ 1) L S9)) hL hL120 (nx_le (nx_le (hS9))) 9 (by decide)) hK (TW_tape hP) rfl ⟨Nat.le_of_ble_eq_true rfl, Nat.le_of_ble_eq_true rfl⟩ hl.1 rfl rfl (Nat.le_of_ble_eq_true rfl) (Nat.zero_le _) (Nat.zero_le _) dX2_readPair_25 ?_
    refine q_if_neB (tgt := 33) hx hb dX2_readPair_28 (by decide) (fun c_28 => ?_) (fun c_28 => ?_)
    · refine lv_aload_n hx hb dX2_readPair_33 rfl (lv_at hl 2 rfl) ?_
      refine lv_iload_n hx hb dX2_readPair_34 rfl (lv_at hl 0 rfl) ?_
      refine lv_aload_n hx hb dX2_readPair_35 rfl (lv_at hl 1 rfl) ?_
      refine g22_value S hK (TW_tape hP) dX2_readPair_36 ?_
      refine q_eqi (y := nI (tV (τ 1) L (nx (τ 1) L (nx (τ 1) L S9)))) (cV_le c_28 (by decide)) ?_
      refine ss_frosts (w1 := TW cI cJ t f (upd g (4 + (tV (τ 1) L (nx (τ 1) L S9))) (nI (tV (τ 1) L (nx (τ 1) L (nx (τ 1) L S9))))) h (CS τ L (nx (τ 1) L (nx (τ 1) L S9)) (cV (τ 1) L (nx (τ 1) L S9) (cV (τ 1) L S9 v)))) S hK hP hD hS TW_s2 (j := tV (τ 1) L (nx (τ 1) L S9)) (by omega) TW_s2 dX2_readPair_39 (fun H locs hP hD hS => ?_)
      refine lv_aload_n hx hb dX2_readPair_40 rfl (lv_at hl 1 rfl) ?_
      refine WR.callV (w1 := TW cI cJ t f (upd g (4 + (tV (τ 1) L (nx (τ 1) L S9))) (nI (tV (τ 1) L (nx (τ 1) L (nx (τ 1) L S9))))) h (CS τ L (nx (τ 1) L (nx (τ 1) L (nx (τ 1) L S9))) (cV (τ 1) L (nx (τ 1) L (nx (τ 1) L S9)) (cV (τ 1) L (nx (τ 1) L S9) (cV (τ 1) L S9 v))))) S kv_X2_31 (c_X2_stepS l D cI cJ (sf t 34) τ (cV (τ 1) L (nx (τ 1) L S9) (cV (τ 1) L S9 v)) L (nx (τ 1) L (nx (τ 1) L S9)) hL hL120 (nx_le (nx_le (hS9)))) hK hP hD hS hA (_) (_) TW_cs TW_cs TT_fst rfl ⟨Nat.le_of_ble_eq_true rfl, Nat.le_of_ble_eq_true rfl⟩ hl.1 rfl rfl (Nat.le_of_ble_eq_true rfl) (Nat.zero_le _) (Nat.zero_le _) dX2_readPair_41 (fun H locs hP hD hS => ?_)
      refine W.eq (g2 := F0 m 44 ls []) rfl ?_
      refine lv_iconst (v := nI 1) hx hb dX2_readPair_44 (by decide) ?_
      exact WR.zret S hr hlk hP hS (by rw [iR_t c_9, pN_t c_28, vR_t c_9, vN_t c_28]) (bI_t (by rw [iR_t c_9, pN_t c_28])) dX2_readPair_45
    · refine lv_iconst (v := nI 0) hx hb dX2_readPair_31 (by decide) ?_
      exact WR.zret S hr hlk hP hS (by rw [iR_t c_9, pN_f c_28, vR_t c_9, vN_f c_28]) (bI_f (by rw [iR_t c_9, pN_f c_28]; exact Bool.false_ne_true)) dX2_readPair_32
  · refine lv_iconst (v := nI 0) hx hb dX2_readPair_12 (by decide) ?_
    exact WR.zret S hr hlk hP hS (by rw [iR_f c_9, vR_f c_9]) (bI_f (by rw [iR_f c_9]; exact Bool.false_ne_true)) dX2_readPair_13

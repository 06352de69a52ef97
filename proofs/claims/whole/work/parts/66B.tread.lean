set_option maxRecDepth 100000 in
set_option maxHeartbeats 4000000 in
theorem c_X2_readMark_1 (l : Launch) (D : va_G) (cI cJ : ClassId) (t : Nat → Nat) (f h : Nat → Int32) (τ : Nat → Nat → Int32) (mt ka : Nat) (kk vv : Nat → Nat) (v : Int32) (L : Nat) (X : Bool × (Nat → Int32) × Nat) (hL : τ 0 1 = nI L) (hL120 : L ≤ 120) (hXL : X.2.2 ≤ L) (hX1 : X.1 = true) (c9 : Nat) (hc9 : c9 < 8) : WY mt ka kk vv l yX2_readMark cX2_readMark 5 (some .boolean) 5 D cI cJ (TW cI cJ t f X.2.1 h (CS τ L X.2.2 v)) [.ref (sf t 34 0), .ref (sf t 12 0), .int (nI c9), .ref (kk 2), .int (nI 1)] (some (.int (bI ((pP (τ 1) L X (csT 2) (16 + 7 * c9 + 1) 5).1 = true)))) (TW cI cJ t f ((pP (τ 1) L X (csT 2) (16 + 7 * c9 + 1) 5).2.1) h (CS τ L (pP (τ 1) L X (csT 2) (16 + 7 * c9 + 1) 5).2.2 (vP (τ 1) L v X (csT 2) 5))) := by
  refine WY.of (by decide) (Nat.le_of_ble_eq_true rfl) (fun p e s m below meth c ls A S hr hlk hK hP hD hS hA hZ hl => ?_)
  obtain ⟨hx, hb, hml, hown, hU⟩ := id S
  have hl : lv_has ls 5 [(0, .ref (sf t 34 0)), (1, .ref (sf t 12 0)), (2, .int (nI c9)), (3, .ref (kk 2)), (4, .int (nI 1))] := hl
  refine lv_aload_n hx hb dX2_readMark_0 rfl (lv_at hl 0 rfl) ?_
  refine lv_aload_n hx hb dX2_readMark_1 rfl (lv_at hl 3 rfl) ?_
  refine RY.callV hZ hS S kv_X2_40 (c_X2_isWord l D cI cJ (sf t 34) τ mt ka kk vv v L X.2.2 hL hL120 (hXL) 2 (by decide)) hK (TW_tape hP) rfl ⟨Nat.le_of_ble_eq_true rfl, Nat.le_of_ble_eq_true rfl⟩ hl.1 rfl rfl (Nat.le_of_ble_eq_true rfl) (Nat.zero_le _) (Nat.zero_le _) dX2_readMark_2 ?_
  refine q_if_neB (tgt := 10) hx hb dX2_readMark_5 (by decide) (fun c_5 => ?_) (fun c_5 => ?_)
  · refine lv_aload_n hx hb dX2_readMark_10 rfl (lv_at hl 0 rfl) ?_
    refine WR.callV (w1 := TW cI cJ t f X.2.1 h (CS τ L (nx (τ 1) L X.2.2) (cV (τ 1) L X.2.2 v))) S kv_X2_31 (c_X2_stepS l D cI cJ (sf t 34) τ v L X.2.2 hL hL120 (hXL)) hK hP hD hS hA (_) (_) TW_cs TW_cs TT_fst rfl ⟨Nat.le_of_ble_eq_true rfl, Nat.le_of_ble_eq_true rfl⟩ hl.1 rfl rfl (Nat.le_of_ble_eq_true rfl) (Nat.zero_le _) (Nat.zero_le _) dX2_readMark_11 (fun H locs hP hD hS => ?_)
    refine W.eq (g2 := F0 m 14 ls []) rfl ?_
    refine lv_aload_n hx hb dX2_readMark_14 rfl (lv_at hl 0 rfl) ?_
    refine va_getsN hx hb hZ.1.1 hS hown (va_Nw.use rfl hZ.2.2.2.2.2) (fun _ h => h) dX2_readMark_15 ?_
    refine lv_iload hx hb dX2_readMark_18 (lv_at hl 4 rfl) ?_
    refine va_ti hx hb hZ.1.2.1 hS (i := nI 1) (v := .int (mst 1)) (vp_in_nI (by omega) (by decide)) (by rw [nI_clamp (by omega)]) dX2_readMark_20 ?_
    refine q_eqi (y := nI 5) (rfl) ?_
    refine RO.callV S kv_X2_81 (c_X2_isNumber l D cI cJ (sf t 34) τ (cV (τ 1) L X.2.2 v) L (nx (τ 1) L X.2.2) hL hL120 (nx_le (hXL)) 5 (by decide)) hK (TW_tape hP) rfl ⟨Nat.le_of_ble_eq_true rfl, Nat.le_of_ble_eq_true rfl⟩ hl.1 rfl rfl (Nat.le_of_ble_eq_true rfl) (Nat.zero_le _) (Nat.zero_le _) dX2_readMark_21 ?_
    refine q_if_neB (tgt := 29) hx hb dX2_readMark_24 (by decide) (fun c_24 => ?_) (fun c_24 => ?_)
    · refine lv_aload_n hx hb dX2_readMark_29 rfl (lv_at hl 1 rfl) ?_
      refine lv_iload hx hb dX2_readMark_30 (lv_at hl 4 rfl) ?_
      refine RO.callV S kv_X2_88 (c_X0_marksOf_1 l D cI cJ (sf t 12) X.2.1) hK (TW_trial hP) rfl ⟨Nat.le_of_ble_eq_true rfl, Nat.le_of_ble_eq_true rfl⟩ hl.1 rfl rfl (Nat.le_of_ble_eq_true rfl) (Nat.zero_le _) (Nat.zero_le _) dX2_readMark_32 ?_
      refine lv_iload_n hx hb dX2_readMark_35 rfl (lv_at hl 2 rfl) ?_
      refine lv_aload_n hx hb dX2_readMark_36 rfl (lv_at hl 0 rfl) ?_
      refine g22_value S hK (TW_tape hP) dX2_readMark_37 ?_
      refine q_eqi (y := nI (tV (τ 1) L (nx (τ 1) L X.2.2))) (cV_le c_24 (by decide)) ?_
      refine ss_home (w1 := TW cI cJ t f (fu X.2.1 c9 1 (nI (tV (τ 1) L (nx (τ 1) L X.2.2)))) h (CS τ L (nx (τ 1) L X.2.2) (cV (τ 1) L X.2.2 v))) S hK hP hD hS TW_s2 (j := c9) (by omega) TW_s2 dX2_readMark_40 (fun H locs hP hD hS => ?_)
      refine lv_aload_n hx hb dX2_readMark_41 rfl (lv_at hl 0 rfl) ?_
      refine WR.callV (w1 := TW cI cJ t f (fu X.2.1 c9 1 (nI (tV (τ 1) L (nx (τ 1) L X.2.2)))) h (CS τ L (nx (τ 1) L (nx (τ 1) L X.2.2)) (cV (τ 1) L (nx (τ 1) L X.2.2) (cV (τ 1) L X.2.2 v)))) S kv_X2_31 (c_X2_stepS l D cI cJ (sf t 34) τ (cV (τ 1) L X.2.2 v) L (nx (τ 1) L X.2.2) hL hL120 (nx_le (hXL))) hK hP hD hS hA (_) (_) TW_cs TW_cs TT_fst rfl ⟨Nat.le_of_ble_eq_true rfl, Nat.le_of_ble_eq_true rfl⟩ hl.1 rfl rfl (Nat.le_of_ble_eq_true rfl) (Nat.zero_le _) (Nat.zero_le _) dX2_readMark_42 (fun H locs hP hD hS => ?_)
      refine W.eq (g2 := F0 m 45 ls []) rfl ?_
      refine lv_iconst (v := nI 1) hx hb dX2_readMark_45 (by decide) ?_
      exact WR.zret S hr hlk hP hS (by rw [pP_W hX1 c_5, pN_t c_24, vP_w hX1 c_5, vN_t c_24]; rfl) (bI_t (by rw [pP_W hX1 c_5, pN_t c_24])) dX2_readMark_46
    · refine lv_iconst (v := nI 0) hx hb dX2_readMark_27 (by decide) ?_
      exact WR.zret S hr hlk hP hS (by rw [pP_W hX1 c_5, pN_f c_24, vP_w hX1 c_5, vN_f c_24]) (bI_f (by rw [pP_W hX1 c_5, pN_f c_24]; exact Bool.false_ne_true)) dX2_readMark_28
  · refine lv_iconst (v := nI 1) hx hb dX2_readMark_8 (by decide) ?_
    exact WR.zret S hr hlk hP hS (by rw [pP_N c_5, vP_n c_5]) (bI_t (by rw [pP_N c_5]; exact hX1)) dX2_readMark_9
set_option maxRecDepth 100000 in
set_option maxHeartbeats 4000000 in
theorem c_X2_readMark_2 (l : Launch) (D : va_G) (cI cJ : ClassId) (t : Nat → Nat) (f h : Nat → Int32) (τ : Nat → Nat → Int32) (mt ka : Nat) (kk vv : Nat → Nat) (v : Int32) (L : Nat) (X : Bool × (Nat → Int32) × Nat) (hL : τ 0 1 = nI L) (hL120 : L ≤ 120) (hXL : X.2.2 ≤ L) (hX1 : X.1 = true) (c9 : Nat) (hc9 : c9 < 8) : WY mt ka kk vv l yX2_readMark cX2_readMark 5 (some .boolean) 5 D cI cJ (TW cI cJ t f X.2.1 h (CS τ L X.2.2 v)) [.ref (sf t 34 0), .ref (sf t 12 0), .int (nI c9), .ref (kk 3), .int (nI 2)] (some (.int (bI ((pP (τ 1) L X (csT 3) (16 + 7 * c9 + 2) 999).1 = true)))) (TW cI cJ t f ((pP (τ 1) L X (csT 3) (16 + 7 * c9 + 2) 999).2.1) h (CS τ L (pP (τ 1) L X (csT 3) (16 + 7 * c9 + 2) 999).2.2 (vP (τ 1) L v X (csT 3) 999))) := by
  refine WY.of (by decide) (Nat.le_of_ble_eq_true rfl) (fun p e s m below meth c ls A S hr hlk hK hP hD hS hA hZ hl => ?_)
  obtain ⟨hx, hb, hml, hown, hU⟩ := id S
  have hl : lv_has ls 5 [(0, .ref (sf t 34 0)), (1, .ref (sf t 12 0)), (2, .int (nI c9)), (3, .ref (kk 3)), (4, .int (nI 2))] := hl
  refine lv_aload_n hx hb dX2_readMark_0 rfl (lv_at hl 0 rfl) ?_
  refine lv_aload_n hx hb dX2_readMark_1 rfl (lv_at hl 3 rfl) ?_
  refine RY.callV hZ hS S kv_X2_40 (c_X2_isWord l D cI cJ (sf t 34) τ mt ka kk vv v L X.2.2 hL hL120 (hXL) 3 (by decide)) hK (TW_tape hP) rfl ⟨Nat.le_of_ble_eq_true rfl, Nat.le_of_ble_eq_true rfl⟩ hl.1 rfl rfl (Nat.le_of_ble_eq_true rfl) (Nat.zero_le _) (Nat.zero_le _) dX2_readMark_2 ?_
  refine q_if_neB (tgt := 10) hx hb dX2_readMark_5 (by decide) (fun c_5 => ?_) (fun c_5 => ?_)
  · refine lv_aload_n hx hb dX2_readMark_10 rfl (lv_at hl 0 rfl) ?_
    refine WR.callV (w1 := TW cI cJ t f X.2.1 h (CS τ L (nx (τ 1) L X.2.2) (cV (τ 1) L X.2.2 v))) S kv_X2_31 (c_X2_stepS l D cI cJ (sf t 34) τ v L X.2.2 hL hL120 (hXL)) hK hP hD hS hA (_) (_) TW_cs TW_cs TT_fst rfl ⟨Nat.le_of_ble_eq_true rfl, Nat.le_of_ble_eq_true rfl⟩ hl.1 rfl rfl (Nat.le_of_ble_eq_true rfl) (Nat.zero_le _) (Nat.zero_le _) dX2_readMark_11 (fun H locs hP hD hS => ?_)
    refine W.eq (g2 := F0 m 14 ls []) rfl ?_
    refine lv_aload_n hx hb dX2_readMark_14 rfl (lv_at hl 0 rfl) ?_
    refine va_getsN hx hb hZ.1.1 hS hown (va_Nw.use rfl hZ.2.2.2.2.2) (fun _ h => h) dX2_readMark_15 ?_
    refine lv_iload hx hb dX2_readMark_18 (lv_at hl 4 rfl) ?_
    refine va_ti hx hb hZ.1.2.1 hS (i := nI 2) (v := .int (mst 2)) (vp_in_nI (by omega) (by decide)) (by rw [nI_clamp (by omega)]) dX2_readMark_20 ?_
    refine q_eqi (y := nI 999) (rfl) ?_
    refine RO.callV S kv_X2_81 (c_X2_isNumber l D cI cJ (sf t 34) τ (cV (τ 1) L X.2.2 v) L (nx (τ 1) L X.2.2) hL hL120 (nx_le (hXL)) 999 (by decide)) hK (TW_tape hP) rfl ⟨Nat.le_of_ble_eq_true rfl, Nat.le_of_ble_eq_true rfl⟩ hl.1 rfl rfl (Nat.le_of_ble_eq_true rfl) (Nat.zero_le _) (Nat.zero_le _) dX2_readMark_21 ?_
    refine q_if_neB (tgt := 29) hx hb dX2_readMark_24 (by decide) (fun c_24 => ?_) (fun c_24 => ?_)
    · refine lv_aload_n hx hb dX2_readMark_29 rfl (lv_at hl 1 rfl) ?_
      refine lv_iload hx hb dX2_readMark_30 (lv_at hl 4 rfl) ?_
      refine RO.callV S kv_X2_88 (c_X0_marksOf_2 l D cI cJ (sf t 12) X.2.1) hK (TW_trial hP) rfl ⟨Nat.le_of_ble_eq_true rfl, Nat.le_of_ble_eq_true rfl⟩ hl.1 rfl rfl (Nat.le_of_ble_eq_true rfl) (Nat.zero_le _) (Nat.zero_le _) dX2_readMark_32 ?_
      refine lv_iload_n hx hb dX2_readMark_35 rfl (lv_at hl 2 rfl) ?_
      refine lv_aload_n hx hb dX2_readMark_36 rfl (lv_at hl 0 rfl) ?_
      refine g22_value S hK (TW_tape hP) dX2_readMark_37 ?_
      refine q_eqi (y := nI (tV (τ 1) L (nx (τ 1) L X.2.2))) (cV_le c_24 (by decide)) ?_
      refine ss_peal (w1 := TW cI cJ t f (fu X.2.1 c9 2 (nI (tV (τ 1) L (nx (τ 1) L X.2.2)))) h (CS τ L (nx (τ 1) L X.2.2) (cV (τ 1) L X.2.2 v))) S hK hP hD hS TW_s2 (j := c9) (by omega) TW_s2 dX2_readMark_40 (fun H locs hP hD hS => ?_)
      refine lv_aload_n hx hb dX2_readMark_41 rfl (lv_at hl 0 rfl) ?_
      refine WR.callV (w1 := TW cI cJ t f (fu X.2.1 c9 2 (nI (tV (τ 1) L (nx (τ 1) L X.2.2)))) h (CS τ L (nx (τ 1) L (nx (τ 1) L X.2.2)) (cV (τ 1) L (nx (τ 1) L X.2.2) (cV (τ 1) L X.2.2 v)))) S kv_X2_31 (c_X2_stepS l D cI cJ (sf t 34) τ (cV (τ 1) L X.2.2 v) L (nx (τ 1) L X.2.2) hL hL120 (nx_le (hXL))) hK hP hD hS hA (_) (_) TW_cs TW_cs TT_fst rfl ⟨Nat.le_of_ble_eq_true rfl, Nat.le_of_ble_eq_true rfl⟩ hl.1 rfl rfl (Nat.le_of_ble_eq_true rfl) (Nat.zero_le _) (Nat.zero_le _) dX2_readMark_42 (fun H locs hP hD hS => ?_)
      refine W.eq (g2 := F0 m 45 ls []) rfl ?_
      refine lv_iconst (v := nI 1) hx hb dX2_readMark_45 (by decide) ?_
      exact WR.zret S hr hlk hP hS (by rw [pP_W hX1 c_5, pN_t c_24, vP_w hX1 c_5, vN_t c_24]; rfl) (bI_t (by rw [pP_W hX1 c_5, pN_t c_24])) dX2_readMark_46
    · refine lv_iconst (v := nI 0) hx hb dX2_readMark_27 (by decide) ?_
      exact WR.zret S hr hlk hP hS (by rw [pP_W hX1 c_5, pN_f c_24, vP_w hX1 c_5, vN_f c_24]) (bI_f (by rw [pP_W hX1 c_5, pN_f c_24]; exact Bool.false_ne_true)) dX2_readMark_28
  · refine lv_iconst (v := nI 1) hx hb dX2_readMark_8 (by decide) ?_
    exact WR.zret S hr hlk hP hS (by rw [pP_N c_5, vP_n c_5]) (bI_t (by rw [pP_N c_5]; exact hX1)) dX2_readMark_9
set_option maxRecDepth 100000 in
set_option maxHeartbeats 4000000 in
theorem c_X2_readMark_3 (l : Launch) (D : va_G) (cI cJ : ClassId) (t : Nat → Nat) (f h : Nat → Int32) (τ : Nat → Nat → Int32) (mt ka : Nat) (kk vv : Nat → Nat) (v : Int32) (L : Nat) (X : Bool × (Nat → Int32) × Nat) (hL : τ 0 1 = nI L) (hL120 : L ≤ 120) (hXL : X.2.2 ≤ L) (hX1 : X.1 = true) (c9 : Nat) (hc9 : c9 < 8) : WY mt ka kk vv l yX2_readMark cX2_readMark 5 (some .boolean) 5 D cI cJ (TW cI cJ t f X.2.1 h (CS τ L X.2.2 v)) [.ref (sf t 34 0), .ref (sf t 12 0), .int (nI c9), .ref (kk 4), .int (nI 3)] (some (.int (bI ((pP (τ 1) L X (csT 4) (16 + 7 * c9 + 3) 11).1 = true)))) (TW cI cJ t f ((pP (τ 1) L X (csT 4) (16 + 7 * c9 + 3) 11).2.1) h (CS τ L (pP (τ 1) L X (csT 4) (16 + 7 * c9 + 3) 11).2.2 (vP (τ 1) L v X (csT 4) 11))) := by
  refine WY.of (by decide) (Nat.le_of_ble_eq_true rfl) (fun p e s m below meth c ls A S hr hlk hK hP hD hS hA hZ hl => ?_)
  obtain ⟨hx, hb, hml, hown, hU⟩ := id S
  have hl : lv_has ls 5 [(0, .ref (sf t 34 0)), (1, .ref (sf t 12 0)), (2, .int (nI c9)), (3, .ref (kk 4)), (4, .int (nI 3))] := hl
  refine lv_aload_n hx hb dX2_readMark_0 rfl (lv_at hl 0 rfl) ?_
  refine lv_aload_n hx hb dX2_readMark_1 rfl (lv_at hl 3 rfl) ?_
  refine RY.callV hZ hS S kv_X2_40 (c_X2_isWord l D cI cJ (sf t 34) τ mt ka kk vv v L X.2.2 hL hL120 (hXL) 4 (by decide)) hK (TW_tape hP) rfl ⟨Nat.le_of_ble_eq_true rfl, Nat.le_of_ble_eq_true rfl⟩ hl.1 rfl rfl (Nat.le_of_ble_eq_true rfl) (Nat.zero_le _) (Nat.zero_le _) dX2_readMark_2 ?_
  refine q_if_neB (tgt := 10) hx hb dX2_readMark_5 (by decide) (fun c_5 => ?_) (fun c_5 => ?_)
  · refine lv_aload_n hx hb dX2_readMark_10 rfl (lv_at hl 0 rfl) ?_
    refine WR.callV (w1 := TW cI cJ t f X.2.1 h (CS τ L (nx (τ 1) L X.2.2) (cV (τ 1) L X.2.2 v))) S kv_X2_31 (c_X2_stepS l D cI cJ (sf t 34) τ v L X.2.2 hL hL120 (hXL)) hK hP hD hS hA (_) (_) TW_cs TW_cs TT_fst rfl ⟨Nat.le_of_ble_eq_true rfl, Nat.le_of_ble_eq_true rfl⟩ hl.1 rfl rfl (Nat.le_of_ble_eq_true rfl) (Nat.zero_le _) (Nat.zero_le _) dX2_readMark_11 (fun H locs hP hD hS => ?_)
    refine W.eq (g2 := F0 m 14 ls []) rfl ?_
    refine lv_aload_n hx hb dX2_readMark_14 rfl (lv_at hl 0 rfl) ?_
    refine va_getsN hx hb hZ.1.1 hS hown (va_Nw.use rfl hZ.2.2.2.2.2) (fun _ h => h) dX2_readMark_15 ?_
    refine lv_iload hx hb dX2_readMark_18 (lv_at hl 4 rfl) ?_
    refine va_ti hx hb hZ.1.2.1 hS (i := nI 3) (v := .int (mst 3)) (vp_in_nI (by omega) (by decide)) (by rw [nI_clamp (by omega)]) dX2_readMark_20 ?_
    refine q_eqi (y := nI 11) (rfl) ?_
    refine RO.callV S kv_X2_81 (c_X2_isNumber l D cI cJ (sf t 34) τ (cV (τ 1) L X.2.2 v) L (nx (τ 1) L X.2.2) hL hL120 (nx_le (hXL)) 11 (by decide)) hK (TW_tape hP) rfl ⟨Nat.le_of_ble_eq_true rfl, Nat.le_of_ble_eq_true rfl⟩ hl.1 rfl rfl (Nat.le_of_ble_eq_true rfl) (Nat.zero_le _) (Nat.zero_le _) dX2_readMark_21 ?_
    refine q_if_neB (tgt := 29) hx hb dX2_readMark_24 (by decide) (fun c_24 => ?_) (fun c_24 => ?_)
    · refine lv_aload_n hx hb dX2_readMark_29 rfl (lv_at hl 1 rfl) ?_
      refine lv_iload hx hb dX2_readMark_30 (lv_at hl 4 rfl) ?_
      refine RO.callV S kv_X2_88 (c_X0_marksOf_3 l D cI cJ (sf t 12) X.2.1) hK (TW_trial hP) rfl ⟨Nat.le_of_ble_eq_true rfl, Nat.le_of_ble_eq_true rfl⟩ hl.1 rfl rfl (Nat.le_of_ble_eq_true rfl) (Nat.zero_le _) (Nat.zero_le _) dX2_readMark_32 ?_
      refine lv_iload_n hx hb dX2_readMark_35 rfl (lv_at hl 2 rfl) ?_
      refine lv_aload_n hx hb dX2_readMark_36 rfl (lv_at hl 0 rfl) ?_
      refine g22_value S hK (TW_tape hP) dX2_readMark_37 ?_
      refine q_eqi (y := nI (tV (τ 1) L (nx (τ 1) L X.2.2))) (cV_le c_24 (by decide)) ?_
      refine ss_pitch (w1 := TW cI cJ t f (fu X.2.1 c9 3 (nI (tV (τ 1) L (nx (τ 1) L X.2.2)))) h (CS τ L (nx (τ 1) L X.2.2) (cV (τ 1) L X.2.2 v))) S hK hP hD hS TW_s2 (j := c9) (by omega) TW_s2 dX2_readMark_40 (fun H locs hP hD hS => ?_)
      refine lv_aload_n hx hb dX2_readMark_41 rfl (lv_at hl 0 rfl) ?_
      refine WR.callV (w1 := TW cI cJ t f (fu X.2.1 c9 3 (nI (tV (τ 1) L (nx (τ 1) L X.2.2)))) h (CS τ L (nx (τ 1) L (nx (τ 1) L X.2.2)) (cV (τ 1) L (nx (τ 1) L X.2.2) (cV (τ 1) L X.2.2 v)))) S kv_X2_31 (c_X2_stepS l D cI cJ (sf t 34) τ (cV (τ 1) L X.2.2 v) L (nx (τ 1) L X.2.2) hL hL120 (nx_le (hXL))) hK hP hD hS hA (_) (_) TW_cs TW_cs TT_fst rfl ⟨Nat.le_of_ble_eq_true rfl, Nat.le_of_ble_eq_true rfl⟩ hl.1 rfl rfl (Nat.le_of_ble_eq_true rfl) (Nat.zero_le _) (Nat.zero_le _) dX2_readMark_42 (fun H locs hP hD hS => ?_)
      refine W.eq (g2 := F0 m 45 ls []) rfl ?_
      refine lv_iconst (v := nI 1) hx hb dX2_readMark_45 (by decide) ?_
      exact WR.zret S hr hlk hP hS (by rw [pP_W hX1 c_5, pN_t c_24, vP_w hX1 c_5, vN_t c_24]; rfl) (bI_t (by rw [pP_W hX1 c_5, pN_t c_24])) dX2_readMark_46
    · refine lv_iconst (v := nI 0) hx hb dX2_readMark_27 (by decide) ?_
      exact WR.zret S hr hlk hP hS (by rw [pP_W hX1 c_5, pN_f c_24, vP_w hX1 c_5, vN_f c_24]) (bI_f (by rw [pP_W hX1 c_5, pN_f c_24]; exact Bool.false_ne_true)) dX2_readMark_28
  · refine lv_iconst (v := nI 1) hx hb dX2_readMark_8 (by decide) ?_
    exact WR.zret S hr hlk hP hS (by rw [pP_N c_5, vP_n c_5]) (bI_t (by rw [pP_N c_5]; exact hX1)) dX2_readMark_9
set_option maxRecDepth 100000 in
set_option maxHeartbeats 4000000 in
theorem c_X2_readMark_4 (l : Launch) (D : va_G) (cI cJ : ClassId) (t : Nat → Nat) (f h : Nat → Int32) (τ : Nat → Nat → Int32) (mt ka : Nat) (kk vv : Nat → Nat) (v : Int32) (L : Nat) (X : Bool × (Nat → Int32) × Nat) (hL : τ 0 1 = nI L) (hL120 : L ≤ 120) (hXL : X.2.2 ≤ L) (hX1 : X.1 = true) (c9 : Nat) (hc9 : c9 < 8) : WY mt ka kk vv l yX2_readMark cX2_readMark 5 (some .boolean) 5 D cI cJ (TW cI cJ t f X.2.1 h (CS τ L X.2.2 v)) [.ref (sf t 34 0), .ref (sf t 12 0), .int (nI c9), .ref (kk 5), .int (nI 4)] (some (.int (bI ((pP (τ 1) L X (csT 5) (16 + 7 * c9 + 4) 999).1 = true)))) (TW cI cJ t f ((pP (τ 1) L X (csT 5) (16 + 7 * c9 + 4) 999).2.1) h (CS τ L (pP (τ 1) L X (csT 5) (16 + 7 * c9 + 4) 999).2.2 (vP (τ 1) L v X (csT 5) 999))) := by
  refine WY.of (by decide) (Nat.le_of_ble_eq_true rfl) (fun p e s m below meth c ls A S hr hlk hK hP hD hS hA hZ hl => ?_)
  obtain ⟨hx, hb, hml, hown, hU⟩ := id S
  have hl : lv_has ls 5 [(0, .ref (sf t 34 0)), (1, .ref (sf t 12 0)), (2, .int (nI c9)), (3, .ref (kk 5)), (4, .int (nI 4))] := hl
  refine lv_aload_n hx hb dX2_readMark_0 rfl (lv_at hl 0 rfl) ?_
  refine lv_aload_n hx hb dX2_readMark_1 rfl (lv_at hl 3 rfl) ?_
  refine RY.callV hZ hS S kv_X2_40 (c_X2_isWord l D cI cJ (sf t 34) τ mt ka kk vv v L X.2.2 hL hL120 (hXL) 5 (by decide)) hK (TW_tape hP) rfl ⟨Nat.le_of_ble_eq_true rfl, Nat.le_of_ble_eq_true rfl⟩ hl.1 rfl rfl (Nat.le_of_ble_eq_true rfl) (Nat.zero_le _) (Nat.zero_le _) dX2_readMark_2 ?_
  refine q_if_neB (tgt := 10) hx hb dX2_readMark_5 (by decide) (fun c_5 => ?_) (fun c_5 => ?_)
  · refine lv_aload_n hx hb dX2_readMark_10 rfl (lv_at hl 0 rfl) ?_
    refine WR.callV (w1 := TW cI cJ t f X.2.1 h (CS τ L (nx (τ 1) L X.2.2) (cV (τ 1) L X.2.2 v))) S kv_X2_31 (c_X2_stepS l D cI cJ (sf t 34) τ v L X.2.2 hL hL120 (hXL)) hK hP hD hS hA (_) (_) TW_cs TW_cs TT_fst rfl ⟨Nat.le_of_ble_eq_true rfl, Nat.le_of_ble_eq_true rfl⟩ hl.1 rfl rfl (Nat.le_of_ble_eq_true rfl) (Nat.zero_le _) (Nat.zero_le _) dX2_readMark_11 (fun H locs hP hD hS => ?_)
    refine W.eq (g2 := F0 m 14 ls []) rfl ?_
    refine lv_aload_n hx hb dX2_readMark_14 rfl (lv_at hl 0 rfl) ?_
    refine va_getsN hx hb hZ.1.1 hS hown (va_Nw.use rfl hZ.2.2.2.2.2) (fun _ h => h) dX2_readMark_15 ?_
    refine lv_iload hx hb dX2_readMark_18 (lv_at hl 4 rfl) ?_
    refine va_ti hx hb hZ.1.2.1 hS (i := nI 4) (v := .int (mst 4)) (vp_in_nI (by omega) (by decide)) (by rw [nI_clamp (by omega)]) dX2_readMark_20 ?_
    refine q_eqi (y := nI 999) (rfl) ?_
    refine RO.callV S kv_X2_81 (c_X2_isNumber l D cI cJ (sf t 34) τ (cV (τ 1) L X.2.2 v) L (nx (τ 1) L X.2.2) hL hL120 (nx_le (hXL)) 999 (by decide)) hK (TW_tape hP) rfl ⟨Nat.le_of_ble_eq_true rfl, Nat.le_of_ble_eq_true rfl⟩ hl.1 rfl rfl (Nat.le_of_ble_eq_true rfl) (Nat.zero_le _) (Nat.zero_le _) dX2_readMark_21 ?_
    refine q_if_neB (tgt := 29) hx hb dX2_readMark_24 (by decide) (fun c_24 => ?_) (fun c_24 => ?_)
    · refine lv_aload_n hx hb dX2_readMark_29 rfl (lv_at hl 1 rfl) ?_
      refine lv_iload hx hb dX2_readMark_30 (lv_at hl 4 rfl) ?_
      refine RO.callV S kv_X2_88 (c_X0_marksOf_4 l D cI cJ (sf t 12) X.2.1) hK (TW_trial hP) rfl ⟨Nat.le_of_ble_eq_true rfl, Nat.le_of_ble_eq_true rfl⟩ hl.1 rfl rfl (Nat.le_of_ble_eq_true rfl) (Nat.zero_le _) (Nat.zero_le _) dX2_readMark_32 ?_
      refine lv_iload_n hx hb dX2_readMark_35 rfl (lv_at hl 2 rfl) ?_
      refine lv_aload_n hx hb dX2_readMark_36 rfl (lv_at hl 0 rfl) ?_
      refine g22_value S hK (TW_tape hP) dX2_readMark_37 ?_
      refine q_eqi (y := nI (tV (τ 1) L (nx (τ 1) L X.2.2))) (cV_le c_24 (by decide)) ?_
      refine ss_hoops (w1 := TW cI cJ t f (fu X.2.1 c9 4 (nI (tV (τ 1) L (nx (τ 1) L X.2.2)))) h (CS τ L (nx (τ 1) L X.2.2) (cV (τ 1) L X.2.2 v))) S hK hP hD hS TW_s2 (j := c9) (by omega) TW_s2 dX2_readMark_40 (fun H locs hP hD hS => ?_)
      refine lv_aload_n hx hb dX2_readMark_41 rfl (lv_at hl 0 rfl) ?_
      refine WR.callV (w1 := TW cI cJ t f (fu X.2.1 c9 4 (nI (tV (τ 1) L (nx (τ 1) L X.2.2)))) h (CS τ L (nx (τ 1) L (nx (τ 1) L X.2.2)) (cV (τ 1) L (nx (τ 1) L X.2.2) (cV (τ 1) L X.2.2 v)))) S kv_X2_31 (c_X2_stepS l D cI cJ (sf t 34) τ (cV (τ 1) L X.2.2 v) L (nx (τ 1) L X.2.2) hL hL120 (nx_le (hXL))) hK hP hD hS hA (_) (_) TW_cs TW_cs TT_fst rfl ⟨Nat.le_of_ble_eq_true rfl, Nat.le_of_ble_eq_true rfl⟩ hl.1 rfl rfl (Nat.le_of_ble_eq_true rfl) (Nat.zero_le _) (Nat.zero_le _) dX2_readMark_42 (fun H locs hP hD hS => ?_)
      refine W.eq (g2 := F0 m 45 ls []) rfl ?_
      refine lv_iconst (v := nI 1) hx hb dX2_readMark_45 (by decide) ?_
      exact WR.zret S hr hlk hP hS (by rw [pP_W hX1 c_5, pN_t c_24, vP_w hX1 c_5, vN_t c_24]; rfl) (bI_t (by rw [pP_W hX1 c_5, pN_t c_24])) dX2_readMark_46
    · refine lv_iconst (v := nI 0) hx hb dX2_readMark_27 (by decide) ?_
      exact WR.zret S hr hlk hP hS (by rw [pP_W hX1 c_5, pN_f c_24, vP_w hX1 c_5, vN_f c_24]) (bI_f (by rw [pP_W hX1 c_5, pN_f c_24]; exact Bool.false_ne_true)) dX2_readMark_28
  · refine lv_iconst (v := nI 1) hx hb dX2_readMark_8 (by decide) ?_
    exact WR.zret S hr hlk hP hS (by rw [pP_N c_5, vP_n c_5]) (bI_t (by rw [pP_N c_5]; exact hX1)) dX2_readMark_9

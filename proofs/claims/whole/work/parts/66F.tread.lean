set_option maxRecDepth 100000 in
set_option maxHeartbeats 4000000 in
theorem c_X3_text_ok (l : Launch) (D : va_G) (cI cJ : ClassId) (t : Nat → Nat) (f g h : Nat → Int32) (τ : Nat → Nat → Int32) (mt ka : Nat) (kk vv : Nat → Nat) (n : Nat) (hI : Iv f n) (L : Nat) (hL : τ 0 1 = nI L) (hL120 : L ≤ 120) (hG : txG (τ 1) L f) : WY mt ka kk vv l yX3_text cX3_text 2 (some .int) 8 D cI cJ (TW cI cJ t f g h τ) [.ref (t 0)] (some (.int (nI ((txA (τ 1) L f).2)))) (TW cI cJ t ((txA (τ 1) L f).1.2.1) ((txA (τ 1) L f).1.2.1) h (m0 (CS τ L (txA (τ 1) L f).1.2.2 (vA (τ 1) L (τ 0 5) f)) 1 (nI 0))) := by
  have hct := txA_ct (b := τ 1) (L := L) (f := f)
  have htl := txA_le (b := τ 1) (L := L) (f := f)
  refine WY.of (by decide) (Nat.le_of_ble_eq_true rfl) (fun p e s m below meth c ls A S hr hlk hK hP hD hS hA hZ hl => ?_)
  obtain ⟨hx, hb, hml, hown, hU⟩ := id S
  have hl : lv_has ls 2 [(0, .ref (t 0))] := hl
  refine lv_aload_n hx hb dX3_text_0 rfl (lv_at hl 0 rfl) ?_
  refine g3_trial S hK hP dX3_text_1 ?_
  refine lv_aload_n hx hb dX3_text_4 rfl (lv_at hl 0 rfl) ?_
  refine g3_live S hK hP dX3_text_5 ?_
  refine WR.callVq 11 (w1 := TW cI cJ t f f h τ) S kv_X3_125 (c_X0_takeFrom_2_1 l D cI cJ (sf t 1) (sf t 12) (sf t 23) f g h) hK hP hD hS hA _ _ TW_s123 TW_s123 PW3_fst rfl ⟨Nat.le_of_ble_eq_true rfl, Nat.le_of_ble_eq_true rfl⟩ hl.1 rfl rfl (Nat.le_of_ble_eq_true rfl) (Nat.zero_le _) (Nat.zero_le _) dX3_text_8 (fun H locs hP hD hS => ?_)
  refine W.eq (g2 := F0 m 11 ls []) rfl ?_
  refine lv_aload_n hx hb dX3_text_11 rfl (lv_at hl 0 rfl) ?_
  refine g3_tape S hK hP dX3_text_12 ?_
  refine lv_aload_n hx hb dX3_text_15 rfl (lv_at hl 0 rfl) ?_
  refine g3_trial S hK hP dX3_text_16 ?_
  refine WY.callV 34 (w1 := TW cI cJ t f ((txA (τ 1) L f).1.2.1) h (CS τ L ((txA (τ 1) L f).1.2.2) (vA (τ 1) L (τ 0 5) f))) hZ S kv_X3_178 (c_X2_readInto_ok l D cI cJ t f f h τ mt ka kk vv n hI L hL hL120 hG) hK hP hD hS hA [] [] (List.append_nil _).symm (List.append_nil _).symm TW_fst rfl ⟨Nat.le_of_ble_eq_true rfl, Nat.le_of_ble_eq_true rfl⟩ hl.1 rfl rfl (Nat.le_of_ble_eq_true rfl) (Nat.zero_le _) (Nat.zero_le _) dX3_text_19 (fun H locs hP hD hS => ?_)
  refine lv_istore_n (lv' := [(1, .int (nI ((txA (τ 1) L f).2))), (0, .ref (t 0))]) hx hb dX3_text_22 rfl hl (by decide) rfl (fun ls hl => ?_)
  refine lv_aload_n hx hb dX3_text_23 rfl (lv_at hl 1 rfl) ?_
  refine g3_tape S hK hP dX3_text_24 ?_
  refine lv_iconst (v := nI 0) hx hb dX3_text_27 (by decide) ?_
  refine p3_length S hK hP hD hS dX3_text_28 (fun H locs hP hD hS => ?_)
  refine lv_iload_n hx hb dX3_text_31 rfl (lv_at hl 0 rfl) ?_
  refine q_if_ltN (tgt := 46) (a := (txA (τ 1) L f).2) hx hb dX3_text_32 (by decide) (by omega) ?_
  refine lv_aload_n hx hb dX3_text_35 rfl (lv_at hl 1 rfl) ?_
  refine g3_live S hK hP dX3_text_36 ?_
  refine lv_aload_n hx hb dX3_text_39 rfl (lv_at hl 1 rfl) ?_
  refine g3_trial S hK hP dX3_text_40 ?_
  refine WR.callVq 0 (w1 := TW cI cJ t ((txA (τ 1) L f).1.2.1) ((txA (τ 1) L f).1.2.1) h (m0 (CS τ L ((txA (τ 1) L f).1.2.2) (vA (τ 1) L (τ 0 5) f)) 1 (nI 0))) S kv_X3_125 (c_X0_takeFrom_1_2 l D cI cJ (sf t 1) (sf t 12) (sf t 23) f ((txA (τ 1) L f).1.2.1) h) hK hP hD hS hA _ _ TW_s123 TW_s123 PW3_fst rfl ⟨Nat.le_of_ble_eq_true rfl, Nat.le_of_ble_eq_true rfl⟩ hl.1 rfl rfl (Nat.le_of_ble_eq_true rfl) (Nat.zero_le _) (Nat.zero_le _) dX3_text_43 (fun H locs hP hD hS => ?_)
  refine W.eq (g2 := F0 m 46 ls []) rfl ?_
  refine lv_iload_n hx hb dX3_text_46 rfl (lv_at hl 0 rfl) ?_
  exact WR.iret S hr hlk hP hS (rfl) rfl dX3_text_47
set_option maxRecDepth 100000 in
set_option maxHeartbeats 4000000 in
theorem c_X3_text_no (l : Launch) (D : va_G) (cI cJ : ClassId) (t : Nat → Nat) (f g h : Nat → Int32) (τ : Nat → Nat → Int32) (mt ka : Nat) (kk vv : Nat → Nat) (n : Nat) (hI : Iv f n) (L : Nat) (hL : τ 0 1 = nI L) (hL120 : L ≤ 120) (hG : ¬ txG (τ 1) L f) : WY mt ka kk vv l yX3_text cX3_text 2 (some .int) 8 D cI cJ (TW cI cJ t f g h τ) [.ref (t 0)] (some (.int ((-1) - nI (txA (τ 1) L f).1.2.2))) (TW cI cJ t f ((txA (τ 1) L f).1.2.1) h (m0 (CS τ L (txA (τ 1) L f).1.2.2 (vA (τ 1) L (τ 0 5) f)) 1 (nI 0))) := by
  have hct := txA_ct (b := τ 1) (L := L) (f := f)
  have htl := txA_le (b := τ 1) (L := L) (f := f)
  refine WY.of (by decide) (Nat.le_of_ble_eq_true rfl) (fun p e s m below meth c ls A S hr hlk hK hP hD hS hA hZ hl => ?_)
  obtain ⟨hx, hb, hml, hown, hU⟩ := id S
  have hl : lv_has ls 2 [(0, .ref (t 0))] := hl
  refine lv_aload_n hx hb dX3_text_0 rfl (lv_at hl 0 rfl) ?_
  refine g3_trial S hK hP dX3_text_1 ?_
  refine lv_aload_n hx hb dX3_text_4 rfl (lv_at hl 0 rfl) ?_
  refine g3_live S hK hP dX3_text_5 ?_
  refine WR.callVq 11 (w1 := TW cI cJ t f f h τ) S kv_X3_125 (c_X0_takeFrom_2_1 l D cI cJ (sf t 1) (sf t 12) (sf t 23) f g h) hK hP hD hS hA _ _ TW_s123 TW_s123 PW3_fst rfl ⟨Nat.le_of_ble_eq_true rfl, Nat.le_of_ble_eq_true rfl⟩ hl.1 rfl rfl (Nat.le_of_ble_eq_true rfl) (Nat.zero_le _) (Nat.zero_le _) dX3_text_8 (fun H locs hP hD hS => ?_)
  refine W.eq (g2 := F0 m 11 ls []) rfl ?_
  refine lv_aload_n hx hb dX3_text_11 rfl (lv_at hl 0 rfl) ?_
  refine g3_tape S hK hP dX3_text_12 ?_
  refine lv_aload_n hx hb dX3_text_15 rfl (lv_at hl 0 rfl) ?_
  refine g3_trial S hK hP dX3_text_16 ?_
  refine WY.callV 34 (w1 := TW cI cJ t f ((txA (τ 1) L f).1.2.1) h (CS τ L ((txA (τ 1) L f).1.2.2) (vA (τ 1) L (τ 0 5) f))) hZ S kv_X3_178 (c_X2_readInto_no l D cI cJ t f f h τ mt ka kk vv n hI L hL hL120 hG) hK hP hD hS hA [] [] (List.append_nil _).symm (List.append_nil _).symm TW_fst rfl ⟨Nat.le_of_ble_eq_true rfl, Nat.le_of_ble_eq_true rfl⟩ hl.1 rfl rfl (Nat.le_of_ble_eq_true rfl) (Nat.zero_le _) (Nat.zero_le _) dX3_text_19 (fun H locs hP hD hS => ?_)
  refine lv_istore_n (lv' := [(1, .int ((-1) - nI (txA (τ 1) L f).1.2.2)), (0, .ref (t 0))]) hx hb dX3_text_22 rfl hl (by decide) rfl (fun ls hl => ?_)
  refine lv_aload_n hx hb dX3_text_23 rfl (lv_at hl 1 rfl) ?_
  refine g3_tape S hK hP dX3_text_24 ?_
  refine lv_iconst (v := nI 0) hx hb dX3_text_27 (by decide) ?_
  refine p3_length S hK hP hD hS dX3_text_28 (fun H locs hP hD hS => ?_)
  refine lv_iload_n hx hb dX3_text_31 rfl (lv_at hl 0 rfl) ?_
  refine lv_if_lt (tgt := 46) hx hb dX3_text_32 (by decide) (fun c_32 => ?_) (fun c_32 => ?_)
  · refine lv_iload_n hx hb dX3_text_46 rfl (lv_at hl 0 rfl) ?_
    exact WR.iret S hr hlk hP hS (rfl) rfl dX3_text_47
  · exact absurd (m1_lt (by omega)) c_32

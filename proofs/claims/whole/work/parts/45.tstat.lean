def lbG (g f : Nat → Int32) (n k w u : Nat) : Nat → (Nat → Int32)
  | 0 => g
  | v + 1 => sGo (fu f k w (nI v)) n u
theorem lbP_0 {f : Nat → Int32} {n k w t v : Nat} (h : ¬ (lbP f n k w t v).2 < sLd (sGo (fu f k w (nI v)) n t) n k) : lbP f n k w t (v + 1) = lbP f n k w t v := if_neg h
theorem lbP_1 {f : Nat → Int32} {n k w t v : Nat} (h : (lbP f n k w t v).2 < sLd (sGo (fu f k w (nI v)) n t) n k) : lbP f n k w t (v + 1) = (v, sLd (sGo (fu f k w (nI v)) n t) n k) := if_pos h
set_option maxRecDepth 100000 in
set_option maxHeartbeats 4000000 in
theorem c_X3_change_ok0 (l : Launch) (D : va_G) (cI cJ : ClassId) (t : Nat → Nat) (f g h : Nat → Int32) (τ : Nat → Nat → Int32) (mt ka : Nat) (k : Nat) (v : Nat) (n : Nat) (hw : Wk f n) (hk : k < n) (hv : v ≤ 6) : WZ mt ka l yX3_change cX3_change 6 (some .int) 2 D cI cJ (TW cI cJ t f g h τ) [.ref (t 0), .int (nI k), .int (nI 0), .int (nI v)] (some (.int (fi f k 0))) (TW cI cJ t (fu f k 0 (nI v)) g h τ) := by
  have h8 := hw.2.1
  refine WZ.of (by decide) (Nat.le_of_ble_eq_true rfl) (fun p e s m below meth c ls A S hr hlk hK hP hD hS hA hZ hl => ?_)
  obtain ⟨hx, hb, hml, hown, hU⟩ := id S
  have hl : lv_has ls 6 [(0, .ref (t 0)), (1, .int (nI k)), (2, .int (nI 0)), (3, .int (nI v))] := hl
  refine lv_aload_n hx hb dX3_change_0 rfl (lv_at hl 0 rfl) ?_
  refine lv_iload_n hx hb dX3_change_1 rfl (lv_at hl 1 rfl) ?_
  refine RO.callV S kv_X3_72 (c_X3_isCask l D cI cJ t f g h τ (nI k) n (hw)) hK hP rfl ⟨Nat.le_of_ble_eq_true rfl, Nat.le_of_ble_eq_true rfl⟩ hl.1 rfl rfl (Nat.le_of_ble_eq_true rfl) (Nat.zero_le _) (Nat.zero_le _) dX3_change_2 ?_
  refine q_if_eqB (tgt := 17) hx hb dX3_change_5 (by decide) (fun h => absurd (⟨nI_pos' (by omega), nI_lt (by omega) (by omega)⟩) h) (fun _ => ?_)
  refine lv_iload_n hx hb dX3_change_8 rfl (lv_at hl 2 rfl) ?_
  refine lv_bipush (v := nI 6) hx hb dX3_change_9 (by decide) ?_
  refine RO.callS S ks_X3_44 (c_X3_isWithin l D cI cJ t f g h τ (nI 0) (nI 6)) hK hP ⟨Nat.le_of_ble_eq_true rfl, Nat.le_of_ble_eq_true rfl⟩ hl.1 rfl rfl (Nat.le_of_ble_eq_true rfl) (Nat.zero_le _) (Nat.zero_le _) dX3_change_11 ?_
  refine q_if_neB (tgt := 23) hx hb dX3_change_14 (by decide) (fun _ => ?_) (fun h => absurd (⟨nI_le (by omega) (by omega), nI_le (by omega) (by omega)⟩) h)
  refine lv_iload_n hx hb dX3_change_23 rfl (lv_at hl 3 rfl) ?_
  refine va_gets hx hb hZ.1 hS hown (hU _ mF_X3_89) (fun _ h => h) dX3_change_24 ?_
  refine lv_iload_n hx hb dX3_change_27 rfl (lv_at hl 2 rfl) ?_
  refine va_ti hx hb hZ.2.1 hS (i := nI 0) (v := .int (mst 0)) (vp_in_nI (by omega) (by decide)) (by rw [nI_clamp (by omega)]) dX3_change_28 ?_
  refine q_eqi (y := nI 6) (rfl) ?_
  refine RO.callS S ks_X3_44 (c_X3_isWithin l D cI cJ t f g h τ (nI v) (nI 6)) hK hP ⟨Nat.le_of_ble_eq_true rfl, Nat.le_of_ble_eq_true rfl⟩ hl.1 rfl rfl (Nat.le_of_ble_eq_true rfl) (Nat.zero_le _) (Nat.zero_le _) dX3_change_29 ?_
  refine q_if_neB (tgt := 41) hx hb dX3_change_32 (by decide) (fun _ => ?_) (fun h => absurd (⟨nI_le (by omega) (by omega), nI_le (by omega) (by omega)⟩) h)
  refine lv_aload_n hx hb dX3_change_41 rfl (lv_at hl 0 rfl) ?_
  refine g3_live S hK hP dX3_change_42 ?_
  refine lv_iload_n hx hb dX3_change_45 rfl (lv_at hl 2 rfl) ?_
  refine RO.callV S kv_X3_76 (c_X0_marksOf_0 l D cI cJ (sf t 1) f) hK (TW_live hP) rfl ⟨Nat.le_of_ble_eq_true rfl, Nat.le_of_ble_eq_true rfl⟩ hl.1 rfl rfl (Nat.le_of_ble_eq_true rfl) (Nat.zero_le _) (Nat.zero_le _) dX3_change_46 ?_
  refine lv_astore (lv' := [(4, .ref (sf t 1 3)), (0, .ref (t 0)), (1, .int (nI k)), (2, .int (nI 0)), (3, .int (nI v))]) hx hb dX3_change_49 hl (by decide) rfl (fun ls hl => ?_)
  refine lv_aload hx hb dX3_change_51 (lv_at hl 0 rfl) ?_
  refine lv_iload_n hx hb dX3_change_53 rfl (lv_at hl 2 rfl) ?_
  refine l0_kind S hK (TW_live hP) (j := k) (by omega) dX3_change_54 ?_
  refine lv_istore (lv' := [(5, .int (fi f k 0)), (4, .ref (sf t 1 3)), (0, .ref (t 0)), (1, .int (nI k)), (2, .int (nI 0)), (3, .int (nI v))]) hx hb dX3_change_55 hl (by decide) rfl (fun ls hl => ?_)
  refine lv_aload hx hb dX3_change_57 (lv_at hl 1 rfl) ?_
  refine lv_iload_n hx hb dX3_change_59 rfl (lv_at hl 3 rfl) ?_
  refine lv_iload_n hx hb dX3_change_60 rfl (lv_at hl 5 rfl) ?_
  refine ss_kind (w1 := TW cI cJ t (fu f k 0 (nI v)) g h τ) S hK hP hD hS TW_s1 (j := k) (by omega) TW_s1 dX3_change_61 (fun H locs hP hD hS => ?_)
  refine lv_iload hx hb dX3_change_62 (lv_at hl 0 rfl) ?_
  exact WR.iret S hr hlk hP hS (rfl) rfl dX3_change_64
set_option maxRecDepth 100000 in
set_option maxHeartbeats 4000000 in
theorem c_X3_change_ok1 (l : Launch) (D : va_G) (cI cJ : ClassId) (t : Nat → Nat) (f g h : Nat → Int32) (τ : Nat → Nat → Int32) (mt ka : Nat) (k : Nat) (v : Nat) (n : Nat) (hw : Wk f n) (hk : k < n) (hv : v ≤ 5) : WZ mt ka l yX3_change cX3_change 6 (some .int) 2 D cI cJ (TW cI cJ t f g h τ) [.ref (t 0), .int (nI k), .int (nI 1), .int (nI v)] (some (.int (fi f k 1))) (TW cI cJ t (fu f k 1 (nI v)) g h τ) := by
  have h8 := hw.2.1
  refine WZ.of (by decide) (Nat.le_of_ble_eq_true rfl) (fun p e s m below meth c ls A S hr hlk hK hP hD hS hA hZ hl => ?_)
  obtain ⟨hx, hb, hml, hown, hU⟩ := id S
  have hl : lv_has ls 6 [(0, .ref (t 0)), (1, .int (nI k)), (2, .int (nI 1)), (3, .int (nI v))] := hl
  refine lv_aload_n hx hb dX3_change_0 rfl (lv_at hl 0 rfl) ?_
  refine lv_iload_n hx hb dX3_change_1 rfl (lv_at hl 1 rfl) ?_
  refine RO.callV S kv_X3_72 (c_X3_isCask l D cI cJ t f g h τ (nI k) n (hw)) hK hP rfl ⟨Nat.le_of_ble_eq_true rfl, Nat.le_of_ble_eq_true rfl⟩ hl.1 rfl rfl (Nat.le_of_ble_eq_true rfl) (Nat.zero_le _) (Nat.zero_le _) dX3_change_2 ?_
  refine q_if_eqB (tgt := 17) hx hb dX3_change_5 (by decide) (fun h => absurd (⟨nI_pos' (by omega), nI_lt (by omega) (by omega)⟩) h) (fun _ => ?_)
  refine lv_iload_n hx hb dX3_change_8 rfl (lv_at hl 2 rfl) ?_
  refine lv_bipush (v := nI 6) hx hb dX3_change_9 (by decide) ?_
  refine RO.callS S ks_X3_44 (c_X3_isWithin l D cI cJ t f g h τ (nI 1) (nI 6)) hK hP ⟨Nat.le_of_ble_eq_true rfl, Nat.le_of_ble_eq_true rfl⟩ hl.1 rfl rfl (Nat.le_of_ble_eq_true rfl) (Nat.zero_le _) (Nat.zero_le _) dX3_change_11 ?_
  refine q_if_neB (tgt := 23) hx hb dX3_change_14 (by decide) (fun _ => ?_) (fun h => absurd (⟨nI_le (by omega) (by omega), nI_le (by omega) (by omega)⟩) h)
  refine lv_iload_n hx hb dX3_change_23 rfl (lv_at hl 3 rfl) ?_
  refine va_gets hx hb hZ.1 hS hown (hU _ mF_X3_89) (fun _ h => h) dX3_change_24 ?_
  refine lv_iload_n hx hb dX3_change_27 rfl (lv_at hl 2 rfl) ?_
  refine va_ti hx hb hZ.2.1 hS (i := nI 1) (v := .int (mst 1)) (vp_in_nI (by omega) (by decide)) (by rw [nI_clamp (by omega)]) dX3_change_28 ?_
  refine q_eqi (y := nI 5) (rfl) ?_
  refine RO.callS S ks_X3_44 (c_X3_isWithin l D cI cJ t f g h τ (nI v) (nI 5)) hK hP ⟨Nat.le_of_ble_eq_true rfl, Nat.le_of_ble_eq_true rfl⟩ hl.1 rfl rfl (Nat.le_of_ble_eq_true rfl) (Nat.zero_le _) (Nat.zero_le _) dX3_change_29 ?_
  refine q_if_neB (tgt := 41) hx hb dX3_change_32 (by decide) (fun _ => ?_) (fun h => absurd (⟨nI_le (by omega) (by omega), nI_le (by omega) (by omega)⟩) h)
  refine lv_aload_n hx hb dX3_change_41 rfl (lv_at hl 0 rfl) ?_
  refine g3_live S hK hP dX3_change_42 ?_
  refine lv_iload_n hx hb dX3_change_45 rfl (lv_at hl 2 rfl) ?_
  refine RO.callV S kv_X3_76 (c_X0_marksOf_1 l D cI cJ (sf t 1) f) hK (TW_live hP) rfl ⟨Nat.le_of_ble_eq_true rfl, Nat.le_of_ble_eq_true rfl⟩ hl.1 rfl rfl (Nat.le_of_ble_eq_true rfl) (Nat.zero_le _) (Nat.zero_le _) dX3_change_46 ?_
  refine lv_astore (lv' := [(4, .ref (sf t 1 4)), (0, .ref (t 0)), (1, .int (nI k)), (2, .int (nI 1)), (3, .int (nI v))]) hx hb dX3_change_49 hl (by decide) rfl (fun ls hl => ?_)
  refine lv_aload hx hb dX3_change_51 (lv_at hl 0 rfl) ?_
  refine lv_iload_n hx hb dX3_change_53 rfl (lv_at hl 2 rfl) ?_
  refine l0_home S hK (TW_live hP) (j := k) (by omega) dX3_change_54 ?_
  refine lv_istore (lv' := [(5, .int (fi f k 1)), (4, .ref (sf t 1 4)), (0, .ref (t 0)), (1, .int (nI k)), (2, .int (nI 1)), (3, .int (nI v))]) hx hb dX3_change_55 hl (by decide) rfl (fun ls hl => ?_)
  refine lv_aload hx hb dX3_change_57 (lv_at hl 1 rfl) ?_
  refine lv_iload_n hx hb dX3_change_59 rfl (lv_at hl 3 rfl) ?_
  refine lv_iload_n hx hb dX3_change_60 rfl (lv_at hl 5 rfl) ?_
  refine ss_home (w1 := TW cI cJ t (fu f k 1 (nI v)) g h τ) S hK hP hD hS TW_s1 (j := k) (by omega) TW_s1 dX3_change_61 (fun H locs hP hD hS => ?_)
  refine lv_iload hx hb dX3_change_62 (lv_at hl 0 rfl) ?_
  exact WR.iret S hr hlk hP hS (rfl) rfl dX3_change_64
set_option maxRecDepth 100000 in
set_option maxHeartbeats 4000000 in
theorem c_X3_change_ok2 (l : Launch) (D : va_G) (cI cJ : ClassId) (t : Nat → Nat) (f g h : Nat → Int32) (τ : Nat → Nat → Int32) (mt ka : Nat) (k : Nat) (v : Nat) (n : Nat) (hw : Wk f n) (hk : k < n) (hv : v ≤ 999) : WZ mt ka l yX3_change cX3_change 6 (some .int) 2 D cI cJ (TW cI cJ t f g h τ) [.ref (t 0), .int (nI k), .int (nI 2), .int (nI v)] (some (.int (fi f k 2))) (TW cI cJ t (fu f k 2 (nI v)) g h τ) := by
  have h8 := hw.2.1
  refine WZ.of (by decide) (Nat.le_of_ble_eq_true rfl) (fun p e s m below meth c ls A S hr hlk hK hP hD hS hA hZ hl => ?_)
  obtain ⟨hx, hb, hml, hown, hU⟩ := id S
  have hl : lv_has ls 6 [(0, .ref (t 0)), (1, .int (nI k)), (2, .int (nI 2)), (3, .int (nI v))] := hl
  refine lv_aload_n hx hb dX3_change_0 rfl (lv_at hl 0 rfl) ?_
  refine lv_iload_n hx hb dX3_change_1 rfl (lv_at hl 1 rfl) ?_
  refine RO.callV S kv_X3_72 (c_X3_isCask l D cI cJ t f g h τ (nI k) n (hw)) hK hP rfl ⟨Nat.le_of_ble_eq_true rfl, Nat.le_of_ble_eq_true rfl⟩ hl.1 rfl rfl (Nat.le_of_ble_eq_true rfl) (Nat.zero_le _) (Nat.zero_le _) dX3_change_2 ?_
  refine q_if_eqB (tgt := 17) hx hb dX3_change_5 (by decide) (fun h => absurd (⟨nI_pos' (by omega), nI_lt (by omega) (by omega)⟩) h) (fun _ => ?_)
  refine lv_iload_n hx hb dX3_change_8 rfl (lv_at hl 2 rfl) ?_
  refine lv_bipush (v := nI 6) hx hb dX3_change_9 (by decide) ?_
  refine RO.callS S ks_X3_44 (c_X3_isWithin l D cI cJ t f g h τ (nI 2) (nI 6)) hK hP ⟨Nat.le_of_ble_eq_true rfl, Nat.le_of_ble_eq_true rfl⟩ hl.1 rfl rfl (Nat.le_of_ble_eq_true rfl) (Nat.zero_le _) (Nat.zero_le _) dX3_change_11 ?_
  refine q_if_neB (tgt := 23) hx hb dX3_change_14 (by decide) (fun _ => ?_) (fun h => absurd (⟨nI_le (by omega) (by omega), nI_le (by omega) (by omega)⟩) h)
  refine lv_iload_n hx hb dX3_change_23 rfl (lv_at hl 3 rfl) ?_
  refine va_gets hx hb hZ.1 hS hown (hU _ mF_X3_89) (fun _ h => h) dX3_change_24 ?_
  refine lv_iload_n hx hb dX3_change_27 rfl (lv_at hl 2 rfl) ?_
  refine va_ti hx hb hZ.2.1 hS (i := nI 2) (v := .int (mst 2)) (vp_in_nI (by omega) (by decide)) (by rw [nI_clamp (by omega)]) dX3_change_28 ?_
  refine q_eqi (y := nI 999) (rfl) ?_
  refine RO.callS S ks_X3_44 (c_X3_isWithin l D cI cJ t f g h τ (nI v) (nI 999)) hK hP ⟨Nat.le_of_ble_eq_true rfl, Nat.le_of_ble_eq_true rfl⟩ hl.1 rfl rfl (Nat.le_of_ble_eq_true rfl) (Nat.zero_le _) (Nat.zero_le _) dX3_change_29 ?_
  refine q_if_neB (tgt := 41) hx hb dX3_change_32 (by decide) (fun _ => ?_) (fun h => absurd (⟨nI_le (by omega) (by omega), nI_le (by omega) (by omega)⟩) h)
  refine lv_aload_n hx hb dX3_change_41 rfl (lv_at hl 0 rfl) ?_
  refine g3_live S hK hP dX3_change_42 ?_
  refine lv_iload_n hx hb dX3_change_45 rfl (lv_at hl 2 rfl) ?_
  refine RO.callV S kv_X3_76 (c_X0_marksOf_2 l D cI cJ (sf t 1) f) hK (TW_live hP) rfl ⟨Nat.le_of_ble_eq_true rfl, Nat.le_of_ble_eq_true rfl⟩ hl.1 rfl rfl (Nat.le_of_ble_eq_true rfl) (Nat.zero_le _) (Nat.zero_le _) dX3_change_46 ?_
  refine lv_astore (lv' := [(4, .ref (sf t 1 5)), (0, .ref (t 0)), (1, .int (nI k)), (2, .int (nI 2)), (3, .int (nI v))]) hx hb dX3_change_49 hl (by decide) rfl (fun ls hl => ?_)
  refine lv_aload hx hb dX3_change_51 (lv_at hl 0 rfl) ?_
  refine lv_iload_n hx hb dX3_change_53 rfl (lv_at hl 2 rfl) ?_
  refine l0_peal S hK (TW_live hP) (j := k) (by omega) dX3_change_54 ?_
  refine lv_istore (lv' := [(5, .int (fi f k 2)), (4, .ref (sf t 1 5)), (0, .ref (t 0)), (1, .int (nI k)), (2, .int (nI 2)), (3, .int (nI v))]) hx hb dX3_change_55 hl (by decide) rfl (fun ls hl => ?_)
  refine lv_aload hx hb dX3_change_57 (lv_at hl 1 rfl) ?_
  refine lv_iload_n hx hb dX3_change_59 rfl (lv_at hl 3 rfl) ?_
  refine lv_iload_n hx hb dX3_change_60 rfl (lv_at hl 5 rfl) ?_
  refine ss_peal (w1 := TW cI cJ t (fu f k 2 (nI v)) g h τ) S hK hP hD hS TW_s1 (j := k) (by omega) TW_s1 dX3_change_61 (fun H locs hP hD hS => ?_)
  refine lv_iload hx hb dX3_change_62 (lv_at hl 0 rfl) ?_
  exact WR.iret S hr hlk hP hS (rfl) rfl dX3_change_64
set_option maxRecDepth 100000 in
set_option maxHeartbeats 4000000 in
theorem c_X3_change_ok3 (l : Launch) (D : va_G) (cI cJ : ClassId) (t : Nat → Nat) (f g h : Nat → Int32) (τ : Nat → Nat → Int32) (mt ka : Nat) (k : Nat) (v : Nat) (n : Nat) (hw : Wk f n) (hk : k < n) (hv : v ≤ 11) : WZ mt ka l yX3_change cX3_change 6 (some .int) 2 D cI cJ (TW cI cJ t f g h τ) [.ref (t 0), .int (nI k), .int (nI 3), .int (nI v)] (some (.int (fi f k 3))) (TW cI cJ t (fu f k 3 (nI v)) g h τ) := by
  have h8 := hw.2.1
  refine WZ.of (by decide) (Nat.le_of_ble_eq_true rfl) (fun p e s m below meth c ls A S hr hlk hK hP hD hS hA hZ hl => ?_)
  obtain ⟨hx, hb, hml, hown, hU⟩ := id S
  have hl : lv_has ls 6 [(0, .ref (t 0)), (1, .int (nI k)), (2, .int (nI 3)), (3, .int (nI v))] := hl
  refine lv_aload_n hx hb dX3_change_0 rfl (lv_at hl 0 rfl) ?_
  refine lv_iload_n hx hb dX3_change_1 rfl (lv_at hl 1 rfl) ?_
  refine RO.callV S kv_X3_72 (c_X3_isCask l D cI cJ t f g h τ (nI k) n (hw)) hK hP rfl ⟨Nat.le_of_ble_eq_true rfl, Nat.le_of_ble_eq_true rfl⟩ hl.1 rfl rfl (Nat.le_of_ble_eq_true rfl) (Nat.zero_le _) (Nat.zero_le _) dX3_change_2 ?_
  refine q_if_eqB (tgt := 17) hx hb dX3_change_5 (by decide) (fun h => absurd (⟨nI_pos' (by omega), nI_lt (by omega) (by omega)⟩) h) (fun _ => ?_)
  refine lv_iload_n hx hb dX3_change_8 rfl (lv_at hl 2 rfl) ?_
  refine lv_bipush (v := nI 6) hx hb dX3_change_9 (by decide) ?_
  refine RO.callS S ks_X3_44 (c_X3_isWithin l D cI cJ t f g h τ (nI 3) (nI 6)) hK hP ⟨Nat.le_of_ble_eq_true rfl, Nat.le_of_ble_eq_true rfl⟩ hl.1 rfl rfl (Nat.le_of_ble_eq_true rfl) (Nat.zero_le _) (Nat.zero_le _) dX3_change_11 ?_
  refine q_if_neB (tgt := 23) hx hb dX3_change_14 (by decide) (fun _ => ?_) (fun h => absurd (⟨nI_le (by omega) (by omega), nI_le (by omega) (by omega)⟩) h)
  refine lv_iload_n hx hb dX3_change_23 rfl (lv_at hl 3 rfl) ?_
  refine va_gets hx hb hZ.1 hS hown (hU _ mF_X3_89) (fun _ h => h) dX3_change_24 ?_
  refine lv_iload_n hx hb dX3_change_27 rfl (lv_at hl 2 rfl) ?_
  refine va_ti hx hb hZ.2.1 hS (i := nI 3) (v := .int (mst 3)) (vp_in_nI (by omega) (by decide)) (by rw [nI_clamp (by omega)]) dX3_change_28 ?_
  refine q_eqi (y := nI 11) (rfl) ?_
  refine RO.callS S ks_X3_44 (c_X3_isWithin l D cI cJ t f g h τ (nI v) (nI 11)) hK hP ⟨Nat.le_of_ble_eq_true rfl, Nat.le_of_ble_eq_true rfl⟩ hl.1 rfl rfl (Nat.le_of_ble_eq_true rfl) (Nat.zero_le _) (Nat.zero_le _) dX3_change_29 ?_
  refine q_if_neB (tgt := 41) hx hb dX3_change_32 (by decide) (fun _ => ?_) (fun h => absurd (⟨nI_le (by omega) (by omega), nI_le (by omega) (by omega)⟩) h)
  refine lv_aload_n hx hb dX3_change_41 rfl (lv_at hl 0 rfl) ?_
  refine g3_live S hK hP dX3_change_42 ?_
  refine lv_iload_n hx hb dX3_change_45 rfl (lv_at hl 2 rfl) ?_
  refine RO.callV S kv_X3_76 (c_X0_marksOf_3 l D cI cJ (sf t 1) f) hK (TW_live hP) rfl ⟨Nat.le_of_ble_eq_true rfl, Nat.le_of_ble_eq_true rfl⟩ hl.1 rfl rfl (Nat.le_of_ble_eq_true rfl) (Nat.zero_le _) (Nat.zero_le _) dX3_change_46 ?_
  refine lv_astore (lv' := [(4, .ref (sf t 1 6)), (0, .ref (t 0)), (1, .int (nI k)), (2, .int (nI 3)), (3, .int (nI v))]) hx hb dX3_change_49 hl (by decide) rfl (fun ls hl => ?_)
  refine lv_aload hx hb dX3_change_51 (lv_at hl 0 rfl) ?_
  refine lv_iload_n hx hb dX3_change_53 rfl (lv_at hl 2 rfl) ?_
  refine l0_pitch S hK (TW_live hP) (j := k) (by omega) dX3_change_54 ?_
  refine lv_istore (lv' := [(5, .int (fi f k 3)), (4, .ref (sf t 1 6)), (0, .ref (t 0)), (1, .int (nI k)), (2, .int (nI 3)), (3, .int (nI v))]) hx hb dX3_change_55 hl (by decide) rfl (fun ls hl => ?_)
  refine lv_aload hx hb dX3_change_57 (lv_at hl 1 rfl) ?_
  refine lv_iload_n hx hb dX3_change_59 rfl (lv_at hl 3 rfl) ?_
  refine lv_iload_n hx hb dX3_change_60 rfl (lv_at hl 5 rfl) ?_
  refine ss_pitch (w1 := TW cI cJ t (fu f k 3 (nI v)) g h τ) S hK hP hD hS TW_s1 (j := k) (by omega) TW_s1 dX3_change_61 (fun H locs hP hD hS => ?_)
  refine lv_iload hx hb dX3_change_62 (lv_at hl 0 rfl) ?_
  exact WR.iret S hr hlk hP hS (rfl) rfl dX3_change_64
set_option maxRecDepth 100000 in
set_option maxHeartbeats 4000000 in
theorem c_X3_change_ok4 (l : Launch) (D : va_G) (cI cJ : ClassId) (t : Nat → Nat) (f g h : Nat → Int32) (τ : Nat → Nat → Int32) (mt ka : Nat) (k : Nat) (v : Nat) (n : Nat) (hw : Wk f n) (hk : k < n) (hv : v ≤ 999) : WZ mt ka l yX3_change cX3_change 6 (some .int) 2 D cI cJ (TW cI cJ t f g h τ) [.ref (t 0), .int (nI k), .int (nI 4), .int (nI v)] (some (.int (fi f k 4))) (TW cI cJ t (fu f k 4 (nI v)) g h τ) := by
  have h8 := hw.2.1
  refine WZ.of (by decide) (Nat.le_of_ble_eq_true rfl) (fun p e s m below meth c ls A S hr hlk hK hP hD hS hA hZ hl => ?_)
  obtain ⟨hx, hb, hml, hown, hU⟩ := id S
  have hl : lv_has ls 6 [(0, .ref (t 0)), (1, .int (nI k)), (2, .int (nI 4)), (3, .int (nI v))] := hl
  refine lv_aload_n hx hb dX3_change_0 rfl (lv_at hl 0 rfl) ?_
  refine lv_iload_n hx hb dX3_change_1 rfl (lv_at hl 1 rfl) ?_
  refine RO.callV S kv_X3_72 (c_X3_isCask l D cI cJ t f g h τ (nI k) n (hw)) hK hP rfl ⟨Nat.le_of_ble_eq_true rfl, Nat.le_of_ble_eq_true rfl⟩ hl.1 rfl rfl (Nat.le_of_ble_eq_true rfl) (Nat.zero_le _) (Nat.zero_le _) dX3_change_2 ?_
  refine q_if_eqB (tgt := 17) hx hb dX3_change_5 (by decide) (fun h => absurd (⟨nI_pos' (by omega), nI_lt (by omega) (by omega)⟩) h) (fun _ => ?_)
  refine lv_iload_n hx hb dX3_change_8 rfl (lv_at hl 2 rfl) ?_
  refine lv_bipush (v := nI 6) hx hb dX3_change_9 (by decide) ?_
  refine RO.callS S ks_X3_44 (c_X3_isWithin l D cI cJ t f g h τ (nI 4) (nI 6)) hK hP ⟨Nat.le_of_ble_eq_true rfl, Nat.le_of_ble_eq_true rfl⟩ hl.1 rfl rfl (Nat.le_of_ble_eq_true rfl) (Nat.zero_le _) (Nat.zero_le _) dX3_change_11 ?_
  refine q_if_neB (tgt := 23) hx hb dX3_change_14 (by decide) (fun _ => ?_) (fun h => absurd (⟨nI_le (by omega) (by omega), nI_le (by omega) (by omega)⟩) h)
  refine lv_iload_n hx hb dX3_change_23 rfl (lv_at hl 3 rfl) ?_
  refine va_gets hx hb hZ.1 hS hown (hU _ mF_X3_89) (fun _ h => h) dX3_change_24 ?_
  refine lv_iload_n hx hb dX3_change_27 rfl (lv_at hl 2 rfl) ?_
  refine va_ti hx hb hZ.2.1 hS (i := nI 4) (v := .int (mst 4)) (vp_in_nI (by omega) (by decide)) (by rw [nI_clamp (by omega)]) dX3_change_28 ?_
  refine q_eqi (y := nI 999) (rfl) ?_
  refine RO.callS S ks_X3_44 (c_X3_isWithin l D cI cJ t f g h τ (nI v) (nI 999)) hK hP ⟨Nat.le_of_ble_eq_true rfl, Nat.le_of_ble_eq_true rfl⟩ hl.1 rfl rfl (Nat.le_of_ble_eq_true rfl) (Nat.zero_le _) (Nat.zero_le _) dX3_change_29 ?_
  refine q_if_neB (tgt := 41) hx hb dX3_change_32 (by decide) (fun _ => ?_) (fun h => absurd (⟨nI_le (by omega) (by omega), nI_le (by omega) (by omega)⟩) h)
  refine lv_aload_n hx hb dX3_change_41 rfl (lv_at hl 0 rfl) ?_
  refine g3_live S hK hP dX3_change_42 ?_
  refine lv_iload_n hx hb dX3_change_45 rfl (lv_at hl 2 rfl) ?_
  refine RO.callV S kv_X3_76 (c_X0_marksOf_4 l D cI cJ (sf t 1) f) hK (TW_live hP) rfl ⟨Nat.le_of_ble_eq_true rfl, Nat.le_of_ble_eq_true rfl⟩ hl.1 rfl rfl (Nat.le_of_ble_eq_true rfl) (Nat.zero_le _) (Nat.zero_le _) dX3_change_46 ?_
  refine lv_astore (lv' := [(4, .ref (sf t 1 7)), (0, .ref (t 0)), (1, .int (nI k)), (2, .int (nI 4)), (3, .int (nI v))]) hx hb dX3_change_49 hl (by decide) rfl (fun ls hl => ?_)
  refine lv_aload hx hb dX3_change_51 (lv_at hl 0 rfl) ?_
  refine lv_iload_n hx hb dX3_change_53 rfl (lv_at hl 2 rfl) ?_
  refine l0_hoops S hK (TW_live hP) (j := k) (by omega) dX3_change_54 ?_
  refine lv_istore (lv' := [(5, .int (fi f k 4)), (4, .ref (sf t 1 7)), (0, .ref (t 0)), (1, .int (nI k)), (2, .int (nI 4)), (3, .int (nI v))]) hx hb dX3_change_55 hl (by decide) rfl (fun ls hl => ?_)
  refine lv_aload hx hb dX3_change_57 (lv_at hl 1 rfl) ?_
  refine lv_iload_n hx hb dX3_change_59 rfl (lv_at hl 3 rfl) ?_
  refine lv_iload_n hx hb dX3_change_60 rfl (lv_at hl 5 rfl) ?_
  refine ss_hoops (w1 := TW cI cJ t (fu f k 4 (nI v)) g h τ) S hK hP hD hS TW_s1 (j := k) (by omega) TW_s1 dX3_change_61 (fun H locs hP hD hS => ?_)
  refine lv_iload hx hb dX3_change_62 (lv_at hl 0 rfl) ?_
  exact WR.iret S hr hlk hP hS (rfl) rfl dX3_change_64
set_option maxRecDepth 100000 in
set_option maxHeartbeats 4000000 in
theorem c_X3_change_ok5 (l : Launch) (D : va_G) (cI cJ : ClassId) (t : Nat → Nat) (f g h : Nat → Int32) (τ : Nat → Nat → Int32) (mt ka : Nat) (k : Nat) (v : Nat) (n : Nat) (hw : Wk f n) (hk : k < n) (hv : v ≤ 999) : WZ mt ka l yX3_change cX3_change 6 (some .int) 2 D cI cJ (TW cI cJ t f g h τ) [.ref (t 0), .int (nI k), .int (nI 5), .int (nI v)] (some (.int (fi f k 5))) (TW cI cJ t (fu f k 5 (nI v)) g h τ) := by
  have h8 := hw.2.1
  refine WZ.of (by decide) (Nat.le_of_ble_eq_true rfl) (fun p e s m below meth c ls A S hr hlk hK hP hD hS hA hZ hl => ?_)
  obtain ⟨hx, hb, hml, hown, hU⟩ := id S
  have hl : lv_has ls 6 [(0, .ref (t 0)), (1, .int (nI k)), (2, .int (nI 5)), (3, .int (nI v))] := hl
  refine lv_aload_n hx hb dX3_change_0 rfl (lv_at hl 0 rfl) ?_
  refine lv_iload_n hx hb dX3_change_1 rfl (lv_at hl 1 rfl) ?_
  refine RO.callV S kv_X3_72 (c_X3_isCask l D cI cJ t f g h τ (nI k) n (hw)) hK hP rfl ⟨Nat.le_of_ble_eq_true rfl, Nat.le_of_ble_eq_true rfl⟩ hl.1 rfl rfl (Nat.le_of_ble_eq_true rfl) (Nat.zero_le _) (Nat.zero_le _) dX3_change_2 ?_
  refine q_if_eqB (tgt := 17) hx hb dX3_change_5 (by decide) (fun h => absurd (⟨nI_pos' (by omega), nI_lt (by omega) (by omega)⟩) h) (fun _ => ?_)
  refine lv_iload_n hx hb dX3_change_8 rfl (lv_at hl 2 rfl) ?_
  refine lv_bipush (v := nI 6) hx hb dX3_change_9 (by decide) ?_
  refine RO.callS S ks_X3_44 (c_X3_isWithin l D cI cJ t f g h τ (nI 5) (nI 6)) hK hP ⟨Nat.le_of_ble_eq_true rfl, Nat.le_of_ble_eq_true rfl⟩ hl.1 rfl rfl (Nat.le_of_ble_eq_true rfl) (Nat.zero_le _) (Nat.zero_le _) dX3_change_11 ?_
  refine q_if_neB (tgt := 23) hx hb dX3_change_14 (by decide) (fun _ => ?_) (fun h => absurd (⟨nI_le (by omega) (by omega), nI_le (by omega) (by omega)⟩) h)
  refine lv_iload_n hx hb dX3_change_23 rfl (lv_at hl 3 rfl) ?_
  refine va_gets hx hb hZ.1 hS hown (hU _ mF_X3_89) (fun _ h => h) dX3_change_24 ?_
  refine lv_iload_n hx hb dX3_change_27 rfl (lv_at hl 2 rfl) ?_
  refine va_ti hx hb hZ.2.1 hS (i := nI 5) (v := .int (mst 5)) (vp_in_nI (by omega) (by decide)) (by rw [nI_clamp (by omega)]) dX3_change_28 ?_
  refine q_eqi (y := nI 999) (rfl) ?_
  refine RO.callS S ks_X3_44 (c_X3_isWithin l D cI cJ t f g h τ (nI v) (nI 999)) hK hP ⟨Nat.le_of_ble_eq_true rfl, Nat.le_of_ble_eq_true rfl⟩ hl.1 rfl rfl (Nat.le_of_ble_eq_true rfl) (Nat.zero_le _) (Nat.zero_le _) dX3_change_29 ?_
  refine q_if_neB (tgt := 41) hx hb dX3_change_32 (by decide) (fun _ => ?_) (fun h => absurd (⟨nI_le (by omega) (by omega), nI_le (by omega) (by omega)⟩) h)
  refine lv_aload_n hx hb dX3_change_41 rfl (lv_at hl 0 rfl) ?_
  refine g3_live S hK hP dX3_change_42 ?_
  refine lv_iload_n hx hb dX3_change_45 rfl (lv_at hl 2 rfl) ?_
  refine RO.callV S kv_X3_76 (c_X0_marksOf_5 l D cI cJ (sf t 1) f) hK (TW_live hP) rfl ⟨Nat.le_of_ble_eq_true rfl, Nat.le_of_ble_eq_true rfl⟩ hl.1 rfl rfl (Nat.le_of_ble_eq_true rfl) (Nat.zero_le _) (Nat.zero_le _) dX3_change_46 ?_
  refine lv_astore (lv' := [(4, .ref (sf t 1 8)), (0, .ref (t 0)), (1, .int (nI k)), (2, .int (nI 5)), (3, .int (nI v))]) hx hb dX3_change_49 hl (by decide) rfl (fun ls hl => ?_)
  refine lv_aload hx hb dX3_change_51 (lv_at hl 0 rfl) ?_
  refine lv_iload_n hx hb dX3_change_53 rfl (lv_at hl 2 rfl) ?_
  refine l0_age S hK (TW_live hP) (j := k) (by omega) dX3_change_54 ?_
  refine lv_istore (lv' := [(5, .int (fi f k 5)), (4, .ref (sf t 1 8)), (0, .ref (t 0)), (1, .int (nI k)), (2, .int (nI 5)), (3, .int (nI v))]) hx hb dX3_change_55 hl (by decide) rfl (fun ls hl => ?_)
  refine lv_aload hx hb dX3_change_57 (lv_at hl 1 rfl) ?_
  refine lv_iload_n hx hb dX3_change_59 rfl (lv_at hl 3 rfl) ?_
  refine lv_iload_n hx hb dX3_change_60 rfl (lv_at hl 5 rfl) ?_
  refine ss_age (w1 := TW cI cJ t (fu f k 5 (nI v)) g h τ) S hK hP hD hS TW_s1 (j := k) (by omega) TW_s1 dX3_change_61 (fun H locs hP hD hS => ?_)
  refine lv_iload hx hb dX3_change_62 (lv_at hl 0 rfl) ?_
  exact WR.iret S hr hlk hP hS (rfl) rfl dX3_change_64
set_option maxRecDepth 100000 in
set_option maxHeartbeats 4000000 in
theorem c_X3_change_ok6 (l : Launch) (D : va_G) (cI cJ : ClassId) (t : Nat → Nat) (f g h : Nat → Int32) (τ : Nat → Nat → Int32) (mt ka : Nat) (k : Nat) (v : Nat) (n : Nat) (hw : Wk f n) (hk : k < n) (hv : v ≤ 999) : WZ mt ka l yX3_change cX3_change 6 (some .int) 2 D cI cJ (TW cI cJ t f g h τ) [.ref (t 0), .int (nI k), .int (nI 6), .int (nI v)] (some (.int (fi f k 6))) (TW cI cJ t (fu f k 6 (nI v)) g h τ) := by
  have h8 := hw.2.1
  refine WZ.of (by decide) (Nat.le_of_ble_eq_true rfl) (fun p e s m below meth c ls A S hr hlk hK hP hD hS hA hZ hl => ?_)
  obtain ⟨hx, hb, hml, hown, hU⟩ := id S
  have hl : lv_has ls 6 [(0, .ref (t 0)), (1, .int (nI k)), (2, .int (nI 6)), (3, .int (nI v))] := hl
  refine lv_aload_n hx hb dX3_change_0 rfl (lv_at hl 0 rfl) ?_
  refine lv_iload_n hx hb dX3_change_1 rfl (lv_at hl 1 rfl) ?_
  refine RO.callV S kv_X3_72 (c_X3_isCask l D cI cJ t f g h τ (nI k) n (hw)) hK hP rfl ⟨Nat.le_of_ble_eq_true rfl, Nat.le_of_ble_eq_true rfl⟩ hl.1 rfl rfl (Nat.le_of_ble_eq_true rfl) (Nat.zero_le _) (Nat.zero_le _) dX3_change_2 ?_
  refine q_if_eqB (tgt := 17) hx hb dX3_change_5 (by decide) (fun h => absurd (⟨nI_pos' (by omega), nI_lt (by omega) (by omega)⟩) h) (fun _ => ?_)
  refine lv_iload_n hx hb dX3_change_8 rfl (lv_at hl 2 rfl) ?_
  refine lv_bipush (v := nI 6) hx hb dX3_change_9 (by decide) ?_
  refine RO.callS S ks_X3_44 (c_X3_isWithin l D cI cJ t f g h τ (nI 6) (nI 6)) hK hP ⟨Nat.le_of_ble_eq_true rfl, Nat.le_of_ble_eq_true rfl⟩ hl.1 rfl rfl (Nat.le_of_ble_eq_true rfl) (Nat.zero_le _) (Nat.zero_le _) dX3_change_11 ?_
  refine q_if_neB (tgt := 23) hx hb dX3_change_14 (by decide) (fun _ => ?_) (fun h => absurd (⟨nI_le (by omega) (by omega), nI_le (by omega) (by omega)⟩) h)
  refine lv_iload_n hx hb dX3_change_23 rfl (lv_at hl 3 rfl) ?_
  refine va_gets hx hb hZ.1 hS hown (hU _ mF_X3_89) (fun _ h => h) dX3_change_24 ?_
  refine lv_iload_n hx hb dX3_change_27 rfl (lv_at hl 2 rfl) ?_
  refine va_ti hx hb hZ.2.1 hS (i := nI 6) (v := .int (mst 6)) (vp_in_nI (by omega) (by decide)) (by rw [nI_clamp (by omega)]) dX3_change_28 ?_
  refine q_eqi (y := nI 999) (rfl) ?_
  refine RO.callS S ks_X3_44 (c_X3_isWithin l D cI cJ t f g h τ (nI v) (nI 999)) hK hP ⟨Nat.le_of_ble_eq_true rfl, Nat.le_of_ble_eq_true rfl⟩ hl.1 rfl rfl (Nat.le_of_ble_eq_true rfl) (Nat.zero_le _) (Nat.zero_le _) dX3_change_29 ?_
  refine q_if_neB (tgt := 41) hx hb dX3_change_32 (by decide) (fun _ => ?_) (fun h => absurd (⟨nI_le (by omega) (by omega), nI_le (by omega) (by omega)⟩) h)
  refine lv_aload_n hx hb dX3_change_41 rfl (lv_at hl 0 rfl) ?_
  refine g3_live S hK hP dX3_change_42 ?_
  refine lv_iload_n hx hb dX3_change_45 rfl (lv_at hl 2 rfl) ?_
  refine RO.callV S kv_X3_76 (c_X0_marksOf_6 l D cI cJ (sf t 1) f) hK (TW_live hP) rfl ⟨Nat.le_of_ble_eq_true rfl, Nat.le_of_ble_eq_true rfl⟩ hl.1 rfl rfl (Nat.le_of_ble_eq_true rfl) (Nat.zero_le _) (Nat.zero_le _) dX3_change_46 ?_
  refine lv_astore (lv' := [(4, .ref (sf t 1 9)), (0, .ref (t 0)), (1, .int (nI k)), (2, .int (nI 6)), (3, .int (nI v))]) hx hb dX3_change_49 hl (by decide) rfl (fun ls hl => ?_)
  refine lv_aload hx hb dX3_change_51 (lv_at hl 0 rfl) ?_
  refine lv_iload_n hx hb dX3_change_53 rfl (lv_at hl 2 rfl) ?_
  refine l0_burst S hK (TW_live hP) (j := k) (by omega) dX3_change_54 ?_
  refine lv_istore (lv' := [(5, .int (fi f k 6)), (4, .ref (sf t 1 9)), (0, .ref (t 0)), (1, .int (nI k)), (2, .int (nI 6)), (3, .int (nI v))]) hx hb dX3_change_55 hl (by decide) rfl (fun ls hl => ?_)
  refine lv_aload hx hb dX3_change_57 (lv_at hl 1 rfl) ?_
  refine lv_iload_n hx hb dX3_change_59 rfl (lv_at hl 3 rfl) ?_
  refine lv_iload_n hx hb dX3_change_60 rfl (lv_at hl 5 rfl) ?_
  refine ss_burst (w1 := TW cI cJ t (fu f k 6 (nI v)) g h τ) S hK hP hD hS TW_s1 (j := k) (by omega) TW_s1 dX3_change_61 (fun H locs hP hD hS => ?_)
  refine lv_iload hx hb dX3_change_62 (lv_at hl 0 rfl) ?_
  exact WR.iret S hr hlk hP hS (rfl) rfl dX3_change_64
set_option maxRecDepth 100000 in
set_option maxHeartbeats 4000000 in
theorem c_X3_change_bad (l : Launch) (D : va_G) (cI cJ : ClassId) (t : Nat → Nat) (f g h : Nat → Int32) (τ : Nat → Nat → Int32) (mt ka : Nat) (x : Int32) (y : Int32) (z : Int32) (n : Nat) (hw : Wk f n) (hb0 : ¬ ((0 ≤ x ∧ x < nI n) ∧ (nI 0 ≤ y ∧ y ≤ nI 6) ∧ (nI 0 ≤ z ∧ z ≤ gOf y))) : WZ mt ka l yX3_change cX3_change 6 (some .int) 2 D cI cJ (TW cI cJ t f g h τ) [.ref (t 0), .int x, .int y, .int z] (some (.int (-1000001))) (TW cI cJ t f g h (va_up τ 9 (cFi (τ 9) 0))) := by
  refine WZ.of (by decide) (Nat.le_of_ble_eq_true rfl) (fun p e s m below meth c ls A S hr hlk hK hP hD hS hA hZ hl => ?_)
  obtain ⟨hx, hb, hml, hown, hU⟩ := id S
  have hl : lv_has ls 6 [(0, .ref (t 0)), (1, .int x), (2, .int y), (3, .int z)] := hl
  refine lv_aload_n hx hb dX3_change_0 rfl (lv_at hl 0 rfl) ?_
  refine lv_iload_n hx hb dX3_change_1 rfl (lv_at hl 1 rfl) ?_
  refine RO.callV S kv_X3_72 (c_X3_isCask l D cI cJ t f g h τ x n (hw)) hK hP rfl ⟨Nat.le_of_ble_eq_true rfl, Nat.le_of_ble_eq_true rfl⟩ hl.1 rfl rfl (Nat.le_of_ble_eq_true rfl) (Nat.zero_le _) (Nat.zero_le _) dX3_change_2 ?_
  refine q_if_eqB (tgt := 17) hx hb dX3_change_5 (by decide) (fun c_5 => ?_) (fun c_5 => ?_)
  · refine lv_aload_n hx hb dX3_change_17 rfl (lv_at hl 0 rfl) ?_
    refine lv_iconst (v := nI 0) hx hb dX3_change_18 (by decide) ?_
    refine WR.callV (w1 := TW cI cJ t f g h (va_up τ 9 (cFi (τ 9) 0))) S kv_X3_48 (c_X3_fd0 l D cI cJ t f g h τ) hK hP hD hS hA ([]) ([]) (List.append_nil _).symm (List.append_nil _).symm TW_fst rfl ⟨Nat.le_of_ble_eq_true rfl, Nat.le_of_ble_eq_true rfl⟩ hl.1 rfl rfl (Nat.le_of_ble_eq_true rfl) (Nat.zero_le _) (Nat.zero_le _) dX3_change_19 (fun H locs hP hD hS => ?_)
    exact WR.iret S hr hlk hP hS (rfl) rfl dX3_change_22
  · refine lv_iload_n hx hb dX3_change_8 rfl (lv_at hl 2 rfl) ?_
    refine lv_bipush (v := nI 6) hx hb dX3_change_9 (by decide) ?_
    refine RO.callS S ks_X3_44 (c_X3_isWithin l D cI cJ t f g h τ y (nI 6)) hK hP ⟨Nat.le_of_ble_eq_true rfl, Nat.le_of_ble_eq_true rfl⟩ hl.1 rfl rfl (Nat.le_of_ble_eq_true rfl) (Nat.zero_le _) (Nat.zero_le _) dX3_change_11 ?_
    refine q_if_neB (tgt := 23) hx hb dX3_change_14 (by decide) (fun c_14 => ?_) (fun c_14 => ?_)
    · obtain ⟨j, hj, rfl⟩ := rg_nat c_14 (by decide)
      refine lv_iload_n hx hb dX3_change_23 rfl (lv_at hl 3 rfl) ?_
      refine va_gets hx hb hZ.1 hS hown (hU _ mF_X3_89) (fun _ h => h) dX3_change_24 ?_
      refine lv_iload_n hx hb dX3_change_27 rfl (lv_at hl 2 rfl) ?_
      refine va_ti hx hb hZ.2.1 hS (i := nI j) (v := .int (mst j)) (vp_in_nI (by omega) (by decide)) (by rw [nI_clamp (by omega)]) dX3_change_28 ?_
      refine RO.callS S ks_X3_44 (c_X3_isWithin l D cI cJ t f g h τ z (mst j)) hK hP ⟨Nat.le_of_ble_eq_true rfl, Nat.le_of_ble_eq_true rfl⟩ hl.1 rfl rfl (Nat.le_of_ble_eq_true rfl) (Nat.zero_le _) (Nat.zero_le _) dX3_change_29 ?_
      refine q_if_neB (tgt := 41) hx hb dX3_change_32 (by decide) (fun c_32 => ?_) (fun c_32 => ?_)
      · exact absurd (⟨c_5, c_14, by rw [gOf_mst hj]; exact c_32⟩) hb0
      · refine lv_aload_n hx hb dX3_change_35 rfl (lv_at hl 0 rfl) ?_
        refine lv_iconst (v := nI 0) hx hb dX3_change_36 (by decide) ?_
        refine WR.callV (w1 := TW cI cJ t f g h (va_up τ 9 (cFi (τ 9) 0))) S kv_X3_48 (c_X3_fd0 l D cI cJ t f g h τ) hK hP hD hS hA ([]) ([]) (List.append_nil _).symm (List.append_nil _).symm TW_fst rfl ⟨Nat.le_of_ble_eq_true rfl, Nat.le_of_ble_eq_true rfl⟩ hl.1 rfl rfl (Nat.le_of_ble_eq_true rfl) (Nat.zero_le _) (Nat.zero_le _) dX3_change_37 (fun H locs hP hD hS => ?_)
        exact WR.iret S hr hlk hP hS (rfl) rfl dX3_change_40
    · refine lv_aload_n hx hb dX3_change_17 rfl (lv_at hl 0 rfl) ?_
      refine lv_iconst (v := nI 0) hx hb dX3_change_18 (by decide) ?_
      refine WR.callV (w1 := TW cI cJ t f g h (va_up τ 9 (cFi (τ 9) 0))) S kv_X3_48 (c_X3_fd0 l D cI cJ t f g h τ) hK hP hD hS hA ([]) ([]) (List.append_nil _).symm (List.append_nil _).symm TW_fst rfl ⟨Nat.le_of_ble_eq_true rfl, Nat.le_of_ble_eq_true rfl⟩ hl.1 rfl rfl (Nat.le_of_ble_eq_true rfl) (Nat.zero_le _) (Nat.zero_le _) dX3_change_19 (fun H locs hP hD hS => ?_)
      exact WR.iret S hr hlk hP hS (rfl) rfl dX3_change_22
set_option maxRecDepth 100000 in
set_option maxHeartbeats 4000000 in
theorem c_X3_loudestWith_w0 (l : Launch) (D : va_G) (cI cJ : ClassId) (t : Nat → Nat) (f g h : Nat → Int32) (τ : Nat → Nat → Int32) (mt ka : Nat) (k : Nat) (u : Nat) (n : Nat) (hw : Wk f n) (d : Nat) (hd : f 1 = nI d) (hp : Pk f n) (hs : Sk f) (hk : k < n) (ht : u ≤ 40) (hd2 : d + 100 ≤ 99999) : WZ mt ka l yX3_loudestWith cX3_loudestWith 8 (some .int) 6 D cI cJ (TW cI cJ t f g h τ) [.ref (t 0), .int (nI k), .int (nI 0), .int (nI u)] (some (.int (nI ((lbP f n k 0 u 7).1)))) (TW cI cJ t f (sGo (fu f k 0 (nI 6)) n u) h τ) := by
  have h8 := hw.2.1
  refine WZ.of (by decide) (Nat.le_of_ble_eq_true rfl) (fun p e s m below meth c ls A S hr hlk hK hP hD hS hA hZ hl => ?_)
  obtain ⟨hx, hb, hml, hown, hU⟩ := id S
  have hl : lv_has ls 8 [(0, .ref (t 0)), (1, .int (nI k)), (2, .int (nI 0)), (3, .int (nI u))] := hl
  refine lv_aload_n hx hb dX3_loudestWith_0 rfl (lv_at hl 0 rfl) ?_
  refine lv_iload_n hx hb dX3_loudestWith_1 rfl (lv_at hl 1 rfl) ?_
  refine RO.callV S kv_X3_72 (c_X3_isCask l D cI cJ t f g h τ (nI k) n (hw)) hK hP rfl ⟨Nat.le_of_ble_eq_true rfl, Nat.le_of_ble_eq_true rfl⟩ hl.1 rfl rfl (Nat.le_of_ble_eq_true rfl) (Nat.zero_le _) (Nat.zero_le _) dX3_loudestWith_2 ?_
  refine q_if_eqB (tgt := 17) hx hb dX3_loudestWith_5 (by decide) (fun h => absurd (⟨nI_pos' (by omega), nI_lt (by omega) (by omega)⟩) h) (fun _ => ?_)
  refine lv_iload_n hx hb dX3_loudestWith_8 rfl (lv_at hl 3 rfl) ?_
  refine lv_bipush (v := nI 40) hx hb dX3_loudestWith_9 (by decide) ?_
  refine RO.callS S ks_X3_44 (c_X3_isWithin l D cI cJ t f g h τ (nI u) (nI 40)) hK hP ⟨Nat.le_of_ble_eq_true rfl, Nat.le_of_ble_eq_true rfl⟩ hl.1 rfl rfl (Nat.le_of_ble_eq_true rfl) (Nat.zero_le _) (Nat.zero_le _) dX3_loudestWith_11 ?_
  refine q_if_neB (tgt := 23) hx hb dX3_loudestWith_14 (by decide) (fun _ => ?_) (fun h => absurd (⟨nI_le (by omega) (by omega), nI_le (by omega) (by omega)⟩) h)
  refine lv_iconst (v := nI 0) hx hb dX3_loudestWith_23 (by decide) ?_
  refine lv_istore (lv' := [(4, .int (nI 0)), (0, .ref (t 0)), (1, .int (nI k)), (2, .int (nI 0)), (3, .int (nI u))]) hx hb dX3_loudestWith_24 hl (by decide) rfl (fun ls hl => ?_)
  refine lv_iconst (v := (-1)) hx hb dX3_loudestWith_26 (by decide) ?_
  refine lv_istore (lv' := [(5, .int (-1)), (4, .int (nI 0)), (0, .ref (t 0)), (1, .int (nI k)), (2, .int (nI 0)), (3, .int (nI u))]) hx hb dX3_loudestWith_27 hl (by decide) rfl (fun ls hl => ?_)
  refine lv_iconst (v := nI 0) hx hb dX3_loudestWith_29 (by decide) ?_
  refine lv_istore (lv' := [(6, .int (nI 0)), (5, .int (-1)), (4, .int (nI 0)), (0, .ref (t 0)), (1, .int (nI k)), (2, .int (nI 0)), (3, .int (nI u))]) hx hb dX3_loudestWith_30 hl (by decide) rfl (fun ls hl => ?_)
  have L_32 : ∀ (n9 : Nat) (v : Nat) (H : Heap) (locs : List Loc) (ls : Array Slot), 7 - v < n9 → (v ≤ 7) → va_P D vwCl (TW cI cJ t f (lbG g f n k 0 u v) h τ) H → va_D A (TW cI cJ t f (lbG g f n k 0 u v) h τ) → va_S A s.heap H locs → lv_has ls 8 [(0, .ref (t 0)), (1, .int (nI k)), (2, .int (nI 0)), (3, .int (nI u)), (4, .int (nI ((lbP f n k 0 u v).1))), (5, .int ((lbP f n k 0 u v).2)), (6, .int (nI v))] → W p l e (rmd 6) s m ([.ref (t 0), .int (nI k), .int (nI 0), .int (nI u)] : List Value).toArray below meth c H locs 0 0 (ZW below ([.ref (t 0), .int (nI k), .int (nI 0), .int (nI u)] : List Value).toArray s D (some (.int (nI ((lbP f n k 0 u 7).1)))) (TW cI cJ t f (sGo (fu f k 0 (nI 6)) n u) h τ) A) (F0 m 32 ls []) := by
    intro n9
    induction n9 with
    | zero => intro v H locs ls hmeas; exact absurd hmeas (Nat.not_lt_zero _)
    | succ n9 ih_32 =>
      intro v H locs ls hmeas hv hP hD hS hl
      refine lv_iload hx hb dX3_loudestWith_32 (lv_at hl 6 rfl) ?_
      refine va_gets hx hb hZ.1 hS hown (hU _ mF_X3_89) (fun _ h => h) dX3_loudestWith_34 ?_
      refine lv_iload_n hx hb dX3_loudestWith_37 rfl (lv_at hl 2 rfl) ?_
      refine va_ti hx hb hZ.2.1 hS (i := nI 0) (v := .int (mst 0)) (vp_in_nI (by omega) (by decide)) (by rw [nI_clamp (by omega)]) dX3_loudestWith_38 ?_
      refine q_eqi (y := nI 6) (rfl) ?_
      refine q_icmp_gtN (tgt := 104) (a := v) (b := 6) hx hb dX3_loudestWith_39 (by decide) (by omega) (by omega) (fun c_39 => ?_) (fun c_39 => ?_)
      · refine lv_iload hx hb dX3_loudestWith_104 (lv_at hl 4 rfl) ?_
        exact WR.iret S hr hlk hP hS (by rw [show v = 7 by omega]; rfl) (congrArg (fun z => some (Value.int z)) (by rw [show v = 7 by omega])) dX3_loudestWith_106
      · refine lv_aload_n hx hb dX3_loudestWith_42 rfl (lv_at hl 0 rfl) ?_
        refine g3_trial S hK hP dX3_loudestWith_43 ?_
        refine lv_aload_n hx hb dX3_loudestWith_46 rfl (lv_at hl 0 rfl) ?_
        refine g3_live S hK hP dX3_loudestWith_47 ?_
        refine WR.callVq 11 (w1 := TW cI cJ t f f h τ) S kv_X3_125 (c_X0_takeFrom_2_1 l D cI cJ (sf t 1) (sf t 12) (sf t 23) f (lbG g f n k 0 u v) h) hK hP hD hS hA _ _ TW_s123 TW_s123 PW3_fst rfl ⟨Nat.le_of_ble_eq_true rfl, Nat.le_of_ble_eq_true rfl⟩ hl.1 rfl rfl (Nat.le_of_ble_eq_true rfl) (Nat.zero_le _) (Nat.zero_le _) dX3_loudestWith_50 (fun H locs hP hD hS => ?_)
        refine W.eq (g2 := F0 m 53 ls []) rfl ?_
        refine lv_aload_n hx hb dX3_loudestWith_53 rfl (lv_at hl 0 rfl) ?_
        refine g3_trial S hK hP dX3_loudestWith_54 ?_
        refine lv_iload_n hx hb dX3_loudestWith_57 rfl (lv_at hl 2 rfl) ?_
        refine RO.callV S kv_X3_76 (c_X0_marksOf_0 l D cI cJ (sf t 12) f) hK (TW_trial hP) rfl ⟨Nat.le_of_ble_eq_true rfl, Nat.le_of_ble_eq_true rfl⟩ hl.1 rfl rfl (Nat.le_of_ble_eq_true rfl) (Nat.zero_le _) (Nat.zero_le _) dX3_loudestWith_58 ?_
        refine lv_iload_n hx hb dX3_loudestWith_61 rfl (lv_at hl 1 rfl) ?_
        refine lv_iload hx hb dX3_loudestWith_62 (lv_at hl 6 rfl) ?_
        refine ss_kind (w1 := TW cI cJ t f (fu f k 0 (nI v)) h τ) S hK hP hD hS TW_s2 (j := k) (by omega) TW_s2 dX3_loudestWith_64 (fun H locs hP hD hS => ?_)
        refine lv_aload_n hx hb dX3_loudestWith_65 rfl (lv_at hl 0 rfl) ?_
        refine g3_trial S hK hP dX3_loudestWith_66 ?_
        refine lv_iload_n hx hb dX3_loudestWith_69 rfl (lv_at hl 3 rfl) ?_
        refine WR.callV (w1 := TW cI cJ t f (sGo (fu f k 0 (nI v)) n u) h τ) S kv_X3_100 (c_X0_passDays l D cI cJ (sf t 12) (fu f k 0 (nI v)) u n ((hw).fuw (k := k) (w := 0) (by decide) (by decide)) d ((upd_ne (by omega)).trans hd) (by omega) (hp.fw (by decide) (by decide)) (hs.fu)) hK hP hD hS hA (_) (_) TW_s2 TW_s2 PW_fst rfl ⟨Nat.le_of_ble_eq_true rfl, Nat.le_of_ble_eq_true rfl⟩ hl.1 rfl rfl (Nat.le_of_ble_eq_true rfl) (Nat.zero_le _) (Nat.zero_le _) dX3_loudestWith_70 (fun H locs hP hD hS => ?_)
        refine W.eq (g2 := F0 m 73 ls []) rfl ?_
        refine lv_aload_n hx hb dX3_loudestWith_73 rfl (lv_at hl 0 rfl) ?_
        refine g3_trial S hK hP dX3_loudestWith_74 ?_
        refine lv_iload_n hx hb dX3_loudestWith_77 rfl (lv_at hl 1 rfl) ?_
        refine RO.callV S kv_X3_80 (c_X0_loudOf l D cI cJ (sf t 12) (sGo (fu f k 0 (nI v)) n u) k n (((hw).fuw (k := k) (w := 0) (by decide) (by decide)).kl (sGo_kl h8)) (by omega)) hK (TW_trial hP) rfl ⟨Nat.le_of_ble_eq_true rfl, Nat.le_of_ble_eq_true rfl⟩ hl.1 rfl rfl (Nat.le_of_ble_eq_true rfl) (Nat.zero_le _) (Nat.zero_le _) dX3_loudestWith_78 ?_
        refine lv_istore (lv' := [(7, .int (sLd (sGo (fu f k 0 (nI v)) n u) n k)), (0, .ref (t 0)), (1, .int (nI k)), (2, .int (nI 0)), (3, .int (nI u)), (4, .int (nI ((lbP f n k 0 u v).1))), (5, .int ((lbP f n k 0 u v).2)), (6, .int (nI v))]) hx hb dX3_loudestWith_81 hl (by decide) rfl (fun ls hl => ?_)
        refine lv_iload hx hb dX3_loudestWith_83 (lv_at hl 0 rfl) ?_
        refine lv_iload hx hb dX3_loudestWith_85 (lv_at hl 6 rfl) ?_
        refine lv_icmp_le (tgt := 98) hx hb dX3_loudestWith_87 (by decide) (fun c_87 => ?_) (fun c_87 => ?_)
        · refine lv_iinc (v := nI (v + 1)) (lv' := [(6, .int (nI (v + 1))), (7, .int (sLd (sGo (fu f k 0 (nI v)) n u) n k)), (0, .ref (t 0)), (1, .int (nI k)), (2, .int (nI 0)), (3, .int (nI u)), (4, .int (nI ((lbP f n k 0 u v).1))), (5, .int ((lbP f n k 0 u v).2))]) hx hb dX3_loudestWith_98 hl (k := 7) rfl (q_inc _) (by decide) rfl (fun ls hl => ?_)
          refine lv_goto (tgt := 32) hx hb dX3_loudestWith_101 (by decide) ?_
          exact ih_32 (v + 1) _ _ ls (by omega) (by omega) hP hD hS (by rw [show nI ((lbP f n k 0 u (v + 1)).1) = nI ((lbP f n k 0 u v).1) from by rw [lbP_0 (i32_not_lt_of_le c_87)], show (lbP f n k 0 u (v + 1)).2 = (lbP f n k 0 u v).2 from by rw [lbP_0 (i32_not_lt_of_le c_87)]]; exact lv_sub hl [2, 3, 4, 5, 6, 7, 0] rfl)
        · refine lv_iload hx hb dX3_loudestWith_90 (lv_at hl 7 rfl) ?_
          refine lv_istore (lv' := [(4, .int (nI v)), (7, .int (sLd (sGo (fu f k 0 (nI v)) n u) n k)), (0, .ref (t 0)), (1, .int (nI k)), (2, .int (nI 0)), (3, .int (nI u)), (5, .int ((lbP f n k 0 u v).2)), (6, .int (nI v))]) hx hb dX3_loudestWith_92 hl (by decide) rfl (fun ls hl => ?_)
          refine lv_iload hx hb dX3_loudestWith_94 (lv_at hl 1 rfl) ?_
          refine lv_istore (lv' := [(5, .int (sLd (sGo (fu f k 0 (nI v)) n u) n k)), (4, .int (nI v)), (7, .int (sLd (sGo (fu f k 0 (nI v)) n u) n k)), (0, .ref (t 0)), (1, .int (nI k)), (2, .int (nI 0)), (3, .int (nI u)), (6, .int (nI v))]) hx hb dX3_loudestWith_96 hl (by decide) rfl (fun ls hl => ?_)
          refine lv_iinc (v := nI (v + 1)) (lv' := [(6, .int (nI (v + 1))), (5, .int (sLd (sGo (fu f k 0 (nI v)) n u) n k)), (4, .int (nI v)), (7, .int (sLd (sGo (fu f k 0 (nI v)) n u) n k)), (0, .ref (t 0)), (1, .int (nI k)), (2, .int (nI 0)), (3, .int (nI u))]) hx hb dX3_loudestWith_98 hl (k := 7) rfl (q_inc _) (by decide) rfl (fun ls hl => ?_)
          refine lv_goto (tgt := 32) hx hb dX3_loudestWith_101 (by decide) ?_
          exact ih_32 (v + 1) _ _ ls (by omega) (by omega) hP hD hS (by rw [show nI ((lbP f n k 0 u (v + 1)).1) = nI v from by rw [lbP_1 (i32_lt_of_not_le c_87)], show (lbP f n k 0 u (v + 1)).2 = sLd (sGo (fu f k 0 (nI v)) n u) n k from by rw [lbP_1 (i32_lt_of_not_le c_87)]]; exact lv_sub hl [4, 5, 6, 7, 2, 1, 0] rfl)
  exact L_32 ((7 - 0) + 1) 0 _ _ ls (Nat.lt_succ_self _) (by omega) hP hD hS (by rw [show nI ((lbP f n k 0 u 0).1) = nI 0 from rfl, show (lbP f n k 0 u 0).2 = (-1) from rfl]; exact lv_sub hl [3, 4, 5, 6, 2, 1, 0] rfl)
set_option maxRecDepth 100000 in
set_option maxHeartbeats 4000000 in
theorem c_X3_loudestWith_w1 (l : Launch) (D : va_G) (cI cJ : ClassId) (t : Nat → Nat) (f g h : Nat → Int32) (τ : Nat → Nat → Int32) (mt ka : Nat) (k : Nat) (u : Nat) (n : Nat) (hw : Wk f n) (d : Nat) (hd : f 1 = nI d) (hp : Pk f n) (hs : Sk f) (hk : k < n) (ht : u ≤ 40) (hd2 : d + 100 ≤ 99999) : WZ mt ka l yX3_loudestWith cX3_loudestWith 8 (some .int) 6 D cI cJ (TW cI cJ t f g h τ) [.ref (t 0), .int (nI k), .int (nI 1), .int (nI u)] (some (.int (nI ((lbP f n k 1 u 6).1)))) (TW cI cJ t f (sGo (fu f k 1 (nI 5)) n u) h τ) := by
  have h8 := hw.2.1
  refine WZ.of (by decide) (Nat.le_of_ble_eq_true rfl) (fun p e s m below meth c ls A S hr hlk hK hP hD hS hA hZ hl => ?_)
  obtain ⟨hx, hb, hml, hown, hU⟩ := id S
  have hl : lv_has ls 8 [(0, .ref (t 0)), (1, .int (nI k)), (2, .int (nI 1)), (3, .int (nI u))] := hl
  refine lv_aload_n hx hb dX3_loudestWith_0 rfl (lv_at hl 0 rfl) ?_
  refine lv_iload_n hx hb dX3_loudestWith_1 rfl (lv_at hl 1 rfl) ?_
  refine RO.callV S kv_X3_72 (c_X3_isCask l D cI cJ t f g h τ (nI k) n (hw)) hK hP rfl ⟨Nat.le_of_ble_eq_true rfl, Nat.le_of_ble_eq_true rfl⟩ hl.1 rfl rfl (Nat.le_of_ble_eq_true rfl) (Nat.zero_le _) (Nat.zero_le _) dX3_loudestWith_2 ?_
  refine q_if_eqB (tgt := 17) hx hb dX3_loudestWith_5 (by decide) (fun h => absurd (⟨nI_pos' (by omega), nI_lt (by omega) (by omega)⟩) h) (fun _ => ?_)
  refine lv_iload_n hx hb dX3_loudestWith_8 rfl (lv_at hl 3 rfl) ?_
  refine lv_bipush (v := nI 40) hx hb dX3_loudestWith_9 (by decide) ?_
  refine RO.callS S ks_X3_44 (c_X3_isWithin l D cI cJ t f g h τ (nI u) (nI 40)) hK hP ⟨Nat.le_of_ble_eq_true rfl, Nat.le_of_ble_eq_true rfl⟩ hl.1 rfl rfl (Nat.le_of_ble_eq_true rfl) (Nat.zero_le _) (Nat.zero_le _) dX3_loudestWith_11 ?_
  refine q_if_neB (tgt := 23) hx hb dX3_loudestWith_14 (by decide) (fun _ => ?_) (fun h => absurd (⟨nI_le (by omega) (by omega), nI_le (by omega) (by omega)⟩) h)
  refine lv_iconst (v := nI 0) hx hb dX3_loudestWith_23 (by decide) ?_
  refine lv_istore (lv' := [(4, .int (nI 0)), (0, .ref (t 0)), (1, .int (nI k)), (2, .int (nI 1)), (3, .int (nI u))]) hx hb dX3_loudestWith_24 hl (by decide) rfl (fun ls hl => ?_)
  refine lv_iconst (v := (-1)) hx hb dX3_loudestWith_26 (by decide) ?_
  refine lv_istore (lv' := [(5, .int (-1)), (4, .int (nI 0)), (0, .ref (t 0)), (1, .int (nI k)), (2, .int (nI 1)), (3, .int (nI u))]) hx hb dX3_loudestWith_27 hl (by decide) rfl (fun ls hl => ?_)
  refine lv_iconst (v := nI 0) hx hb dX3_loudestWith_29 (by decide) ?_
  refine lv_istore (lv' := [(6, .int (nI 0)), (5, .int (-1)), (4, .int (nI 0)), (0, .ref (t 0)), (1, .int (nI k)), (2, .int (nI 1)), (3, .int (nI u))]) hx hb dX3_loudestWith_30 hl (by decide) rfl (fun ls hl => ?_)
  have L_32 : ∀ (n9 : Nat) (v : Nat) (H : Heap) (locs : List Loc) (ls : Array Slot), 6 - v < n9 → (v ≤ 6) → va_P D vwCl (TW cI cJ t f (lbG g f n k 1 u v) h τ) H → va_D A (TW cI cJ t f (lbG g f n k 1 u v) h τ) → va_S A s.heap H locs → lv_has ls 8 [(0, .ref (t 0)), (1, .int (nI k)), (2, .int (nI 1)), (3, .int (nI u)), (4, .int (nI ((lbP f n k 1 u v).1))), (5, .int ((lbP f n k 1 u v).2)), (6, .int (nI v))] → W p l e (rmd 6) s m ([.ref (t 0), .int (nI k), .int (nI 1), .int (nI u)] : List Value).toArray below meth c H locs 0 0 (ZW below ([.ref (t 0), .int (nI k), .int (nI 1), .int (nI u)] : List Value).toArray s D (some (.int (nI ((lbP f n k 1 u 6).1)))) (TW cI cJ t f (sGo (fu f k 1 (nI 5)) n u) h τ) A) (F0 m 32 ls []) := by
    intro n9
    induction n9 with
    | zero => intro v H locs ls hmeas; exact absurd hmeas (Nat.not_lt_zero _)
    | succ n9 ih_32 =>
      intro v H locs ls hmeas hv hP hD hS hl
      refine lv_iload hx hb dX3_loudestWith_32 (lv_at hl 6 rfl) ?_
      refine va_gets hx hb hZ.1 hS hown (hU _ mF_X3_89) (fun _ h => h) dX3_loudestWith_34 ?_
      refine lv_iload_n hx hb dX3_loudestWith_37 rfl (lv_at hl 2 rfl) ?_
      refine va_ti hx hb hZ.2.1 hS (i := nI 1) (v := .int (mst 1)) (vp_in_nI (by omega) (by decide)) (by rw [nI_clamp (by omega)]) dX3_loudestWith_38 ?_
      refine q_eqi (y := nI 5) (rfl) ?_
      refine q_icmp_gtN (tgt := 104) (a := v) (b := 5) hx hb dX3_loudestWith_39 (by decide) (by omega) (by omega) (fun c_39 => ?_) (fun c_39 => ?_)
      · refine lv_iload hx hb dX3_loudestWith_104 (lv_at hl 4 rfl) ?_
        exact WR.iret S hr hlk hP hS (by rw [show v = 6 by omega]; rfl) (congrArg (fun z => some (Value.int z)) (by rw [show v = 6 by omega])) dX3_loudestWith_106
      · refine lv_aload_n hx hb dX3_loudestWith_42 rfl (lv_at hl 0 rfl) ?_
        refine g3_trial S hK hP dX3_loudestWith_43 ?_
        refine lv_aload_n hx hb dX3_loudestWith_46 rfl (lv_at hl 0 rfl) ?_
        refine g3_live S hK hP dX3_loudestWith_47 ?_
        refine WR.callVq 11 (w1 := TW cI cJ t f f h τ) S kv_X3_125 (c_X0_takeFrom_2_1 l D cI cJ (sf t 1) (sf t 12) (sf t 23) f (lbG g f n k 1 u v) h) hK hP hD hS hA _ _ TW_s123 TW_s123 PW3_fst rfl ⟨Nat.le_of_ble_eq_true rfl, Nat.le_of_ble_eq_true rfl⟩ hl.1 rfl rfl (Nat.le_of_ble_eq_true rfl) (Nat.zero_le _) (Nat.zero_le _) dX3_loudestWith_50 (fun H locs hP hD hS => ?_)
        refine W.eq (g2 := F0 m 53 ls []) rfl ?_
        refine lv_aload_n hx hb dX3_loudestWith_53 rfl (lv_at hl 0 rfl) ?_
        refine g3_trial S hK hP dX3_loudestWith_54 ?_
        refine lv_iload_n hx hb dX3_loudestWith_57 rfl (lv_at hl 2 rfl) ?_
        refine RO.callV S kv_X3_76 (c_X0_marksOf_1 l D cI cJ (sf t 12) f) hK (TW_trial hP) rfl ⟨Nat.le_of_ble_eq_true rfl, Nat.le_of_ble_eq_true rfl⟩ hl.1 rfl rfl (Nat.le_of_ble_eq_true rfl) (Nat.zero_le _) (Nat.zero_le _) dX3_loudestWith_58 ?_
        refine lv_iload_n hx hb dX3_loudestWith_61 rfl (lv_at hl 1 rfl) ?_
        refine lv_iload hx hb dX3_loudestWith_62 (lv_at hl 6 rfl) ?_
        refine ss_home (w1 := TW cI cJ t f (fu f k 1 (nI v)) h τ) S hK hP hD hS TW_s2 (j := k) (by omega) TW_s2 dX3_loudestWith_64 (fun H locs hP hD hS => ?_)
        refine lv_aload_n hx hb dX3_loudestWith_65 rfl (lv_at hl 0 rfl) ?_
        refine g3_trial S hK hP dX3_loudestWith_66 ?_
        refine lv_iload_n hx hb dX3_loudestWith_69 rfl (lv_at hl 3 rfl) ?_
        refine WR.callV (w1 := TW cI cJ t f (sGo (fu f k 1 (nI v)) n u) h τ) S kv_X3_100 (c_X0_passDays l D cI cJ (sf t 12) (fu f k 1 (nI v)) u n ((hw).fu1 (k := k) (by omega)) d ((upd_ne (by omega)).trans hd) (by omega) (hp.fw (by decide) (by decide)) (hs.fu)) hK hP hD hS hA (_) (_) TW_s2 TW_s2 PW_fst rfl ⟨Nat.le_of_ble_eq_true rfl, Nat.le_of_ble_eq_true rfl⟩ hl.1 rfl rfl (Nat.le_of_ble_eq_true rfl) (Nat.zero_le _) (Nat.zero_le _) dX3_loudestWith_70 (fun H locs hP hD hS => ?_)
        refine W.eq (g2 := F0 m 73 ls []) rfl ?_
        refine lv_aload_n hx hb dX3_loudestWith_73 rfl (lv_at hl 0 rfl) ?_
        refine g3_trial S hK hP dX3_loudestWith_74 ?_
        refine lv_iload_n hx hb dX3_loudestWith_77 rfl (lv_at hl 1 rfl) ?_
        refine RO.callV S kv_X3_80 (c_X0_loudOf l D cI cJ (sf t 12) (sGo (fu f k 1 (nI v)) n u) k n (((hw).fu1 (k := k) (by omega)).kl (sGo_kl h8)) (by omega)) hK (TW_trial hP) rfl ⟨Nat.le_of_ble_eq_true rfl, Nat.le_of_ble_eq_true rfl⟩ hl.1 rfl rfl (Nat.le_of_ble_eq_true rfl) (Nat.zero_le _) (Nat.zero_le _) dX3_loudestWith_78 ?_
        refine lv_istore (lv' := [(7, .int (sLd (sGo (fu f k 1 (nI v)) n u) n k)), (0, .ref (t 0)), (1, .int (nI k)), (2, .int (nI 1)), (3, .int (nI u)), (4, .int (nI ((lbP f n k 1 u v).1))), (5, .int ((lbP f n k 1 u v).2)), (6, .int (nI v))]) hx hb dX3_loudestWith_81 hl (by decide) rfl (fun ls hl => ?_)
        refine lv_iload hx hb dX3_loudestWith_83 (lv_at hl 0 rfl) ?_
        refine lv_iload hx hb dX3_loudestWith_85 (lv_at hl 6 rfl) ?_
        refine lv_icmp_le (tgt := 98) hx hb dX3_loudestWith_87 (by decide) (fun c_87 => ?_) (fun c_87 => ?_)
        · refine lv_iinc (v := nI (v + 1)) (lv' := [(6, .int (nI (v + 1))), (7, .int (sLd (sGo (fu f k 1 (nI v)) n u) n k)), (0, .ref (t 0)), (1, .int (nI k)), (2, .int (nI 1)), (3, .int (nI u)), (4, .int (nI ((lbP f n k 1 u v).1))), (5, .int ((lbP f n k 1 u v).2))]) hx hb dX3_loudestWith_98 hl (k := 7) rfl (q_inc _) (by decide) rfl (fun ls hl => ?_)
          refine lv_goto (tgt := 32) hx hb dX3_loudestWith_101 (by decide) ?_
          exact ih_32 (v + 1) _ _ ls (by omega) (by omega) hP hD hS (by rw [show nI ((lbP f n k 1 u (v + 1)).1) = nI ((lbP f n k 1 u v).1) from by rw [lbP_0 (i32_not_lt_of_le c_87)], show (lbP f n k 1 u (v + 1)).2 = (lbP f n k 1 u v).2 from by rw [lbP_0 (i32_not_lt_of_le c_87)]]; exact lv_sub hl [2, 3, 4, 5, 6, 7, 0] rfl)
        · refine lv_iload hx hb dX3_loudestWith_90 (lv_at hl 7 rfl) ?_
          refine lv_istore (lv' := [(4, .int (nI v)), (7, .int (sLd (sGo (fu f k 1 (nI v)) n u) n k)), (0, .ref (t 0)), (1, .int (nI k)), (2, .int (nI 1)), (3, .int (nI u)), (5, .int ((lbP f n k 1 u v).2)), (6, .int (nI v))]) hx hb dX3_loudestWith_92 hl (by decide) rfl (fun ls hl => ?_)
          refine lv_iload hx hb dX3_loudestWith_94 (lv_at hl 1 rfl) ?_
          refine lv_istore (lv' := [(5, .int (sLd (sGo (fu f k 1 (nI v)) n u) n k)), (4, .int (nI v)), (7, .int (sLd (sGo (fu f k 1 (nI v)) n u) n k)), (0, .ref (t 0)), (1, .int (nI k)), (2, .int (nI 1)), (3, .int (nI u)), (6, .int (nI v))]) hx hb dX3_loudestWith_96 hl (by decide) rfl (fun ls hl => ?_)
          refine lv_iinc (v := nI (v + 1)) (lv' := [(6, .int (nI (v + 1))), (5, .int (sLd (sGo (fu f k 1 (nI v)) n u) n k)), (4, .int (nI v)), (7, .int (sLd (sGo (fu f k 1 (nI v)) n u) n k)), (0, .ref (t 0)), (1, .int (nI k)), (2, .int (nI 1)), (3, .int (nI u))]) hx hb dX3_loudestWith_98 hl (k := 7) rfl (q_inc _) (by decide) rfl (fun ls hl => ?_)
          refine lv_goto (tgt := 32) hx hb dX3_loudestWith_101 (by decide) ?_
          exact ih_32 (v + 1) _ _ ls (by omega) (by omega) hP hD hS (by rw [show nI ((lbP f n k 1 u (v + 1)).1) = nI v from by rw [lbP_1 (i32_lt_of_not_le c_87)], show (lbP f n k 1 u (v + 1)).2 = sLd (sGo (fu f k 1 (nI v)) n u) n k from by rw [lbP_1 (i32_lt_of_not_le c_87)]]; exact lv_sub hl [4, 5, 6, 7, 2, 1, 0] rfl)
  exact L_32 ((6 - 0) + 1) 0 _ _ ls (Nat.lt_succ_self _) (by omega) hP hD hS (by rw [show nI ((lbP f n k 1 u 0).1) = nI 0 from rfl, show (lbP f n k 1 u 0).2 = (-1) from rfl]; exact lv_sub hl [3, 4, 5, 6, 2, 1, 0] rfl)
set_option maxRecDepth 100000 in
set_option maxHeartbeats 4000000 in
theorem c_X3_loudestWith_w3 (l : Launch) (D : va_G) (cI cJ : ClassId) (t : Nat → Nat) (f g h : Nat → Int32) (τ : Nat → Nat → Int32) (mt ka : Nat) (k : Nat) (u : Nat) (n : Nat) (hw : Wk f n) (d : Nat) (hd : f 1 = nI d) (hp : Pk f n) (hs : Sk f) (hk : k < n) (ht : u ≤ 40) (hd2 : d + 100 ≤ 99999) : WZ mt ka l yX3_loudestWith cX3_loudestWith 8 (some .int) 6 D cI cJ (TW cI cJ t f g h τ) [.ref (t 0), .int (nI k), .int (nI 3), .int (nI u)] (some (.int (nI ((lbP f n k 3 u 12).1)))) (TW cI cJ t f (sGo (fu f k 3 (nI 11)) n u) h τ) := by
  have h8 := hw.2.1
  refine WZ.of (by decide) (Nat.le_of_ble_eq_true rfl) (fun p e s m below meth c ls A S hr hlk hK hP hD hS hA hZ hl => ?_)
  obtain ⟨hx, hb, hml, hown, hU⟩ := id S
  have hl : lv_has ls 8 [(0, .ref (t 0)), (1, .int (nI k)), (2, .int (nI 3)), (3, .int (nI u))] := hl
  refine lv_aload_n hx hb dX3_loudestWith_0 rfl (lv_at hl 0 rfl) ?_
  refine lv_iload_n hx hb dX3_loudestWith_1 rfl (lv_at hl 1 rfl) ?_
  refine RO.callV S kv_X3_72 (c_X3_isCask l D cI cJ t f g h τ (nI k) n (hw)) hK hP rfl ⟨Nat.le_of_ble_eq_true rfl, Nat.le_of_ble_eq_true rfl⟩ hl.1 rfl rfl (Nat.le_of_ble_eq_true rfl) (Nat.zero_le _) (Nat.zero_le _) dX3_loudestWith_2 ?_
  refine q_if_eqB (tgt := 17) hx hb dX3_loudestWith_5 (by decide) (fun h => absurd (⟨nI_pos' (by omega), nI_lt (by omega) (by omega)⟩) h) (fun _ => ?_)
  refine lv_iload_n hx hb dX3_loudestWith_8 rfl (lv_at hl 3 rfl) ?_
  refine lv_bipush (v := nI 40) hx hb dX3_loudestWith_9 (by decide) ?_
  refine RO.callS S ks_X3_44 (c_X3_isWithin l D cI cJ t f g h τ (nI u) (nI 40)) hK hP ⟨Nat.le_of_ble_eq_true rfl, Nat.le_of_ble_eq_true rfl⟩ hl.1 rfl rfl (Nat.le_of_ble_eq_true rfl) (Nat.zero_le _) (Nat.zero_le _) dX3_loudestWith_11 ?_
  refine q_if_neB (tgt := 23) hx hb dX3_loudestWith_14 (by decide) (fun _ => ?_) (fun h => absurd (⟨nI_le (by omega) (by omega), nI_le (by omega) (by omega)⟩) h)
  refine lv_iconst (v := nI 0) hx hb dX3_loudestWith_23 (by decide) ?_
  refine lv_istore (lv' := [(4, .int (nI 0)), (0, .ref (t 0)), (1, .int (nI k)), (2, .int (nI 3)), (3, .int (nI u))]) hx hb dX3_loudestWith_24 hl (by decide) rfl (fun ls hl => ?_)
  refine lv_iconst (v := (-1)) hx hb dX3_loudestWith_26 (by decide) ?_
  refine lv_istore (lv' := [(5, .int (-1)), (4, .int (nI 0)), (0, .ref (t 0)), (1, .int (nI k)), (2, .int (nI 3)), (3, .int (nI u))]) hx hb dX3_loudestWith_27 hl (by decide) rfl (fun ls hl => ?_)
  refine lv_iconst (v := nI 0) hx hb dX3_loudestWith_29 (by decide) ?_
  refine lv_istore (lv' := [(6, .int (nI 0)), (5, .int (-1)), (4, .int (nI 0)), (0, .ref (t 0)), (1, .int (nI k)), (2, .int (nI 3)), (3, .int (nI u))]) hx hb dX3_loudestWith_30 hl (by decide) rfl (fun ls hl => ?_)
  have L_32 : ∀ (n9 : Nat) (v : Nat) (H : Heap) (locs : List Loc) (ls : Array Slot), 12 - v < n9 → (v ≤ 12) → va_P D vwCl (TW cI cJ t f (lbG g f n k 3 u v) h τ) H → va_D A (TW cI cJ t f (lbG g f n k 3 u v) h τ) → va_S A s.heap H locs → lv_has ls 8 [(0, .ref (t 0)), (1, .int (nI k)), (2, .int (nI 3)), (3, .int (nI u)), (4, .int (nI ((lbP f n k 3 u v).1))), (5, .int ((lbP f n k 3 u v).2)), (6, .int (nI v))] → W p l e (rmd 6) s m ([.ref (t 0), .int (nI k), .int (nI 3), .int (nI u)] : List Value).toArray below meth c H locs 0 0 (ZW below ([.ref (t 0), .int (nI k), .int (nI 3), .int (nI u)] : List Value).toArray s D (some (.int (nI ((lbP f n k 3 u 12).1)))) (TW cI cJ t f (sGo (fu f k 3 (nI 11)) n u) h τ) A) (F0 m 32 ls []) := by
    intro n9
    induction n9 with
    | zero => intro v H locs ls hmeas; exact absurd hmeas (Nat.not_lt_zero _)
    | succ n9 ih_32 =>
      intro v H locs ls hmeas hv hP hD hS hl
      refine lv_iload hx hb dX3_loudestWith_32 (lv_at hl 6 rfl) ?_
      refine va_gets hx hb hZ.1 hS hown (hU _ mF_X3_89) (fun _ h => h) dX3_loudestWith_34 ?_
      refine lv_iload_n hx hb dX3_loudestWith_37 rfl (lv_at hl 2 rfl) ?_
      refine va_ti hx hb hZ.2.1 hS (i := nI 3) (v := .int (mst 3)) (vp_in_nI (by omega) (by decide)) (by rw [nI_clamp (by omega)]) dX3_loudestWith_38 ?_
      refine q_eqi (y := nI 11) (rfl) ?_
      refine q_icmp_gtN (tgt := 104) (a := v) (b := 11) hx hb dX3_loudestWith_39 (by decide) (by omega) (by omega) (fun c_39 => ?_) (fun c_39 => ?_)
      · refine lv_iload hx hb dX3_loudestWith_104 (lv_at hl 4 rfl) ?_
        exact WR.iret S hr hlk hP hS (by rw [show v = 12 by omega]; rfl) (congrArg (fun z => some (Value.int z)) (by rw [show v = 12 by omega])) dX3_loudestWith_106
      · refine lv_aload_n hx hb dX3_loudestWith_42 rfl (lv_at hl 0 rfl) ?_
        refine g3_trial S hK hP dX3_loudestWith_43 ?_
        refine lv_aload_n hx hb dX3_loudestWith_46 rfl (lv_at hl 0 rfl) ?_
        refine g3_live S hK hP dX3_loudestWith_47 ?_
        refine WR.callVq 11 (w1 := TW cI cJ t f f h τ) S kv_X3_125 (c_X0_takeFrom_2_1 l D cI cJ (sf t 1) (sf t 12) (sf t 23) f (lbG g f n k 3 u v) h) hK hP hD hS hA _ _ TW_s123 TW_s123 PW3_fst rfl ⟨Nat.le_of_ble_eq_true rfl, Nat.le_of_ble_eq_true rfl⟩ hl.1 rfl rfl (Nat.le_of_ble_eq_true rfl) (Nat.zero_le _) (Nat.zero_le _) dX3_loudestWith_50 (fun H locs hP hD hS => ?_)
        refine W.eq (g2 := F0 m 53 ls []) rfl ?_
        refine lv_aload_n hx hb dX3_loudestWith_53 rfl (lv_at hl 0 rfl) ?_
        refine g3_trial S hK hP dX3_loudestWith_54 ?_
        refine lv_iload_n hx hb dX3_loudestWith_57 rfl (lv_at hl 2 rfl) ?_
        refine RO.callV S kv_X3_76 (c_X0_marksOf_3 l D cI cJ (sf t 12) f) hK (TW_trial hP) rfl ⟨Nat.le_of_ble_eq_true rfl, Nat.le_of_ble_eq_true rfl⟩ hl.1 rfl rfl (Nat.le_of_ble_eq_true rfl) (Nat.zero_le _) (Nat.zero_le _) dX3_loudestWith_58 ?_
        refine lv_iload_n hx hb dX3_loudestWith_61 rfl (lv_at hl 1 rfl) ?_
        refine lv_iload hx hb dX3_loudestWith_62 (lv_at hl 6 rfl) ?_
        refine ss_pitch (w1 := TW cI cJ t f (fu f k 3 (nI v)) h τ) S hK hP hD hS TW_s2 (j := k) (by omega) TW_s2 dX3_loudestWith_64 (fun H locs hP hD hS => ?_)
        refine lv_aload_n hx hb dX3_loudestWith_65 rfl (lv_at hl 0 rfl) ?_
        refine g3_trial S hK hP dX3_loudestWith_66 ?_
        refine lv_iload_n hx hb dX3_loudestWith_69 rfl (lv_at hl 3 rfl) ?_
        refine WR.callV (w1 := TW cI cJ t f (sGo (fu f k 3 (nI v)) n u) h τ) S kv_X3_100 (c_X0_passDays l D cI cJ (sf t 12) (fu f k 3 (nI v)) u n ((hw).fuw (k := k) (w := 3) (by decide) (by decide)) d ((upd_ne (by omega)).trans hd) (by omega) (hp.fw (by decide) (by decide)) (hs.fu)) hK hP hD hS hA (_) (_) TW_s2 TW_s2 PW_fst rfl ⟨Nat.le_of_ble_eq_true rfl, Nat.le_of_ble_eq_true rfl⟩ hl.1 rfl rfl (Nat.le_of_ble_eq_true rfl) (Nat.zero_le _) (Nat.zero_le _) dX3_loudestWith_70 (fun H locs hP hD hS => ?_)
        refine W.eq (g2 := F0 m 73 ls []) rfl ?_
        refine lv_aload_n hx hb dX3_loudestWith_73 rfl (lv_at hl 0 rfl) ?_
        refine g3_trial S hK hP dX3_loudestWith_74 ?_
        refine lv_iload_n hx hb dX3_loudestWith_77 rfl (lv_at hl 1 rfl) ?_
        refine RO.callV S kv_X3_80 (c_X0_loudOf l D cI cJ (sf t 12) (sGo (fu f k 3 (nI v)) n u) k n (((hw).fuw (k := k) (w := 3) (by decide) (by decide)).kl (sGo_kl h8)) (by omega)) hK (TW_trial hP) rfl ⟨Nat.le_of_ble_eq_true rfl, Nat.le_of_ble_eq_true rfl⟩ hl.1 rfl rfl (Nat.le_of_ble_eq_true rfl) (Nat.zero_le _) (Nat.zero_le _) dX3_loudestWith_78 ?_
        refine lv_istore (lv' := [(7, .int (sLd (sGo (fu f k 3 (nI v)) n u) n k)), (0, .ref (t 0)), (1, .int (nI k)), (2, .int (nI 3)), (3, .int (nI u)), (4, .int (nI ((lbP f n k 3 u v).1))), (5, .int ((lbP f n k 3 u v).2)), (6, .int (nI v))]) hx hb dX3_loudestWith_81 hl (by decide) rfl (fun ls hl => ?_)
        refine lv_iload hx hb dX3_loudestWith_83 (lv_at hl 0 rfl) ?_
        refine lv_iload hx hb dX3_loudestWith_85 (lv_at hl 6 rfl) ?_
        refine lv_icmp_le (tgt := 98) hx hb dX3_loudestWith_87 (by decide) (fun c_87 => ?_) (fun c_87 => ?_)
        · refine lv_iinc (v := nI (v + 1)) (lv' := [(6, .int (nI (v + 1))), (7, .int (sLd (sGo (fu f k 3 (nI v)) n u) n k)), (0, .ref (t 0)), (1, .int (nI k)), (2, .int (nI 3)), (3, .int (nI u)), (4, .int (nI ((lbP f n k 3 u v).1))), (5, .int ((lbP f n k 3 u v).2))]) hx hb dX3_loudestWith_98 hl (k := 7) rfl (q_inc _) (by decide) rfl (fun ls hl => ?_)
          refine lv_goto (tgt := 32) hx hb dX3_loudestWith_101 (by decide) ?_
          exact ih_32 (v + 1) _ _ ls (by omega) (by omega) hP hD hS (by rw [show nI ((lbP f n k 3 u (v + 1)).1) = nI ((lbP f n k 3 u v).1) from by rw [lbP_0 (i32_not_lt_of_le c_87)], show (lbP f n k 3 u (v + 1)).2 = (lbP f n k 3 u v).2 from by rw [lbP_0 (i32_not_lt_of_le c_87)]]; exact lv_sub hl [2, 3, 4, 5, 6, 7, 0] rfl)
        · refine lv_iload hx hb dX3_loudestWith_90 (lv_at hl 7 rfl) ?_
          refine lv_istore (lv' := [(4, .int (nI v)), (7, .int (sLd (sGo (fu f k 3 (nI v)) n u) n k)), (0, .ref (t 0)), (1, .int (nI k)), (2, .int (nI 3)), (3, .int (nI u)), (5, .int ((lbP f n k 3 u v).2)), (6, .int (nI v))]) hx hb dX3_loudestWith_92 hl (by decide) rfl (fun ls hl => ?_)
          refine lv_iload hx hb dX3_loudestWith_94 (lv_at hl 1 rfl) ?_
          refine lv_istore (lv' := [(5, .int (sLd (sGo (fu f k 3 (nI v)) n u) n k)), (4, .int (nI v)), (7, .int (sLd (sGo (fu f k 3 (nI v)) n u) n k)), (0, .ref (t 0)), (1, .int (nI k)), (2, .int (nI 3)), (3, .int (nI u)), (6, .int (nI v))]) hx hb dX3_loudestWith_96 hl (by decide) rfl (fun ls hl => ?_)
          refine lv_iinc (v := nI (v + 1)) (lv' := [(6, .int (nI (v + 1))), (5, .int (sLd (sGo (fu f k 3 (nI v)) n u) n k)), (4, .int (nI v)), (7, .int (sLd (sGo (fu f k 3 (nI v)) n u) n k)), (0, .ref (t 0)), (1, .int (nI k)), (2, .int (nI 3)), (3, .int (nI u))]) hx hb dX3_loudestWith_98 hl (k := 7) rfl (q_inc _) (by decide) rfl (fun ls hl => ?_)
          refine lv_goto (tgt := 32) hx hb dX3_loudestWith_101 (by decide) ?_
          exact ih_32 (v + 1) _ _ ls (by omega) (by omega) hP hD hS (by rw [show nI ((lbP f n k 3 u (v + 1)).1) = nI v from by rw [lbP_1 (i32_lt_of_not_le c_87)], show (lbP f n k 3 u (v + 1)).2 = sLd (sGo (fu f k 3 (nI v)) n u) n k from by rw [lbP_1 (i32_lt_of_not_le c_87)]]; exact lv_sub hl [4, 5, 6, 7, 2, 1, 0] rfl)
  exact L_32 ((12 - 0) + 1) 0 _ _ ls (Nat.lt_succ_self _) (by omega) hP hD hS (by rw [show nI ((lbP f n k 3 u 0).1) = nI 0 from rfl, show (lbP f n k 3 u 0).2 = (-1) from rfl]; exact lv_sub hl [3, 4, 5, 6, 2, 1, 0] rfl)
set_option maxRecDepth 100000 in
set_option maxHeartbeats 4000000 in
theorem c_X3_loudestWith_bad (l : Launch) (D : va_G) (cI cJ : ClassId) (t : Nat → Nat) (f g h : Nat → Int32) (τ : Nat → Nat → Int32) (mt ka : Nat) (x : Int32) (y : Int32) (z : Int32) (n : Nat) (hw : Wk f n) (hb0 : ¬ ((0 ≤ x ∧ x < nI n) ∧ (nI 0 ≤ y ∧ y ≤ nI 40))) : WZ mt ka l yX3_loudestWith cX3_loudestWith 8 (some .int) 2 D cI cJ (TW cI cJ t f g h τ) [.ref (t 0), .int x, .int z, .int y] (some (.int (-1000001))) (TW cI cJ t f g h (va_up τ 9 (cFi (τ 9) 0))) := by
  refine WZ.of (by decide) (Nat.le_of_ble_eq_true rfl) (fun p e s m below meth c ls A S hr hlk hK hP hD hS hA hZ hl => ?_)
  obtain ⟨hx, hb, hml, hown, hU⟩ := id S
  have hl : lv_has ls 8 [(0, .ref (t 0)), (1, .int x), (2, .int z), (3, .int y)] := hl
  refine lv_aload_n hx hb dX3_loudestWith_0 rfl (lv_at hl 0 rfl) ?_
  refine lv_iload_n hx hb dX3_loudestWith_1 rfl (lv_at hl 1 rfl) ?_
  refine RO.callV S kv_X3_72 (c_X3_isCask l D cI cJ t f g h τ x n (hw)) hK hP rfl ⟨Nat.le_of_ble_eq_true rfl, Nat.le_of_ble_eq_true rfl⟩ hl.1 rfl rfl (Nat.le_of_ble_eq_true rfl) (Nat.zero_le _) (Nat.zero_le _) dX3_loudestWith_2 ?_
  refine q_if_eqB (tgt := 17) hx hb dX3_loudestWith_5 (by decide) (fun c_5 => ?_) (fun c_5 => ?_)
  · refine lv_aload_n hx hb dX3_loudestWith_17 rfl (lv_at hl 0 rfl) ?_
    refine lv_iconst (v := nI 0) hx hb dX3_loudestWith_18 (by decide) ?_
    refine WR.callV (w1 := TW cI cJ t f g h (va_up τ 9 (cFi (τ 9) 0))) S kv_X3_48 (c_X3_fd0 l D cI cJ t f g h τ) hK hP hD hS hA ([]) ([]) (List.append_nil _).symm (List.append_nil _).symm TW_fst rfl ⟨Nat.le_of_ble_eq_true rfl, Nat.le_of_ble_eq_true rfl⟩ hl.1 rfl rfl (Nat.le_of_ble_eq_true rfl) (Nat.zero_le _) (Nat.zero_le _) dX3_loudestWith_19 (fun H locs hP hD hS => ?_)
    exact WR.iret S hr hlk hP hS (rfl) rfl dX3_loudestWith_22
  · refine lv_iload_n hx hb dX3_loudestWith_8 rfl (lv_at hl 3 rfl) ?_
    refine lv_bipush (v := nI 40) hx hb dX3_loudestWith_9 (by decide) ?_
    refine RO.callS S ks_X3_44 (c_X3_isWithin l D cI cJ t f g h τ y (nI 40)) hK hP ⟨Nat.le_of_ble_eq_true rfl, Nat.le_of_ble_eq_true rfl⟩ hl.1 rfl rfl (Nat.le_of_ble_eq_true rfl) (Nat.zero_le _) (Nat.zero_le _) dX3_loudestWith_11 ?_
    refine q_if_neB (tgt := 23) hx hb dX3_loudestWith_14 (by decide) (fun c_14 => ?_) (fun c_14 => ?_)
    · exact absurd (⟨c_5, c_14⟩) hb0
    · refine lv_aload_n hx hb dX3_loudestWith_17 rfl (lv_at hl 0 rfl) ?_
      refine lv_iconst (v := nI 0) hx hb dX3_loudestWith_18 (by decide) ?_
      refine WR.callV (w1 := TW cI cJ t f g h (va_up τ 9 (cFi (τ 9) 0))) S kv_X3_48 (c_X3_fd0 l D cI cJ t f g h τ) hK hP hD hS hA ([]) ([]) (List.append_nil _).symm (List.append_nil _).symm TW_fst rfl ⟨Nat.le_of_ble_eq_true rfl, Nat.le_of_ble_eq_true rfl⟩ hl.1 rfl rfl (Nat.le_of_ble_eq_true rfl) (Nat.zero_le _) (Nat.zero_le _) dX3_loudestWith_19 (fun H locs hP hD hS => ?_)
      exact WR.iret S hr hlk hP hS (rfl) rfl dX3_loudestWith_22
set_option maxRecDepth 100000 in
set_option maxHeartbeats 4000000 in
theorem c_X3_lay_ok (l : Launch) (D : va_G) (cI cJ : ClassId) (t : Nat → Nat) (f g h : Nat → Int32) (τ : Nat → Nat → Int32) (mt ka : Nat) (k : Nat) (u : Nat) (n : Nat) (hw : Wk f n) (d : Nat) (hd : f 1 = nI d) (hp : Pk f n) (hs : Sk f) (hk : k < n) (ht : u ≤ 40) (hd2 : d + 100 ≤ 99999) : WZ mt ka l yX3_lay cX3_lay 3 (some .int) 7 D cI cJ (TW cI cJ t f g h τ) [.ref (t 0), .int (nI k), .int (nI u)] (some (.int (nI ((lbP f n k 1 u 6).1)))) (TW cI cJ t f (sGo (fu f k 1 (nI 5)) n u) h τ) := by
  refine WZ.of (by decide) (Nat.le_of_ble_eq_true rfl) (fun p e s m below meth c ls A S hr hlk hK hP hD hS hA hZ hl => ?_)
  obtain ⟨hx, hb, hml, hown, hU⟩ := id S
  have hl : lv_has ls 3 [(0, .ref (t 0)), (1, .int (nI k)), (2, .int (nI u))] := hl
  refine lv_aload_n hx hb dX3_lay_0 rfl (lv_at hl 0 rfl) ?_
  refine lv_iload_n hx hb dX3_lay_1 rfl (lv_at hl 1 rfl) ?_
  refine lv_iconst (v := nI 1) hx hb dX3_lay_2 (by decide) ?_
  refine lv_iload_n hx hb dX3_lay_3 rfl (lv_at hl 2 rfl) ?_
  refine WZ.callV 0 (w1 := TW cI cJ t f (sGo (fu f k 1 (nI 5)) n u) h τ) hZ S kv_X3_132 (c_X3_loudestWith_w1 l D cI cJ t f g h τ mt ka k u n hw d hd hp hs hk ht hd2) hK hP hD hS hA [] [] (List.append_nil _).symm (List.append_nil _).symm TW_fst rfl ⟨Nat.le_of_ble_eq_true rfl, Nat.le_of_ble_eq_true rfl⟩ hl.1 rfl rfl (Nat.le_of_ble_eq_true rfl) (Nat.zero_le _) (Nat.zero_le _) dX3_lay_4 (fun H locs hP hD hS => ?_)
  exact WR.iret S hr hlk hP hS (rfl) rfl dX3_lay_7
set_option maxRecDepth 100000 in
set_option maxHeartbeats 4000000 in
theorem c_X3_lay_bad (l : Launch) (D : va_G) (cI cJ : ClassId) (t : Nat → Nat) (f g h : Nat → Int32) (τ : Nat → Nat → Int32) (mt ka : Nat) (x : Int32) (y : Int32) (n : Nat) (hw : Wk f n) (hb0 : ¬ ((0 ≤ x ∧ x < nI n) ∧ (nI 0 ≤ y ∧ y ≤ nI 40))) : WZ mt ka l yX3_lay cX3_lay 3 (some .int) 7 D cI cJ (TW cI cJ t f g h τ) [.ref (t 0), .int x, .int y] (some (.int (-1000001))) (TW cI cJ t f g h (va_up τ 9 (cFi (τ 9) 0))) := by
  refine WZ.of (by decide) (Nat.le_of_ble_eq_true rfl) (fun p e s m below meth c ls A S hr hlk hK hP hD hS hA hZ hl => ?_)
  obtain ⟨hx, hb, hml, hown, hU⟩ := id S
  have hl : lv_has ls 3 [(0, .ref (t 0)), (1, .int x), (2, .int y)] := hl
  refine lv_aload_n hx hb dX3_lay_0 rfl (lv_at hl 0 rfl) ?_
  refine lv_iload_n hx hb dX3_lay_1 rfl (lv_at hl 1 rfl) ?_
  refine lv_iconst (v := nI 1) hx hb dX3_lay_2 (by decide) ?_
  refine lv_iload_n hx hb dX3_lay_3 rfl (lv_at hl 2 rfl) ?_
  refine WZ.callV 0 (w1 := TW cI cJ t f g h (va_up τ 9 (cFi (τ 9) 0))) hZ S kv_X3_132 (c_X3_loudestWith_bad l D cI cJ t f g h τ mt ka x y (nI 1) n hw hb0) hK hP hD hS hA [] [] (List.append_nil _).symm (List.append_nil _).symm TW_fst rfl ⟨Nat.le_of_ble_eq_true rfl, Nat.le_of_ble_eq_true rfl⟩ hl.1 rfl rfl (Nat.le_of_ble_eq_true rfl) (Nat.zero_le _) (Nat.zero_le _) dX3_lay_4 (fun H locs hP hD hS => ?_)
  exact WR.iret S hr hlk hP hS (rfl) rfl dX3_lay_7
set_option maxRecDepth 100000 in
set_option maxHeartbeats 4000000 in
theorem c_X3_kindFor_ok (l : Launch) (D : va_G) (cI cJ : ClassId) (t : Nat → Nat) (f g h : Nat → Int32) (τ : Nat → Nat → Int32) (mt ka : Nat) (k : Nat) (u : Nat) (n : Nat) (hw : Wk f n) (d : Nat) (hd : f 1 = nI d) (hp : Pk f n) (hs : Sk f) (hk : k < n) (ht : u ≤ 40) (hd2 : d + 100 ≤ 99999) : WZ mt ka l yX3_kindFor cX3_kindFor 3 (some .int) 7 D cI cJ (TW cI cJ t f g h τ) [.ref (t 0), .int (nI k), .int (nI u)] (some (.int (nI ((lbP f n k 0 u 7).1)))) (TW cI cJ t f (sGo (fu f k 0 (nI 6)) n u) h τ) := by
  refine WZ.of (by decide) (Nat.le_of_ble_eq_true rfl) (fun p e s m below meth c ls A S hr hlk hK hP hD hS hA hZ hl => ?_)
  obtain ⟨hx, hb, hml, hown, hU⟩ := id S
  have hl : lv_has ls 3 [(0, .ref (t 0)), (1, .int (nI k)), (2, .int (nI u))] := hl
  refine lv_aload_n hx hb dX3_kindFor_0 rfl (lv_at hl 0 rfl) ?_
  refine lv_iload_n hx hb dX3_kindFor_1 rfl (lv_at hl 1 rfl) ?_
  refine lv_iconst (v := nI 0) hx hb dX3_kindFor_2 (by decide) ?_
  refine lv_iload_n hx hb dX3_kindFor_3 rfl (lv_at hl 2 rfl) ?_
  refine WZ.callV 0 (w1 := TW cI cJ t f (sGo (fu f k 0 (nI 6)) n u) h τ) hZ S kv_X3_132 (c_X3_loudestWith_w0 l D cI cJ t f g h τ mt ka k u n hw d hd hp hs hk ht hd2) hK hP hD hS hA [] [] (List.append_nil _).symm (List.append_nil _).symm TW_fst rfl ⟨Nat.le_of_ble_eq_true rfl, Nat.le_of_ble_eq_true rfl⟩ hl.1 rfl rfl (Nat.le_of_ble_eq_true rfl) (Nat.zero_le _) (Nat.zero_le _) dX3_kindFor_4 (fun H locs hP hD hS => ?_)
  exact WR.iret S hr hlk hP hS (rfl) rfl dX3_kindFor_7
set_option maxRecDepth 100000 in
set_option maxHeartbeats 4000000 in
theorem c_X3_kindFor_bad (l : Launch) (D : va_G) (cI cJ : ClassId) (t : Nat → Nat) (f g h : Nat → Int32) (τ : Nat → Nat → Int32) (mt ka : Nat) (x : Int32) (y : Int32) (n : Nat) (hw : Wk f n) (hb0 : ¬ ((0 ≤ x ∧ x < nI n) ∧ (nI 0 ≤ y ∧ y ≤ nI 40))) : WZ mt ka l yX3_kindFor cX3_kindFor 3 (some .int) 7 D cI cJ (TW cI cJ t f g h τ) [.ref (t 0), .int x, .int y] (some (.int (-1000001))) (TW cI cJ t f g h (va_up τ 9 (cFi (τ 9) 0))) := by
  refine WZ.of (by decide) (Nat.le_of_ble_eq_true rfl) (fun p e s m below meth c ls A S hr hlk hK hP hD hS hA hZ hl => ?_)
  obtain ⟨hx, hb, hml, hown, hU⟩ := id S
  have hl : lv_has ls 3 [(0, .ref (t 0)), (1, .int x), (2, .int y)] := hl
  refine lv_aload_n hx hb dX3_kindFor_0 rfl (lv_at hl 0 rfl) ?_
  refine lv_iload_n hx hb dX3_kindFor_1 rfl (lv_at hl 1 rfl) ?_
  refine lv_iconst (v := nI 0) hx hb dX3_kindFor_2 (by decide) ?_
  refine lv_iload_n hx hb dX3_kindFor_3 rfl (lv_at hl 2 rfl) ?_
  refine WZ.callV 0 (w1 := TW cI cJ t f g h (va_up τ 9 (cFi (τ 9) 0))) hZ S kv_X3_132 (c_X3_loudestWith_bad l D cI cJ t f g h τ mt ka x y (nI 0) n hw hb0) hK hP hD hS hA [] [] (List.append_nil _).symm (List.append_nil _).symm TW_fst rfl ⟨Nat.le_of_ble_eq_true rfl, Nat.le_of_ble_eq_true rfl⟩ hl.1 rfl rfl (Nat.le_of_ble_eq_true rfl) (Nat.zero_le _) (Nat.zero_le _) dX3_kindFor_4 (fun H locs hP hD hS => ?_)
  exact WR.iret S hr hlk hP hS (rfl) rfl dX3_kindFor_7
set_option maxRecDepth 100000 in
set_option maxHeartbeats 4000000 in
theorem c_X3_pitchFor_ok (l : Launch) (D : va_G) (cI cJ : ClassId) (t : Nat → Nat) (f g h : Nat → Int32) (τ : Nat → Nat → Int32) (mt ka : Nat) (k : Nat) (u : Nat) (n : Nat) (hw : Wk f n) (d : Nat) (hd : f 1 = nI d) (hp : Pk f n) (hs : Sk f) (hk : k < n) (ht : u ≤ 40) (hd2 : d + 100 ≤ 99999) : WZ mt ka l yX3_pitchFor cX3_pitchFor 3 (some .int) 7 D cI cJ (TW cI cJ t f g h τ) [.ref (t 0), .int (nI k), .int (nI u)] (some (.int (nI ((lbP f n k 3 u 12).1)))) (TW cI cJ t f (sGo (fu f k 3 (nI 11)) n u) h τ) := by
  refine WZ.of (by decide) (Nat.le_of_ble_eq_true rfl) (fun p e s m below meth c ls A S hr hlk hK hP hD hS hA hZ hl => ?_)
  obtain ⟨hx, hb, hml, hown, hU⟩ := id S
  have hl : lv_has ls 3 [(0, .ref (t 0)), (1, .int (nI k)), (2, .int (nI u))] := hl
  refine lv_aload_n hx hb dX3_pitchFor_0 rfl (lv_at hl 0 rfl) ?_
  refine lv_iload_n hx hb dX3_pitchFor_1 rfl (lv_at hl 1 rfl) ?_
  refine lv_iconst (v := nI 3) hx hb dX3_pitchFor_2 (by decide) ?_
  refine lv_iload_n hx hb dX3_pitchFor_3 rfl (lv_at hl 2 rfl) ?_
  refine WZ.callV 0 (w1 := TW cI cJ t f (sGo (fu f k 3 (nI 11)) n u) h τ) hZ S kv_X3_132 (c_X3_loudestWith_w3 l D cI cJ t f g h τ mt ka k u n hw d hd hp hs hk ht hd2) hK hP hD hS hA [] [] (List.append_nil _).symm (List.append_nil _).symm TW_fst rfl ⟨Nat.le_of_ble_eq_true rfl, Nat.le_of_ble_eq_true rfl⟩ hl.1 rfl rfl (Nat.le_of_ble_eq_true rfl) (Nat.zero_le _) (Nat.zero_le _) dX3_pitchFor_4 (fun H locs hP hD hS => ?_)
  exact WR.iret S hr hlk hP hS (rfl) rfl dX3_pitchFor_7
set_option maxRecDepth 100000 in
set_option maxHeartbeats 4000000 in
theorem c_X3_pitchFor_bad (l : Launch) (D : va_G) (cI cJ : ClassId) (t : Nat → Nat) (f g h : Nat → Int32) (τ : Nat → Nat → Int32) (mt ka : Nat) (x : Int32) (y : Int32) (n : Nat) (hw : Wk f n) (hb0 : ¬ ((0 ≤ x ∧ x < nI n) ∧ (nI 0 ≤ y ∧ y ≤ nI 40))) : WZ mt ka l yX3_pitchFor cX3_pitchFor 3 (some .int) 7 D cI cJ (TW cI cJ t f g h τ) [.ref (t 0), .int x, .int y] (some (.int (-1000001))) (TW cI cJ t f g h (va_up τ 9 (cFi (τ 9) 0))) := by
  refine WZ.of (by decide) (Nat.le_of_ble_eq_true rfl) (fun p e s m below meth c ls A S hr hlk hK hP hD hS hA hZ hl => ?_)
  obtain ⟨hx, hb, hml, hown, hU⟩ := id S
  have hl : lv_has ls 3 [(0, .ref (t 0)), (1, .int x), (2, .int y)] := hl
  refine lv_aload_n hx hb dX3_pitchFor_0 rfl (lv_at hl 0 rfl) ?_
  refine lv_iload_n hx hb dX3_pitchFor_1 rfl (lv_at hl 1 rfl) ?_
  refine lv_iconst (v := nI 3) hx hb dX3_pitchFor_2 (by decide) ?_
  refine lv_iload_n hx hb dX3_pitchFor_3 rfl (lv_at hl 2 rfl) ?_
  refine WZ.callV 0 (w1 := TW cI cJ t f g h (va_up τ 9 (cFi (τ 9) 0))) hZ S kv_X3_132 (c_X3_loudestWith_bad l D cI cJ t f g h τ mt ka x y (nI 3) n hw hb0) hK hP hD hS hA [] [] (List.append_nil _).symm (List.append_nil _).symm TW_fst rfl ⟨Nat.le_of_ble_eq_true rfl, Nat.le_of_ble_eq_true rfl⟩ hl.1 rfl rfl (Nat.le_of_ble_eq_true rfl) (Nat.zero_le _) (Nat.zero_le _) dX3_pitchFor_4 (fun H locs hP hD hS => ?_)
  exact WR.iret S hr hlk hP hS (rfl) rfl dX3_pitchFor_7
set_option maxRecDepth 100000 in
set_option maxHeartbeats 4000000 in
theorem c_X3_isUnder_0_0 (l : Launch) (D : va_G) (cI cJ : ClassId) (t : Nat → Nat) (f g h : Nat → Int32) (τ : Nat → Nat → Int32) (mt ka : Nat) : RZ mt ka l yX3_isUnder cX3_isUnder 4 (some .boolean) 1 D cI cJ (TW cI cJ t f g h τ) [.int (nI 0), .int (nI 0)] (.int (bI (uU 0 0))) := by
  refine RZ.of (by decide) (Nat.le_of_ble_eq_true rfl) (fun p e s m below meth c ls S hr hlk hK hP hZ hl => ?_)
  obtain ⟨hx, hb, hml, hown, hU⟩ := id S
  have hl : lv_has ls 4 [(0, .int (nI 0)), (1, .int (nI 0))] := hl
  refine lv_iload_n hx hb dX3_isUnder_0 rfl (lv_at hl 0 rfl) ?_
  refine lv_istore_n (lv' := [(2, .int (nI 0)), (0, .int (nI 0)), (1, .int (nI 0))]) hx hb dX3_isUnder_1 rfl hl (by decide) rfl (fun ls hl => ?_)
  refine lv_iconst (v := nI 0) hx hb dX3_isUnder_2 (by decide) ?_
  refine lv_istore_n (lv' := [(3, .int (nI 0)), (2, .int (nI 0)), (0, .int (nI 0)), (1, .int (nI 0))]) hx hb dX3_isUnder_3 rfl hl (by decide) rfl (fun ls hl => ?_)
  refine lv_iload_n hx hb dX3_isUnder_4 rfl (lv_at hl 0 rfl) ?_
  refine lv_bipush (v := nI 7) hx hb dX3_isUnder_5 (by decide) ?_
  refine q_icmp_geN (tgt := 38) (a := 0) (b := 7) hx hb dX3_isUnder_7 (by decide) (by omega) (by omega) (fun h => absurd h (by omega)) (fun _ => ?_)
  refine lv_iload_n hx hb dX3_isUnder_10 rfl (lv_at hl 1 rfl) ?_
  refine lv_bipush (v := nI 6) hx hb dX3_isUnder_11 (by decide) ?_
  refine RO.callS S ks_X3_44 (c_X3_isWithin l D cI cJ t f g h τ (nI 0) (nI 6)) hK hP ⟨Nat.le_of_ble_eq_true rfl, Nat.le_of_ble_eq_true rfl⟩ hl.1 rfl rfl (Nat.le_of_ble_eq_true rfl) (Nat.zero_le _) (Nat.zero_le _) dX3_isUnder_13 ?_
  refine q_if_eqB (tgt := 38) hx hb dX3_isUnder_16 (by decide) (fun h => absurd (⟨nI_le (by omega) (by omega), nI_le (by omega) (by omega)⟩) h) (fun _ => ?_)
  refine lv_iload_n hx hb dX3_isUnder_19 rfl (lv_at hl 1 rfl) ?_
  refine lv_iload_n hx hb dX3_isUnder_20 rfl (lv_at hl 3 rfl) ?_
  refine q_icmp_neN (tgt := 26) (a := 0) (b := 0) hx hb dX3_isUnder_21 (by decide) (by omega) (by omega) (fun h => absurd h (by omega)) (fun _ => ?_)
  refine lv_iconst (v := nI 1) hx hb dX3_isUnder_24 (by decide) ?_
  exact RO.zret S hr hlk (bI_t (by decide)) dX3_isUnder_25
set_option maxRecDepth 100000 in
set_option maxHeartbeats 4000000 in
theorem c_X3_isUnder_0_1 (l : Launch) (D : va_G) (cI cJ : ClassId) (t : Nat → Nat) (f g h : Nat → Int32) (τ : Nat → Nat → Int32) (mt ka : Nat) : RZ mt ka l yX3_isUnder cX3_isUnder 4 (some .boolean) 1 D cI cJ (TW cI cJ t f g h τ) [.int (nI 0), .int (nI 1)] (.int (bI (uU 0 1))) := by
  refine RZ.of (by decide) (Nat.le_of_ble_eq_true rfl) (fun p e s m below meth c ls S hr hlk hK hP hZ hl => ?_)
  obtain ⟨hx, hb, hml, hown, hU⟩ := id S
  have hl : lv_has ls 4 [(0, .int (nI 0)), (1, .int (nI 1))] := hl
  refine lv_iload_n hx hb dX3_isUnder_0 rfl (lv_at hl 0 rfl) ?_
  refine lv_istore_n (lv' := [(2, .int (nI 0)), (0, .int (nI 0)), (1, .int (nI 1))]) hx hb dX3_isUnder_1 rfl hl (by decide) rfl (fun ls hl => ?_)
  refine lv_iconst (v := nI 0) hx hb dX3_isUnder_2 (by decide) ?_
  refine lv_istore_n (lv' := [(3, .int (nI 0)), (2, .int (nI 0)), (0, .int (nI 0)), (1, .int (nI 1))]) hx hb dX3_isUnder_3 rfl hl (by decide) rfl (fun ls hl => ?_)
  refine lv_iload_n hx hb dX3_isUnder_4 rfl (lv_at hl 0 rfl) ?_
  refine lv_bipush (v := nI 7) hx hb dX3_isUnder_5 (by decide) ?_
  refine q_icmp_geN (tgt := 38) (a := 0) (b := 7) hx hb dX3_isUnder_7 (by decide) (by omega) (by omega) (fun h => absurd h (by omega)) (fun _ => ?_)
  refine lv_iload_n hx hb dX3_isUnder_10 rfl (lv_at hl 1 rfl) ?_
  refine lv_bipush (v := nI 6) hx hb dX3_isUnder_11 (by decide) ?_
  refine RO.callS S ks_X3_44 (c_X3_isWithin l D cI cJ t f g h τ (nI 0) (nI 6)) hK hP ⟨Nat.le_of_ble_eq_true rfl, Nat.le_of_ble_eq_true rfl⟩ hl.1 rfl rfl (Nat.le_of_ble_eq_true rfl) (Nat.zero_le _) (Nat.zero_le _) dX3_isUnder_13 ?_
  refine q_if_eqB (tgt := 38) hx hb dX3_isUnder_16 (by decide) (fun h => absurd (⟨nI_le (by omega) (by omega), nI_le (by omega) (by omega)⟩) h) (fun _ => ?_)
  refine lv_iload_n hx hb dX3_isUnder_19 rfl (lv_at hl 1 rfl) ?_
  refine lv_iload_n hx hb dX3_isUnder_20 rfl (lv_at hl 3 rfl) ?_
  refine q_icmp_neN (tgt := 26) (a := 0) (b := 1) hx hb dX3_isUnder_21 (by decide) (by omega) (by omega) (fun _ => ?_) (fun h => absurd h (by omega))
  refine va_gets hx hb hZ.2.2.1 va_S.rf hown (hU _ mF_X3_235) (fun _ h => h) dX3_isUnder_26 ?_
  refine lv_iload_n hx hb dX3_isUnder_29 rfl (lv_at hl 1 rfl) ?_
  refine va_ti hx hb hZ.2.2.2 va_S.rf (i := nI 0) (v := .int (kab 0)) (vp_in_nI (by omega) (by decide)) (by rw [nI_clamp (by omega)]) dX3_isUnder_30 ?_
  refine q_eqi (y := (-1)) (rfl) ?_
  refine lv_istore_n (lv' := [(2, .int (-1)), (3, .int (nI 0)), (0, .int (nI 0)), (1, .int (nI 1))]) hx hb dX3_isUnder_31 rfl hl (by decide) rfl (fun ls hl => ?_)
  refine lv_iinc (v := nI 1) (lv' := [(3, .int (nI 1)), (2, .int (-1)), (0, .int (nI 0)), (1, .int (nI 1))]) hx hb dX3_isUnder_32 hl (k := 1) rfl (by decide) (by decide) rfl (fun ls hl => ?_)
  refine lv_goto (tgt := 4) hx hb dX3_isUnder_35 (by decide) ?_
  refine lv_iload_n hx hb dX3_isUnder_4 rfl (lv_at hl 0 rfl) ?_
  refine lv_bipush (v := nI 7) hx hb dX3_isUnder_5 (by decide) ?_
  refine q_icmp_geN (tgt := 38) (a := 1) (b := 7) hx hb dX3_isUnder_7 (by decide) (by omega) (by omega) (fun h => absurd h (by omega)) (fun _ => ?_)
  refine lv_iload_n hx hb dX3_isUnder_10 rfl (lv_at hl 1 rfl) ?_
  refine lv_bipush (v := nI 6) hx hb dX3_isUnder_11 (by decide) ?_
  refine RO.callS S ks_X3_44 (c_X3_isWithin l D cI cJ t f g h τ (-1) (nI 6)) hK hP ⟨Nat.le_of_ble_eq_true rfl, Nat.le_of_ble_eq_true rfl⟩ hl.1 rfl rfl (Nat.le_of_ble_eq_true rfl) (Nat.zero_le _) (Nat.zero_le _) dX3_isUnder_13 ?_
  refine q_if_eqB (tgt := 38) hx hb dX3_isUnder_16 (by decide) (fun _ => ?_) (fun h => absurd h (by decide))
  refine lv_iconst (v := nI 0) hx hb dX3_isUnder_38 (by decide) ?_
  exact RO.zret S hr hlk (bI_f (by decide)) dX3_isUnder_39
set_option maxRecDepth 100000 in
set_option maxHeartbeats 4000000 in
theorem c_X3_isUnder_0_2 (l : Launch) (D : va_G) (cI cJ : ClassId) (t : Nat → Nat) (f g h : Nat → Int32) (τ : Nat → Nat → Int32) (mt ka : Nat) : RZ mt ka l yX3_isUnder cX3_isUnder 4 (some .boolean) 1 D cI cJ (TW cI cJ t f g h τ) [.int (nI 0), .int (nI 2)] (.int (bI (uU 0 2))) := by
  refine RZ.of (by decide) (Nat.le_of_ble_eq_true rfl) (fun p e s m below meth c ls S hr hlk hK hP hZ hl => ?_)
  obtain ⟨hx, hb, hml, hown, hU⟩ := id S
  have hl : lv_has ls 4 [(0, .int (nI 0)), (1, .int (nI 2))] := hl
  refine lv_iload_n hx hb dX3_isUnder_0 rfl (lv_at hl 0 rfl) ?_
  refine lv_istore_n (lv' := [(2, .int (nI 0)), (0, .int (nI 0)), (1, .int (nI 2))]) hx hb dX3_isUnder_1 rfl hl (by decide) rfl (fun ls hl => ?_)
  refine lv_iconst (v := nI 0) hx hb dX3_isUnder_2 (by decide) ?_
  refine lv_istore_n (lv' := [(3, .int (nI 0)), (2, .int (nI 0)), (0, .int (nI 0)), (1, .int (nI 2))]) hx hb dX3_isUnder_3 rfl hl (by decide) rfl (fun ls hl => ?_)
  refine lv_iload_n hx hb dX3_isUnder_4 rfl (lv_at hl 0 rfl) ?_
  refine lv_bipush (v := nI 7) hx hb dX3_isUnder_5 (by decide) ?_
  refine q_icmp_geN (tgt := 38) (a := 0) (b := 7) hx hb dX3_isUnder_7 (by decide) (by omega) (by omega) (fun h => absurd h (by omega)) (fun _ => ?_)
  refine lv_iload_n hx hb dX3_isUnder_10 rfl (lv_at hl 1 rfl) ?_
  refine lv_bipush (v := nI 6) hx hb dX3_isUnder_11 (by decide) ?_
  refine RO.callS S ks_X3_44 (c_X3_isWithin l D cI cJ t f g h τ (nI 0) (nI 6)) hK hP ⟨Nat.le_of_ble_eq_true rfl, Nat.le_of_ble_eq_true rfl⟩ hl.1 rfl rfl (Nat.le_of_ble_eq_true rfl) (Nat.zero_le _) (Nat.zero_le _) dX3_isUnder_13 ?_
  refine q_if_eqB (tgt := 38) hx hb dX3_isUnder_16 (by decide) (fun h => absurd (⟨nI_le (by omega) (by omega), nI_le (by omega) (by omega)⟩) h) (fun _ => ?_)
  refine lv_iload_n hx hb dX3_isUnder_19 rfl (lv_at hl 1 rfl) ?_
  refine lv_iload_n hx hb dX3_isUnder_20 rfl (lv_at hl 3 rfl) ?_
  refine q_icmp_neN (tgt := 26) (a := 0) (b := 2) hx hb dX3_isUnder_21 (by decide) (by omega) (by omega) (fun _ => ?_) (fun h => absurd h (by omega))
  refine va_gets hx hb hZ.2.2.1 va_S.rf hown (hU _ mF_X3_235) (fun _ h => h) dX3_isUnder_26 ?_
  refine lv_iload_n hx hb dX3_isUnder_29 rfl (lv_at hl 1 rfl) ?_
  refine va_ti hx hb hZ.2.2.2 va_S.rf (i := nI 0) (v := .int (kab 0)) (vp_in_nI (by omega) (by decide)) (by rw [nI_clamp (by omega)]) dX3_isUnder_30 ?_
  refine q_eqi (y := (-1)) (rfl) ?_
  refine lv_istore_n (lv' := [(2, .int (-1)), (3, .int (nI 0)), (0, .int (nI 0)), (1, .int (nI 2))]) hx hb dX3_isUnder_31 rfl hl (by decide) rfl (fun ls hl => ?_)
  refine lv_iinc (v := nI 1) (lv' := [(3, .int (nI 1)), (2, .int (-1)), (0, .int (nI 0)), (1, .int (nI 2))]) hx hb dX3_isUnder_32 hl (k := 1) rfl (by decide) (by decide) rfl (fun ls hl => ?_)
  refine lv_goto (tgt := 4) hx hb dX3_isUnder_35 (by decide) ?_
  refine lv_iload_n hx hb dX3_isUnder_4 rfl (lv_at hl 0 rfl) ?_
  refine lv_bipush (v := nI 7) hx hb dX3_isUnder_5 (by decide) ?_
  refine q_icmp_geN (tgt := 38) (a := 1) (b := 7) hx hb dX3_isUnder_7 (by decide) (by omega) (by omega) (fun h => absurd h (by omega)) (fun _ => ?_)
  refine lv_iload_n hx hb dX3_isUnder_10 rfl (lv_at hl 1 rfl) ?_
  refine lv_bipush (v := nI 6) hx hb dX3_isUnder_11 (by decide) ?_
  refine RO.callS S ks_X3_44 (c_X3_isWithin l D cI cJ t f g h τ (-1) (nI 6)) hK hP ⟨Nat.le_of_ble_eq_true rfl, Nat.le_of_ble_eq_true rfl⟩ hl.1 rfl rfl (Nat.le_of_ble_eq_true rfl) (Nat.zero_le _) (Nat.zero_le _) dX3_isUnder_13 ?_
  refine q_if_eqB (tgt := 38) hx hb dX3_isUnder_16 (by decide) (fun _ => ?_) (fun h => absurd h (by decide))
  refine lv_iconst (v := nI 0) hx hb dX3_isUnder_38 (by decide) ?_
  exact RO.zret S hr hlk (bI_f (by decide)) dX3_isUnder_39
set_option maxRecDepth 100000 in
set_option maxHeartbeats 4000000 in
theorem c_X3_isUnder_0_3 (l : Launch) (D : va_G) (cI cJ : ClassId) (t : Nat → Nat) (f g h : Nat → Int32) (τ : Nat → Nat → Int32) (mt ka : Nat) : RZ mt ka l yX3_isUnder cX3_isUnder 4 (some .boolean) 1 D cI cJ (TW cI cJ t f g h τ) [.int (nI 0), .int (nI 3)] (.int (bI (uU 0 3))) := by
  refine RZ.of (by decide) (Nat.le_of_ble_eq_true rfl) (fun p e s m below meth c ls S hr hlk hK hP hZ hl => ?_)
  obtain ⟨hx, hb, hml, hown, hU⟩ := id S
  have hl : lv_has ls 4 [(0, .int (nI 0)), (1, .int (nI 3))] := hl
  refine lv_iload_n hx hb dX3_isUnder_0 rfl (lv_at hl 0 rfl) ?_
  refine lv_istore_n (lv' := [(2, .int (nI 0)), (0, .int (nI 0)), (1, .int (nI 3))]) hx hb dX3_isUnder_1 rfl hl (by decide) rfl (fun ls hl => ?_)
  refine lv_iconst (v := nI 0) hx hb dX3_isUnder_2 (by decide) ?_
  refine lv_istore_n (lv' := [(3, .int (nI 0)), (2, .int (nI 0)), (0, .int (nI 0)), (1, .int (nI 3))]) hx hb dX3_isUnder_3 rfl hl (by decide) rfl (fun ls hl => ?_)
  refine lv_iload_n hx hb dX3_isUnder_4 rfl (lv_at hl 0 rfl) ?_
  refine lv_bipush (v := nI 7) hx hb dX3_isUnder_5 (by decide) ?_
  refine q_icmp_geN (tgt := 38) (a := 0) (b := 7) hx hb dX3_isUnder_7 (by decide) (by omega) (by omega) (fun h => absurd h (by omega)) (fun _ => ?_)
  refine lv_iload_n hx hb dX3_isUnder_10 rfl (lv_at hl 1 rfl) ?_
  refine lv_bipush (v := nI 6) hx hb dX3_isUnder_11 (by decide) ?_
  refine RO.callS S ks_X3_44 (c_X3_isWithin l D cI cJ t f g h τ (nI 0) (nI 6)) hK hP ⟨Nat.le_of_ble_eq_true rfl, Nat.le_of_ble_eq_true rfl⟩ hl.1 rfl rfl (Nat.le_of_ble_eq_true rfl) (Nat.zero_le _) (Nat.zero_le _) dX3_isUnder_13 ?_
  refine q_if_eqB (tgt := 38) hx hb dX3_isUnder_16 (by decide) (fun h => absurd (⟨nI_le (by omega) (by omega), nI_le (by omega) (by omega)⟩) h) (fun _ => ?_)
  refine lv_iload_n hx hb dX3_isUnder_19 rfl (lv_at hl 1 rfl) ?_
  refine lv_iload_n hx hb dX3_isUnder_20 rfl (lv_at hl 3 rfl) ?_
  refine q_icmp_neN (tgt := 26) (a := 0) (b := 3) hx hb dX3_isUnder_21 (by decide) (by omega) (by omega) (fun _ => ?_) (fun h => absurd h (by omega))
  refine va_gets hx hb hZ.2.2.1 va_S.rf hown (hU _ mF_X3_235) (fun _ h => h) dX3_isUnder_26 ?_
  refine lv_iload_n hx hb dX3_isUnder_29 rfl (lv_at hl 1 rfl) ?_
  refine va_ti hx hb hZ.2.2.2 va_S.rf (i := nI 0) (v := .int (kab 0)) (vp_in_nI (by omega) (by decide)) (by rw [nI_clamp (by omega)]) dX3_isUnder_30 ?_
  refine q_eqi (y := (-1)) (rfl) ?_
  refine lv_istore_n (lv' := [(2, .int (-1)), (3, .int (nI 0)), (0, .int (nI 0)), (1, .int (nI 3))]) hx hb dX3_isUnder_31 rfl hl (by decide) rfl (fun ls hl => ?_)
  refine lv_iinc (v := nI 1) (lv' := [(3, .int (nI 1)), (2, .int (-1)), (0, .int (nI 0)), (1, .int (nI 3))]) hx hb dX3_isUnder_32 hl (k := 1) rfl (by decide) (by decide) rfl (fun ls hl => ?_)
  refine lv_goto (tgt := 4) hx hb dX3_isUnder_35 (by decide) ?_
  refine lv_iload_n hx hb dX3_isUnder_4 rfl (lv_at hl 0 rfl) ?_
  refine lv_bipush (v := nI 7) hx hb dX3_isUnder_5 (by decide) ?_
  refine q_icmp_geN (tgt := 38) (a := 1) (b := 7) hx hb dX3_isUnder_7 (by decide) (by omega) (by omega) (fun h => absurd h (by omega)) (fun _ => ?_)
  refine lv_iload_n hx hb dX3_isUnder_10 rfl (lv_at hl 1 rfl) ?_
  refine lv_bipush (v := nI 6) hx hb dX3_isUnder_11 (by decide) ?_
  refine RO.callS S ks_X3_44 (c_X3_isWithin l D cI cJ t f g h τ (-1) (nI 6)) hK hP ⟨Nat.le_of_ble_eq_true rfl, Nat.le_of_ble_eq_true rfl⟩ hl.1 rfl rfl (Nat.le_of_ble_eq_true rfl) (Nat.zero_le _) (Nat.zero_le _) dX3_isUnder_13 ?_
  refine q_if_eqB (tgt := 38) hx hb dX3_isUnder_16 (by decide) (fun _ => ?_) (fun h => absurd h (by decide))
  refine lv_iconst (v := nI 0) hx hb dX3_isUnder_38 (by decide) ?_
  exact RO.zret S hr hlk (bI_f (by decide)) dX3_isUnder_39
set_option maxRecDepth 100000 in
set_option maxHeartbeats 4000000 in
theorem c_X3_isUnder_0_4 (l : Launch) (D : va_G) (cI cJ : ClassId) (t : Nat → Nat) (f g h : Nat → Int32) (τ : Nat → Nat → Int32) (mt ka : Nat) : RZ mt ka l yX3_isUnder cX3_isUnder 4 (some .boolean) 1 D cI cJ (TW cI cJ t f g h τ) [.int (nI 0), .int (nI 4)] (.int (bI (uU 0 4))) := by
  refine RZ.of (by decide) (Nat.le_of_ble_eq_true rfl) (fun p e s m below meth c ls S hr hlk hK hP hZ hl => ?_)
  obtain ⟨hx, hb, hml, hown, hU⟩ := id S
  have hl : lv_has ls 4 [(0, .int (nI 0)), (1, .int (nI 4))] := hl
  refine lv_iload_n hx hb dX3_isUnder_0 rfl (lv_at hl 0 rfl) ?_
  refine lv_istore_n (lv' := [(2, .int (nI 0)), (0, .int (nI 0)), (1, .int (nI 4))]) hx hb dX3_isUnder_1 rfl hl (by decide) rfl (fun ls hl => ?_)
  refine lv_iconst (v := nI 0) hx hb dX3_isUnder_2 (by decide) ?_
  refine lv_istore_n (lv' := [(3, .int (nI 0)), (2, .int (nI 0)), (0, .int (nI 0)), (1, .int (nI 4))]) hx hb dX3_isUnder_3 rfl hl (by decide) rfl (fun ls hl => ?_)
  refine lv_iload_n hx hb dX3_isUnder_4 rfl (lv_at hl 0 rfl) ?_
  refine lv_bipush (v := nI 7) hx hb dX3_isUnder_5 (by decide) ?_
  refine q_icmp_geN (tgt := 38) (a := 0) (b := 7) hx hb dX3_isUnder_7 (by decide) (by omega) (by omega) (fun h => absurd h (by omega)) (fun _ => ?_)
  refine lv_iload_n hx hb dX3_isUnder_10 rfl (lv_at hl 1 rfl) ?_
  refine lv_bipush (v := nI 6) hx hb dX3_isUnder_11 (by decide) ?_
  refine RO.callS S ks_X3_44 (c_X3_isWithin l D cI cJ t f g h τ (nI 0) (nI 6)) hK hP ⟨Nat.le_of_ble_eq_true rfl, Nat.le_of_ble_eq_true rfl⟩ hl.1 rfl rfl (Nat.le_of_ble_eq_true rfl) (Nat.zero_le _) (Nat.zero_le _) dX3_isUnder_13 ?_
  refine q_if_eqB (tgt := 38) hx hb dX3_isUnder_16 (by decide) (fun h => absurd (⟨nI_le (by omega) (by omega), nI_le (by omega) (by omega)⟩) h) (fun _ => ?_)
  refine lv_iload_n hx hb dX3_isUnder_19 rfl (lv_at hl 1 rfl) ?_
  refine lv_iload_n hx hb dX3_isUnder_20 rfl (lv_at hl 3 rfl) ?_
  refine q_icmp_neN (tgt := 26) (a := 0) (b := 4) hx hb dX3_isUnder_21 (by decide) (by omega) (by omega) (fun _ => ?_) (fun h => absurd h (by omega))
  refine va_gets hx hb hZ.2.2.1 va_S.rf hown (hU _ mF_X3_235) (fun _ h => h) dX3_isUnder_26 ?_
  refine lv_iload_n hx hb dX3_isUnder_29 rfl (lv_at hl 1 rfl) ?_
  refine va_ti hx hb hZ.2.2.2 va_S.rf (i := nI 0) (v := .int (kab 0)) (vp_in_nI (by omega) (by decide)) (by rw [nI_clamp (by omega)]) dX3_isUnder_30 ?_
  refine q_eqi (y := (-1)) (rfl) ?_
  refine lv_istore_n (lv' := [(2, .int (-1)), (3, .int (nI 0)), (0, .int (nI 0)), (1, .int (nI 4))]) hx hb dX3_isUnder_31 rfl hl (by decide) rfl (fun ls hl => ?_)
  refine lv_iinc (v := nI 1) (lv' := [(3, .int (nI 1)), (2, .int (-1)), (0, .int (nI 0)), (1, .int (nI 4))]) hx hb dX3_isUnder_32 hl (k := 1) rfl (by decide) (by decide) rfl (fun ls hl => ?_)
  refine lv_goto (tgt := 4) hx hb dX3_isUnder_35 (by decide) ?_
  refine lv_iload_n hx hb dX3_isUnder_4 rfl (lv_at hl 0 rfl) ?_
  refine lv_bipush (v := nI 7) hx hb dX3_isUnder_5 (by decide) ?_
  refine q_icmp_geN (tgt := 38) (a := 1) (b := 7) hx hb dX3_isUnder_7 (by decide) (by omega) (by omega) (fun h => absurd h (by omega)) (fun _ => ?_)
  refine lv_iload_n hx hb dX3_isUnder_10 rfl (lv_at hl 1 rfl) ?_
  refine lv_bipush (v := nI 6) hx hb dX3_isUnder_11 (by decide) ?_
  refine RO.callS S ks_X3_44 (c_X3_isWithin l D cI cJ t f g h τ (-1) (nI 6)) hK hP ⟨Nat.le_of_ble_eq_true rfl, Nat.le_of_ble_eq_true rfl⟩ hl.1 rfl rfl (Nat.le_of_ble_eq_true rfl) (Nat.zero_le _) (Nat.zero_le _) dX3_isUnder_13 ?_
  refine q_if_eqB (tgt := 38) hx hb dX3_isUnder_16 (by decide) (fun _ => ?_) (fun h => absurd h (by decide))
  refine lv_iconst (v := nI 0) hx hb dX3_isUnder_38 (by decide) ?_
  exact RO.zret S hr hlk (bI_f (by decide)) dX3_isUnder_39
set_option maxRecDepth 100000 in
set_option maxHeartbeats 4000000 in
theorem c_X3_isUnder_0_5 (l : Launch) (D : va_G) (cI cJ : ClassId) (t : Nat → Nat) (f g h : Nat → Int32) (τ : Nat → Nat → Int32) (mt ka : Nat) : RZ mt ka l yX3_isUnder cX3_isUnder 4 (some .boolean) 1 D cI cJ (TW cI cJ t f g h τ) [.int (nI 0), .int (nI 5)] (.int (bI (uU 0 5))) := by
  refine RZ.of (by decide) (Nat.le_of_ble_eq_true rfl) (fun p e s m below meth c ls S hr hlk hK hP hZ hl => ?_)
  obtain ⟨hx, hb, hml, hown, hU⟩ := id S
  have hl : lv_has ls 4 [(0, .int (nI 0)), (1, .int (nI 5))] := hl
  refine lv_iload_n hx hb dX3_isUnder_0 rfl (lv_at hl 0 rfl) ?_
  refine lv_istore_n (lv' := [(2, .int (nI 0)), (0, .int (nI 0)), (1, .int (nI 5))]) hx hb dX3_isUnder_1 rfl hl (by decide) rfl (fun ls hl => ?_)
  refine lv_iconst (v := nI 0) hx hb dX3_isUnder_2 (by decide) ?_
  refine lv_istore_n (lv' := [(3, .int (nI 0)), (2, .int (nI 0)), (0, .int (nI 0)), (1, .int (nI 5))]) hx hb dX3_isUnder_3 rfl hl (by decide) rfl (fun ls hl => ?_)
  refine lv_iload_n hx hb dX3_isUnder_4 rfl (lv_at hl 0 rfl) ?_
  refine lv_bipush (v := nI 7) hx hb dX3_isUnder_5 (by decide) ?_
  refine q_icmp_geN (tgt := 38) (a := 0) (b := 7) hx hb dX3_isUnder_7 (by decide) (by omega) (by omega) (fun h => absurd h (by omega)) (fun _ => ?_)
  refine lv_iload_n hx hb dX3_isUnder_10 rfl (lv_at hl 1 rfl) ?_
  refine lv_bipush (v := nI 6) hx hb dX3_isUnder_11 (by decide) ?_
  refine RO.callS S ks_X3_44 (c_X3_isWithin l D cI cJ t f g h τ (nI 0) (nI 6)) hK hP ⟨Nat.le_of_ble_eq_true rfl, Nat.le_of_ble_eq_true rfl⟩ hl.1 rfl rfl (Nat.le_of_ble_eq_true rfl) (Nat.zero_le _) (Nat.zero_le _) dX3_isUnder_13 ?_
  refine q_if_eqB (tgt := 38) hx hb dX3_isUnder_16 (by decide) (fun h => absurd (⟨nI_le (by omega) (by omega), nI_le (by omega) (by omega)⟩) h) (fun _ => ?_)
  refine lv_iload_n hx hb dX3_isUnder_19 rfl (lv_at hl 1 rfl) ?_
  refine lv_iload_n hx hb dX3_isUnder_20 rfl (lv_at hl 3 rfl) ?_
  refine q_icmp_neN (tgt := 26) (a := 0) (b := 5) hx hb dX3_isUnder_21 (by decide) (by omega) (by omega) (fun _ => ?_) (fun h => absurd h (by omega))
  refine va_gets hx hb hZ.2.2.1 va_S.rf hown (hU _ mF_X3_235) (fun _ h => h) dX3_isUnder_26 ?_
  refine lv_iload_n hx hb dX3_isUnder_29 rfl (lv_at hl 1 rfl) ?_
  refine va_ti hx hb hZ.2.2.2 va_S.rf (i := nI 0) (v := .int (kab 0)) (vp_in_nI (by omega) (by decide)) (by rw [nI_clamp (by omega)]) dX3_isUnder_30 ?_
  refine q_eqi (y := (-1)) (rfl) ?_
  refine lv_istore_n (lv' := [(2, .int (-1)), (3, .int (nI 0)), (0, .int (nI 0)), (1, .int (nI 5))]) hx hb dX3_isUnder_31 rfl hl (by decide) rfl (fun ls hl => ?_)
  refine lv_iinc (v := nI 1) (lv' := [(3, .int (nI 1)), (2, .int (-1)), (0, .int (nI 0)), (1, .int (nI 5))]) hx hb dX3_isUnder_32 hl (k := 1) rfl (by decide) (by decide) rfl (fun ls hl => ?_)
  refine lv_goto (tgt := 4) hx hb dX3_isUnder_35 (by decide) ?_
  refine lv_iload_n hx hb dX3_isUnder_4 rfl (lv_at hl 0 rfl) ?_
  refine lv_bipush (v := nI 7) hx hb dX3_isUnder_5 (by decide) ?_
  refine q_icmp_geN (tgt := 38) (a := 1) (b := 7) hx hb dX3_isUnder_7 (by decide) (by omega) (by omega) (fun h => absurd h (by omega)) (fun _ => ?_)
  refine lv_iload_n hx hb dX3_isUnder_10 rfl (lv_at hl 1 rfl) ?_
  refine lv_bipush (v := nI 6) hx hb dX3_isUnder_11 (by decide) ?_
  refine RO.callS S ks_X3_44 (c_X3_isWithin l D cI cJ t f g h τ (-1) (nI 6)) hK hP ⟨Nat.le_of_ble_eq_true rfl, Nat.le_of_ble_eq_true rfl⟩ hl.1 rfl rfl (Nat.le_of_ble_eq_true rfl) (Nat.zero_le _) (Nat.zero_le _) dX3_isUnder_13 ?_
  refine q_if_eqB (tgt := 38) hx hb dX3_isUnder_16 (by decide) (fun _ => ?_) (fun h => absurd h (by decide))
  refine lv_iconst (v := nI 0) hx hb dX3_isUnder_38 (by decide) ?_
  exact RO.zret S hr hlk (bI_f (by decide)) dX3_isUnder_39
set_option maxRecDepth 100000 in
set_option maxHeartbeats 4000000 in
theorem c_X3_isUnder_0_6 (l : Launch) (D : va_G) (cI cJ : ClassId) (t : Nat → Nat) (f g h : Nat → Int32) (τ : Nat → Nat → Int32) (mt ka : Nat) : RZ mt ka l yX3_isUnder cX3_isUnder 4 (some .boolean) 1 D cI cJ (TW cI cJ t f g h τ) [.int (nI 0), .int (nI 6)] (.int (bI (uU 0 6))) := by
  refine RZ.of (by decide) (Nat.le_of_ble_eq_true rfl) (fun p e s m below meth c ls S hr hlk hK hP hZ hl => ?_)
  obtain ⟨hx, hb, hml, hown, hU⟩ := id S
  have hl : lv_has ls 4 [(0, .int (nI 0)), (1, .int (nI 6))] := hl
  refine lv_iload_n hx hb dX3_isUnder_0 rfl (lv_at hl 0 rfl) ?_
  refine lv_istore_n (lv' := [(2, .int (nI 0)), (0, .int (nI 0)), (1, .int (nI 6))]) hx hb dX3_isUnder_1 rfl hl (by decide) rfl (fun ls hl => ?_)
  refine lv_iconst (v := nI 0) hx hb dX3_isUnder_2 (by decide) ?_
  refine lv_istore_n (lv' := [(3, .int (nI 0)), (2, .int (nI 0)), (0, .int (nI 0)), (1, .int (nI 6))]) hx hb dX3_isUnder_3 rfl hl (by decide) rfl (fun ls hl => ?_)
  refine lv_iload_n hx hb dX3_isUnder_4 rfl (lv_at hl 0 rfl) ?_
  refine lv_bipush (v := nI 7) hx hb dX3_isUnder_5 (by decide) ?_
  refine q_icmp_geN (tgt := 38) (a := 0) (b := 7) hx hb dX3_isUnder_7 (by decide) (by omega) (by omega) (fun h => absurd h (by omega)) (fun _ => ?_)
  refine lv_iload_n hx hb dX3_isUnder_10 rfl (lv_at hl 1 rfl) ?_
  refine lv_bipush (v := nI 6) hx hb dX3_isUnder_11 (by decide) ?_
  refine RO.callS S ks_X3_44 (c_X3_isWithin l D cI cJ t f g h τ (nI 0) (nI 6)) hK hP ⟨Nat.le_of_ble_eq_true rfl, Nat.le_of_ble_eq_true rfl⟩ hl.1 rfl rfl (Nat.le_of_ble_eq_true rfl) (Nat.zero_le _) (Nat.zero_le _) dX3_isUnder_13 ?_
  refine q_if_eqB (tgt := 38) hx hb dX3_isUnder_16 (by decide) (fun h => absurd (⟨nI_le (by omega) (by omega), nI_le (by omega) (by omega)⟩) h) (fun _ => ?_)
  refine lv_iload_n hx hb dX3_isUnder_19 rfl (lv_at hl 1 rfl) ?_
  refine lv_iload_n hx hb dX3_isUnder_20 rfl (lv_at hl 3 rfl) ?_
  refine q_icmp_neN (tgt := 26) (a := 0) (b := 6) hx hb dX3_isUnder_21 (by decide) (by omega) (by omega) (fun _ => ?_) (fun h => absurd h (by omega))
  refine va_gets hx hb hZ.2.2.1 va_S.rf hown (hU _ mF_X3_235) (fun _ h => h) dX3_isUnder_26 ?_
  refine lv_iload_n hx hb dX3_isUnder_29 rfl (lv_at hl 1 rfl) ?_
  refine va_ti hx hb hZ.2.2.2 va_S.rf (i := nI 0) (v := .int (kab 0)) (vp_in_nI (by omega) (by decide)) (by rw [nI_clamp (by omega)]) dX3_isUnder_30 ?_
  refine q_eqi (y := (-1)) (rfl) ?_
  refine lv_istore_n (lv' := [(2, .int (-1)), (3, .int (nI 0)), (0, .int (nI 0)), (1, .int (nI 6))]) hx hb dX3_isUnder_31 rfl hl (by decide) rfl (fun ls hl => ?_)
  refine lv_iinc (v := nI 1) (lv' := [(3, .int (nI 1)), (2, .int (-1)), (0, .int (nI 0)), (1, .int (nI 6))]) hx hb dX3_isUnder_32 hl (k := 1) rfl (by decide) (by decide) rfl (fun ls hl => ?_)
  refine lv_goto (tgt := 4) hx hb dX3_isUnder_35 (by decide) ?_
  refine lv_iload_n hx hb dX3_isUnder_4 rfl (lv_at hl 0 rfl) ?_
  refine lv_bipush (v := nI 7) hx hb dX3_isUnder_5 (by decide) ?_
  refine q_icmp_geN (tgt := 38) (a := 1) (b := 7) hx hb dX3_isUnder_7 (by decide) (by omega) (by omega) (fun h => absurd h (by omega)) (fun _ => ?_)
  refine lv_iload_n hx hb dX3_isUnder_10 rfl (lv_at hl 1 rfl) ?_
  refine lv_bipush (v := nI 6) hx hb dX3_isUnder_11 (by decide) ?_
  refine RO.callS S ks_X3_44 (c_X3_isWithin l D cI cJ t f g h τ (-1) (nI 6)) hK hP ⟨Nat.le_of_ble_eq_true rfl, Nat.le_of_ble_eq_true rfl⟩ hl.1 rfl rfl (Nat.le_of_ble_eq_true rfl) (Nat.zero_le _) (Nat.zero_le _) dX3_isUnder_13 ?_
  refine q_if_eqB (tgt := 38) hx hb dX3_isUnder_16 (by decide) (fun _ => ?_) (fun h => absurd h (by decide))
  refine lv_iconst (v := nI 0) hx hb dX3_isUnder_38 (by decide) ?_
  exact RO.zret S hr hlk (bI_f (by decide)) dX3_isUnder_39
set_option maxRecDepth 100000 in
set_option maxHeartbeats 4000000 in
theorem c_X3_isUnder_1_0 (l : Launch) (D : va_G) (cI cJ : ClassId) (t : Nat → Nat) (f g h : Nat → Int32) (τ : Nat → Nat → Int32) (mt ka : Nat) : RZ mt ka l yX3_isUnder cX3_isUnder 4 (some .boolean) 1 D cI cJ (TW cI cJ t f g h τ) [.int (nI 1), .int (nI 0)] (.int (bI (uU 1 0))) := by
  refine RZ.of (by decide) (Nat.le_of_ble_eq_true rfl) (fun p e s m below meth c ls S hr hlk hK hP hZ hl => ?_)
  obtain ⟨hx, hb, hml, hown, hU⟩ := id S
  have hl : lv_has ls 4 [(0, .int (nI 1)), (1, .int (nI 0))] := hl
  refine lv_iload_n hx hb dX3_isUnder_0 rfl (lv_at hl 0 rfl) ?_
  refine lv_istore_n (lv' := [(2, .int (nI 1)), (0, .int (nI 1)), (1, .int (nI 0))]) hx hb dX3_isUnder_1 rfl hl (by decide) rfl (fun ls hl => ?_)
  refine lv_iconst (v := nI 0) hx hb dX3_isUnder_2 (by decide) ?_
  refine lv_istore_n (lv' := [(3, .int (nI 0)), (2, .int (nI 1)), (0, .int (nI 1)), (1, .int (nI 0))]) hx hb dX3_isUnder_3 rfl hl (by decide) rfl (fun ls hl => ?_)
  refine lv_iload_n hx hb dX3_isUnder_4 rfl (lv_at hl 0 rfl) ?_
  refine lv_bipush (v := nI 7) hx hb dX3_isUnder_5 (by decide) ?_
  refine q_icmp_geN (tgt := 38) (a := 0) (b := 7) hx hb dX3_isUnder_7 (by decide) (by omega) (by omega) (fun h => absurd h (by omega)) (fun _ => ?_)
  refine lv_iload_n hx hb dX3_isUnder_10 rfl (lv_at hl 1 rfl) ?_
  refine lv_bipush (v := nI 6) hx hb dX3_isUnder_11 (by decide) ?_
  refine RO.callS S ks_X3_44 (c_X3_isWithin l D cI cJ t f g h τ (nI 1) (nI 6)) hK hP ⟨Nat.le_of_ble_eq_true rfl, Nat.le_of_ble_eq_true rfl⟩ hl.1 rfl rfl (Nat.le_of_ble_eq_true rfl) (Nat.zero_le _) (Nat.zero_le _) dX3_isUnder_13 ?_
  refine q_if_eqB (tgt := 38) hx hb dX3_isUnder_16 (by decide) (fun h => absurd (⟨nI_le (by omega) (by omega), nI_le (by omega) (by omega)⟩) h) (fun _ => ?_)
  refine lv_iload_n hx hb dX3_isUnder_19 rfl (lv_at hl 1 rfl) ?_
  refine lv_iload_n hx hb dX3_isUnder_20 rfl (lv_at hl 3 rfl) ?_
  refine q_icmp_neN (tgt := 26) (a := 1) (b := 0) hx hb dX3_isUnder_21 (by decide) (by omega) (by omega) (fun _ => ?_) (fun h => absurd h (by omega))
  refine va_gets hx hb hZ.2.2.1 va_S.rf hown (hU _ mF_X3_235) (fun _ h => h) dX3_isUnder_26 ?_
  refine lv_iload_n hx hb dX3_isUnder_29 rfl (lv_at hl 1 rfl) ?_
  refine va_ti hx hb hZ.2.2.2 va_S.rf (i := nI 1) (v := .int (kab 1)) (vp_in_nI (by omega) (by decide)) (by rw [nI_clamp (by omega)]) dX3_isUnder_30 ?_
  refine q_eqi (y := nI 0) (rfl) ?_
  refine lv_istore_n (lv' := [(2, .int (nI 0)), (3, .int (nI 0)), (0, .int (nI 1)), (1, .int (nI 0))]) hx hb dX3_isUnder_31 rfl hl (by decide) rfl (fun ls hl => ?_)
  refine lv_iinc (v := nI 1) (lv' := [(3, .int (nI 1)), (2, .int (nI 0)), (0, .int (nI 1)), (1, .int (nI 0))]) hx hb dX3_isUnder_32 hl (k := 1) rfl (by decide) (by decide) rfl (fun ls hl => ?_)
  refine lv_goto (tgt := 4) hx hb dX3_isUnder_35 (by decide) ?_
  refine lv_iload_n hx hb dX3_isUnder_4 rfl (lv_at hl 0 rfl) ?_
  refine lv_bipush (v := nI 7) hx hb dX3_isUnder_5 (by decide) ?_
  refine q_icmp_geN (tgt := 38) (a := 1) (b := 7) hx hb dX3_isUnder_7 (by decide) (by omega) (by omega) (fun h => absurd h (by omega)) (fun _ => ?_)
  refine lv_iload_n hx hb dX3_isUnder_10 rfl (lv_at hl 1 rfl) ?_
  refine lv_bipush (v := nI 6) hx hb dX3_isUnder_11 (by decide) ?_
  refine RO.callS S ks_X3_44 (c_X3_isWithin l D cI cJ t f g h τ (nI 0) (nI 6)) hK hP ⟨Nat.le_of_ble_eq_true rfl, Nat.le_of_ble_eq_true rfl⟩ hl.1 rfl rfl (Nat.le_of_ble_eq_true rfl) (Nat.zero_le _) (Nat.zero_le _) dX3_isUnder_13 ?_
  refine q_if_eqB (tgt := 38) hx hb dX3_isUnder_16 (by decide) (fun h => absurd (⟨nI_le (by omega) (by omega), nI_le (by omega) (by omega)⟩) h) (fun _ => ?_)
  refine lv_iload_n hx hb dX3_isUnder_19 rfl (lv_at hl 1 rfl) ?_
  refine lv_iload_n hx hb dX3_isUnder_20 rfl (lv_at hl 3 rfl) ?_
  refine q_icmp_neN (tgt := 26) (a := 0) (b := 0) hx hb dX3_isUnder_21 (by decide) (by omega) (by omega) (fun h => absurd h (by omega)) (fun _ => ?_)
  refine lv_iconst (v := nI 1) hx hb dX3_isUnder_24 (by decide) ?_
  exact RO.zret S hr hlk (bI_t (by decide)) dX3_isUnder_25
set_option maxRecDepth 100000 in
set_option maxHeartbeats 4000000 in
theorem c_X3_isUnder_1_1 (l : Launch) (D : va_G) (cI cJ : ClassId) (t : Nat → Nat) (f g h : Nat → Int32) (τ : Nat → Nat → Int32) (mt ka : Nat) : RZ mt ka l yX3_isUnder cX3_isUnder 4 (some .boolean) 1 D cI cJ (TW cI cJ t f g h τ) [.int (nI 1), .int (nI 1)] (.int (bI (uU 1 1))) := by
  refine RZ.of (by decide) (Nat.le_of_ble_eq_true rfl) (fun p e s m below meth c ls S hr hlk hK hP hZ hl => ?_)
  obtain ⟨hx, hb, hml, hown, hU⟩ := id S
  have hl : lv_has ls 4 [(0, .int (nI 1)), (1, .int (nI 1))] := hl
  refine lv_iload_n hx hb dX3_isUnder_0 rfl (lv_at hl 0 rfl) ?_
  refine lv_istore_n (lv' := [(2, .int (nI 1)), (0, .int (nI 1)), (1, .int (nI 1))]) hx hb dX3_isUnder_1 rfl hl (by decide) rfl (fun ls hl => ?_)
  refine lv_iconst (v := nI 0) hx hb dX3_isUnder_2 (by decide) ?_
  refine lv_istore_n (lv' := [(3, .int (nI 0)), (2, .int (nI 1)), (0, .int (nI 1)), (1, .int (nI 1))]) hx hb dX3_isUnder_3 rfl hl (by decide) rfl (fun ls hl => ?_)
  refine lv_iload_n hx hb dX3_isUnder_4 rfl (lv_at hl 0 rfl) ?_
  refine lv_bipush (v := nI 7) hx hb dX3_isUnder_5 (by decide) ?_
  refine q_icmp_geN (tgt := 38) (a := 0) (b := 7) hx hb dX3_isUnder_7 (by decide) (by omega) (by omega) (fun h => absurd h (by omega)) (fun _ => ?_)
  refine lv_iload_n hx hb dX3_isUnder_10 rfl (lv_at hl 1 rfl) ?_
  refine lv_bipush (v := nI 6) hx hb dX3_isUnder_11 (by decide) ?_
  refine RO.callS S ks_X3_44 (c_X3_isWithin l D cI cJ t f g h τ (nI 1) (nI 6)) hK hP ⟨Nat.le_of_ble_eq_true rfl, Nat.le_of_ble_eq_true rfl⟩ hl.1 rfl rfl (Nat.le_of_ble_eq_true rfl) (Nat.zero_le _) (Nat.zero_le _) dX3_isUnder_13 ?_
  refine q_if_eqB (tgt := 38) hx hb dX3_isUnder_16 (by decide) (fun h => absurd (⟨nI_le (by omega) (by omega), nI_le (by omega) (by omega)⟩) h) (fun _ => ?_)
  refine lv_iload_n hx hb dX3_isUnder_19 rfl (lv_at hl 1 rfl) ?_
  refine lv_iload_n hx hb dX3_isUnder_20 rfl (lv_at hl 3 rfl) ?_
  refine q_icmp_neN (tgt := 26) (a := 1) (b := 1) hx hb dX3_isUnder_21 (by decide) (by omega) (by omega) (fun h => absurd h (by omega)) (fun _ => ?_)
  refine lv_iconst (v := nI 1) hx hb dX3_isUnder_24 (by decide) ?_
  exact RO.zret S hr hlk (bI_t (by decide)) dX3_isUnder_25
set_option maxRecDepth 100000 in
set_option maxHeartbeats 4000000 in
theorem c_X3_isUnder_1_2 (l : Launch) (D : va_G) (cI cJ : ClassId) (t : Nat → Nat) (f g h : Nat → Int32) (τ : Nat → Nat → Int32) (mt ka : Nat) : RZ mt ka l yX3_isUnder cX3_isUnder 4 (some .boolean) 1 D cI cJ (TW cI cJ t f g h τ) [.int (nI 1), .int (nI 2)] (.int (bI (uU 1 2))) := by
  refine RZ.of (by decide) (Nat.le_of_ble_eq_true rfl) (fun p e s m below meth c ls S hr hlk hK hP hZ hl => ?_)
  obtain ⟨hx, hb, hml, hown, hU⟩ := id S
  have hl : lv_has ls 4 [(0, .int (nI 1)), (1, .int (nI 2))] := hl
  refine lv_iload_n hx hb dX3_isUnder_0 rfl (lv_at hl 0 rfl) ?_
  refine lv_istore_n (lv' := [(2, .int (nI 1)), (0, .int (nI 1)), (1, .int (nI 2))]) hx hb dX3_isUnder_1 rfl hl (by decide) rfl (fun ls hl => ?_)
  refine lv_iconst (v := nI 0) hx hb dX3_isUnder_2 (by decide) ?_
  refine lv_istore_n (lv' := [(3, .int (nI 0)), (2, .int (nI 1)), (0, .int (nI 1)), (1, .int (nI 2))]) hx hb dX3_isUnder_3 rfl hl (by decide) rfl (fun ls hl => ?_)
  refine lv_iload_n hx hb dX3_isUnder_4 rfl (lv_at hl 0 rfl) ?_
  refine lv_bipush (v := nI 7) hx hb dX3_isUnder_5 (by decide) ?_
  refine q_icmp_geN (tgt := 38) (a := 0) (b := 7) hx hb dX3_isUnder_7 (by decide) (by omega) (by omega) (fun h => absurd h (by omega)) (fun _ => ?_)
  refine lv_iload_n hx hb dX3_isUnder_10 rfl (lv_at hl 1 rfl) ?_
  refine lv_bipush (v := nI 6) hx hb dX3_isUnder_11 (by decide) ?_
  refine RO.callS S ks_X3_44 (c_X3_isWithin l D cI cJ t f g h τ (nI 1) (nI 6)) hK hP ⟨Nat.le_of_ble_eq_true rfl, Nat.le_of_ble_eq_true rfl⟩ hl.1 rfl rfl (Nat.le_of_ble_eq_true rfl) (Nat.zero_le _) (Nat.zero_le _) dX3_isUnder_13 ?_
  refine q_if_eqB (tgt := 38) hx hb dX3_isUnder_16 (by decide) (fun h => absurd (⟨nI_le (by omega) (by omega), nI_le (by omega) (by omega)⟩) h) (fun _ => ?_)
  refine lv_iload_n hx hb dX3_isUnder_19 rfl (lv_at hl 1 rfl) ?_
  refine lv_iload_n hx hb dX3_isUnder_20 rfl (lv_at hl 3 rfl) ?_
  refine q_icmp_neN (tgt := 26) (a := 1) (b := 2) hx hb dX3_isUnder_21 (by decide) (by omega) (by omega) (fun _ => ?_) (fun h => absurd h (by omega))
  refine va_gets hx hb hZ.2.2.1 va_S.rf hown (hU _ mF_X3_235) (fun _ h => h) dX3_isUnder_26 ?_
  refine lv_iload_n hx hb dX3_isUnder_29 rfl (lv_at hl 1 rfl) ?_
  refine va_ti hx hb hZ.2.2.2 va_S.rf (i := nI 1) (v := .int (kab 1)) (vp_in_nI (by omega) (by decide)) (by rw [nI_clamp (by omega)]) dX3_isUnder_30 ?_
  refine q_eqi (y := nI 0) (rfl) ?_
  refine lv_istore_n (lv' := [(2, .int (nI 0)), (3, .int (nI 0)), (0, .int (nI 1)), (1, .int (nI 2))]) hx hb dX3_isUnder_31 rfl hl (by decide) rfl (fun ls hl => ?_)
  refine lv_iinc (v := nI 1) (lv' := [(3, .int (nI 1)), (2, .int (nI 0)), (0, .int (nI 1)), (1, .int (nI 2))]) hx hb dX3_isUnder_32 hl (k := 1) rfl (by decide) (by decide) rfl (fun ls hl => ?_)
  refine lv_goto (tgt := 4) hx hb dX3_isUnder_35 (by decide) ?_
  refine lv_iload_n hx hb dX3_isUnder_4 rfl (lv_at hl 0 rfl) ?_
  refine lv_bipush (v := nI 7) hx hb dX3_isUnder_5 (by decide) ?_
  refine q_icmp_geN (tgt := 38) (a := 1) (b := 7) hx hb dX3_isUnder_7 (by decide) (by omega) (by omega) (fun h => absurd h (by omega)) (fun _ => ?_)
  refine lv_iload_n hx hb dX3_isUnder_10 rfl (lv_at hl 1 rfl) ?_
  refine lv_bipush (v := nI 6) hx hb dX3_isUnder_11 (by decide) ?_
  refine RO.callS S ks_X3_44 (c_X3_isWithin l D cI cJ t f g h τ (nI 0) (nI 6)) hK hP ⟨Nat.le_of_ble_eq_true rfl, Nat.le_of_ble_eq_true rfl⟩ hl.1 rfl rfl (Nat.le_of_ble_eq_true rfl) (Nat.zero_le _) (Nat.zero_le _) dX3_isUnder_13 ?_
  refine q_if_eqB (tgt := 38) hx hb dX3_isUnder_16 (by decide) (fun h => absurd (⟨nI_le (by omega) (by omega), nI_le (by omega) (by omega)⟩) h) (fun _ => ?_)
  refine lv_iload_n hx hb dX3_isUnder_19 rfl (lv_at hl 1 rfl) ?_
  refine lv_iload_n hx hb dX3_isUnder_20 rfl (lv_at hl 3 rfl) ?_
  refine q_icmp_neN (tgt := 26) (a := 0) (b := 2) hx hb dX3_isUnder_21 (by decide) (by omega) (by omega) (fun _ => ?_) (fun h => absurd h (by omega))
  refine va_gets hx hb hZ.2.2.1 va_S.rf hown (hU _ mF_X3_235) (fun _ h => h) dX3_isUnder_26 ?_
  refine lv_iload_n hx hb dX3_isUnder_29 rfl (lv_at hl 1 rfl) ?_
  refine va_ti hx hb hZ.2.2.2 va_S.rf (i := nI 0) (v := .int (kab 0)) (vp_in_nI (by omega) (by decide)) (by rw [nI_clamp (by omega)]) dX3_isUnder_30 ?_
  refine q_eqi (y := (-1)) (rfl) ?_
  refine lv_istore_n (lv' := [(2, .int (-1)), (3, .int (nI 1)), (0, .int (nI 1)), (1, .int (nI 2))]) hx hb dX3_isUnder_31 rfl hl (by decide) rfl (fun ls hl => ?_)
  refine lv_iinc (v := nI 2) (lv' := [(3, .int (nI 2)), (2, .int (-1)), (0, .int (nI 1)), (1, .int (nI 2))]) hx hb dX3_isUnder_32 hl (k := 1) rfl (by decide) (by decide) rfl (fun ls hl => ?_)
  refine lv_goto (tgt := 4) hx hb dX3_isUnder_35 (by decide) ?_
  refine lv_iload_n hx hb dX3_isUnder_4 rfl (lv_at hl 0 rfl) ?_
  refine lv_bipush (v := nI 7) hx hb dX3_isUnder_5 (by decide) ?_
  refine q_icmp_geN (tgt := 38) (a := 2) (b := 7) hx hb dX3_isUnder_7 (by decide) (by omega) (by omega) (fun h => absurd h (by omega)) (fun _ => ?_)
  refine lv_iload_n hx hb dX3_isUnder_10 rfl (lv_at hl 1 rfl) ?_
  refine lv_bipush (v := nI 6) hx hb dX3_isUnder_11 (by decide) ?_
  refine RO.callS S ks_X3_44 (c_X3_isWithin l D cI cJ t f g h τ (-1) (nI 6)) hK hP ⟨Nat.le_of_ble_eq_true rfl, Nat.le_of_ble_eq_true rfl⟩ hl.1 rfl rfl (Nat.le_of_ble_eq_true rfl) (Nat.zero_le _) (Nat.zero_le _) dX3_isUnder_13 ?_
  refine q_if_eqB (tgt := 38) hx hb dX3_isUnder_16 (by decide) (fun _ => ?_) (fun h => absurd h (by decide))
  refine lv_iconst (v := nI 0) hx hb dX3_isUnder_38 (by decide) ?_
  exact RO.zret S hr hlk (bI_f (by decide)) dX3_isUnder_39
set_option maxRecDepth 100000 in
set_option maxHeartbeats 4000000 in
theorem c_X3_isUnder_1_3 (l : Launch) (D : va_G) (cI cJ : ClassId) (t : Nat → Nat) (f g h : Nat → Int32) (τ : Nat → Nat → Int32) (mt ka : Nat) : RZ mt ka l yX3_isUnder cX3_isUnder 4 (some .boolean) 1 D cI cJ (TW cI cJ t f g h τ) [.int (nI 1), .int (nI 3)] (.int (bI (uU 1 3))) := by
  refine RZ.of (by decide) (Nat.le_of_ble_eq_true rfl) (fun p e s m below meth c ls S hr hlk hK hP hZ hl => ?_)
  obtain ⟨hx, hb, hml, hown, hU⟩ := id S
  have hl : lv_has ls 4 [(0, .int (nI 1)), (1, .int (nI 3))] := hl
  refine lv_iload_n hx hb dX3_isUnder_0 rfl (lv_at hl 0 rfl) ?_
  refine lv_istore_n (lv' := [(2, .int (nI 1)), (0, .int (nI 1)), (1, .int (nI 3))]) hx hb dX3_isUnder_1 rfl hl (by decide) rfl (fun ls hl => ?_)
  refine lv_iconst (v := nI 0) hx hb dX3_isUnder_2 (by decide) ?_
  refine lv_istore_n (lv' := [(3, .int (nI 0)), (2, .int (nI 1)), (0, .int (nI 1)), (1, .int (nI 3))]) hx hb dX3_isUnder_3 rfl hl (by decide) rfl (fun ls hl => ?_)
  refine lv_iload_n hx hb dX3_isUnder_4 rfl (lv_at hl 0 rfl) ?_
  refine lv_bipush (v := nI 7) hx hb dX3_isUnder_5 (by decide) ?_
  refine q_icmp_geN (tgt := 38) (a := 0) (b := 7) hx hb dX3_isUnder_7 (by decide) (by omega) (by omega) (fun h => absurd h (by omega)) (fun _ => ?_)
  refine lv_iload_n hx hb dX3_isUnder_10 rfl (lv_at hl 1 rfl) ?_
  refine lv_bipush (v := nI 6) hx hb dX3_isUnder_11 (by decide) ?_
  refine RO.callS S ks_X3_44 (c_X3_isWithin l D cI cJ t f g h τ (nI 1) (nI 6)) hK hP ⟨Nat.le_of_ble_eq_true rfl, Nat.le_of_ble_eq_true rfl⟩ hl.1 rfl rfl (Nat.le_of_ble_eq_true rfl) (Nat.zero_le _) (Nat.zero_le _) dX3_isUnder_13 ?_
  refine q_if_eqB (tgt := 38) hx hb dX3_isUnder_16 (by decide) (fun h => absurd (⟨nI_le (by omega) (by omega), nI_le (by omega) (by omega)⟩) h) (fun _ => ?_)
  refine lv_iload_n hx hb dX3_isUnder_19 rfl (lv_at hl 1 rfl) ?_
  refine lv_iload_n hx hb dX3_isUnder_20 rfl (lv_at hl 3 rfl) ?_
  refine q_icmp_neN (tgt := 26) (a := 1) (b := 3) hx hb dX3_isUnder_21 (by decide) (by omega) (by omega) (fun _ => ?_) (fun h => absurd h (by omega))
  refine va_gets hx hb hZ.2.2.1 va_S.rf hown (hU _ mF_X3_235) (fun _ h => h) dX3_isUnder_26 ?_
  refine lv_iload_n hx hb dX3_isUnder_29 rfl (lv_at hl 1 rfl) ?_
  refine va_ti hx hb hZ.2.2.2 va_S.rf (i := nI 1) (v := .int (kab 1)) (vp_in_nI (by omega) (by decide)) (by rw [nI_clamp (by omega)]) dX3_isUnder_30 ?_
  refine q_eqi (y := nI 0) (rfl) ?_
  refine lv_istore_n (lv' := [(2, .int (nI 0)), (3, .int (nI 0)), (0, .int (nI 1)), (1, .int (nI 3))]) hx hb dX3_isUnder_31 rfl hl (by decide) rfl (fun ls hl => ?_)
  refine lv_iinc (v := nI 1) (lv' := [(3, .int (nI 1)), (2, .int (nI 0)), (0, .int (nI 1)), (1, .int (nI 3))]) hx hb dX3_isUnder_32 hl (k := 1) rfl (by decide) (by decide) rfl (fun ls hl => ?_)
  refine lv_goto (tgt := 4) hx hb dX3_isUnder_35 (by decide) ?_
  refine lv_iload_n hx hb dX3_isUnder_4 rfl (lv_at hl 0 rfl) ?_
  refine lv_bipush (v := nI 7) hx hb dX3_isUnder_5 (by decide) ?_
  refine q_icmp_geN (tgt := 38) (a := 1) (b := 7) hx hb dX3_isUnder_7 (by decide) (by omega) (by omega) (fun h => absurd h (by omega)) (fun _ => ?_)
  refine lv_iload_n hx hb dX3_isUnder_10 rfl (lv_at hl 1 rfl) ?_
  refine lv_bipush (v := nI 6) hx hb dX3_isUnder_11 (by decide) ?_
  refine RO.callS S ks_X3_44 (c_X3_isWithin l D cI cJ t f g h τ (nI 0) (nI 6)) hK hP ⟨Nat.le_of_ble_eq_true rfl, Nat.le_of_ble_eq_true rfl⟩ hl.1 rfl rfl (Nat.le_of_ble_eq_true rfl) (Nat.zero_le _) (Nat.zero_le _) dX3_isUnder_13 ?_
  refine q_if_eqB (tgt := 38) hx hb dX3_isUnder_16 (by decide) (fun h => absurd (⟨nI_le (by omega) (by omega), nI_le (by omega) (by omega)⟩) h) (fun _ => ?_)
  refine lv_iload_n hx hb dX3_isUnder_19 rfl (lv_at hl 1 rfl) ?_
  refine lv_iload_n hx hb dX3_isUnder_20 rfl (lv_at hl 3 rfl) ?_
  refine q_icmp_neN (tgt := 26) (a := 0) (b := 3) hx hb dX3_isUnder_21 (by decide) (by omega) (by omega) (fun _ => ?_) (fun h => absurd h (by omega))
  refine va_gets hx hb hZ.2.2.1 va_S.rf hown (hU _ mF_X3_235) (fun _ h => h) dX3_isUnder_26 ?_
  refine lv_iload_n hx hb dX3_isUnder_29 rfl (lv_at hl 1 rfl) ?_
  refine va_ti hx hb hZ.2.2.2 va_S.rf (i := nI 0) (v := .int (kab 0)) (vp_in_nI (by omega) (by decide)) (by rw [nI_clamp (by omega)]) dX3_isUnder_30 ?_
  refine q_eqi (y := (-1)) (rfl) ?_
  refine lv_istore_n (lv' := [(2, .int (-1)), (3, .int (nI 1)), (0, .int (nI 1)), (1, .int (nI 3))]) hx hb dX3_isUnder_31 rfl hl (by decide) rfl (fun ls hl => ?_)
  refine lv_iinc (v := nI 2) (lv' := [(3, .int (nI 2)), (2, .int (-1)), (0, .int (nI 1)), (1, .int (nI 3))]) hx hb dX3_isUnder_32 hl (k := 1) rfl (by decide) (by decide) rfl (fun ls hl => ?_)
  refine lv_goto (tgt := 4) hx hb dX3_isUnder_35 (by decide) ?_
  refine lv_iload_n hx hb dX3_isUnder_4 rfl (lv_at hl 0 rfl) ?_
  refine lv_bipush (v := nI 7) hx hb dX3_isUnder_5 (by decide) ?_
  refine q_icmp_geN (tgt := 38) (a := 2) (b := 7) hx hb dX3_isUnder_7 (by decide) (by omega) (by omega) (fun h => absurd h (by omega)) (fun _ => ?_)
  refine lv_iload_n hx hb dX3_isUnder_10 rfl (lv_at hl 1 rfl) ?_
  refine lv_bipush (v := nI 6) hx hb dX3_isUnder_11 (by decide) ?_
  refine RO.callS S ks_X3_44 (c_X3_isWithin l D cI cJ t f g h τ (-1) (nI 6)) hK hP ⟨Nat.le_of_ble_eq_true rfl, Nat.le_of_ble_eq_true rfl⟩ hl.1 rfl rfl (Nat.le_of_ble_eq_true rfl) (Nat.zero_le _) (Nat.zero_le _) dX3_isUnder_13 ?_
  refine q_if_eqB (tgt := 38) hx hb dX3_isUnder_16 (by decide) (fun _ => ?_) (fun h => absurd h (by decide))
  refine lv_iconst (v := nI 0) hx hb dX3_isUnder_38 (by decide) ?_
  exact RO.zret S hr hlk (bI_f (by decide)) dX3_isUnder_39
set_option maxRecDepth 100000 in
set_option maxHeartbeats 4000000 in
theorem c_X3_isUnder_1_4 (l : Launch) (D : va_G) (cI cJ : ClassId) (t : Nat → Nat) (f g h : Nat → Int32) (τ : Nat → Nat → Int32) (mt ka : Nat) : RZ mt ka l yX3_isUnder cX3_isUnder 4 (some .boolean) 1 D cI cJ (TW cI cJ t f g h τ) [.int (nI 1), .int (nI 4)] (.int (bI (uU 1 4))) := by
  refine RZ.of (by decide) (Nat.le_of_ble_eq_true rfl) (fun p e s m below meth c ls S hr hlk hK hP hZ hl => ?_)
  obtain ⟨hx, hb, hml, hown, hU⟩ := id S
  have hl : lv_has ls 4 [(0, .int (nI 1)), (1, .int (nI 4))] := hl
  refine lv_iload_n hx hb dX3_isUnder_0 rfl (lv_at hl 0 rfl) ?_
  refine lv_istore_n (lv' := [(2, .int (nI 1)), (0, .int (nI 1)), (1, .int (nI 4))]) hx hb dX3_isUnder_1 rfl hl (by decide) rfl (fun ls hl => ?_)
  refine lv_iconst (v := nI 0) hx hb dX3_isUnder_2 (by decide) ?_
  refine lv_istore_n (lv' := [(3, .int (nI 0)), (2, .int (nI 1)), (0, .int (nI 1)), (1, .int (nI 4))]) hx hb dX3_isUnder_3 rfl hl (by decide) rfl (fun ls hl => ?_)
  refine lv_iload_n hx hb dX3_isUnder_4 rfl (lv_at hl 0 rfl) ?_
  refine lv_bipush (v := nI 7) hx hb dX3_isUnder_5 (by decide) ?_
  refine q_icmp_geN (tgt := 38) (a := 0) (b := 7) hx hb dX3_isUnder_7 (by decide) (by omega) (by omega) (fun h => absurd h (by omega)) (fun _ => ?_)
  refine lv_iload_n hx hb dX3_isUnder_10 rfl (lv_at hl 1 rfl) ?_
  refine lv_bipush (v := nI 6) hx hb dX3_isUnder_11 (by decide) ?_
  refine RO.callS S ks_X3_44 (c_X3_isWithin l D cI cJ t f g h τ (nI 1) (nI 6)) hK hP ⟨Nat.le_of_ble_eq_true rfl, Nat.le_of_ble_eq_true rfl⟩ hl.1 rfl rfl (Nat.le_of_ble_eq_true rfl) (Nat.zero_le _) (Nat.zero_le _) dX3_isUnder_13 ?_
  refine q_if_eqB (tgt := 38) hx hb dX3_isUnder_16 (by decide) (fun h => absurd (⟨nI_le (by omega) (by omega), nI_le (by omega) (by omega)⟩) h) (fun _ => ?_)
  refine lv_iload_n hx hb dX3_isUnder_19 rfl (lv_at hl 1 rfl) ?_
  refine lv_iload_n hx hb dX3_isUnder_20 rfl (lv_at hl 3 rfl) ?_
  refine q_icmp_neN (tgt := 26) (a := 1) (b := 4) hx hb dX3_isUnder_21 (by decide) (by omega) (by omega) (fun _ => ?_) (fun h => absurd h (by omega))
  refine va_gets hx hb hZ.2.2.1 va_S.rf hown (hU _ mF_X3_235) (fun _ h => h) dX3_isUnder_26 ?_
  refine lv_iload_n hx hb dX3_isUnder_29 rfl (lv_at hl 1 rfl) ?_
  refine va_ti hx hb hZ.2.2.2 va_S.rf (i := nI 1) (v := .int (kab 1)) (vp_in_nI (by omega) (by decide)) (by rw [nI_clamp (by omega)]) dX3_isUnder_30 ?_
  refine q_eqi (y := nI 0) (rfl) ?_
  refine lv_istore_n (lv' := [(2, .int (nI 0)), (3, .int (nI 0)), (0, .int (nI 1)), (1, .int (nI 4))]) hx hb dX3_isUnder_31 rfl hl (by decide) rfl (fun ls hl => ?_)
  refine lv_iinc (v := nI 1) (lv' := [(3, .int (nI 1)), (2, .int (nI 0)), (0, .int (nI 1)), (1, .int (nI 4))]) hx hb dX3_isUnder_32 hl (k := 1) rfl (by decide) (by decide) rfl (fun ls hl => ?_)
  refine lv_goto (tgt := 4) hx hb dX3_isUnder_35 (by decide) ?_
  refine lv_iload_n hx hb dX3_isUnder_4 rfl (lv_at hl 0 rfl) ?_
  refine lv_bipush (v := nI 7) hx hb dX3_isUnder_5 (by decide) ?_
  refine q_icmp_geN (tgt := 38) (a := 1) (b := 7) hx hb dX3_isUnder_7 (by decide) (by omega) (by omega) (fun h => absurd h (by omega)) (fun _ => ?_)
  refine lv_iload_n hx hb dX3_isUnder_10 rfl (lv_at hl 1 rfl) ?_
  refine lv_bipush (v := nI 6) hx hb dX3_isUnder_11 (by decide) ?_
  refine RO.callS S ks_X3_44 (c_X3_isWithin l D cI cJ t f g h τ (nI 0) (nI 6)) hK hP ⟨Nat.le_of_ble_eq_true rfl, Nat.le_of_ble_eq_true rfl⟩ hl.1 rfl rfl (Nat.le_of_ble_eq_true rfl) (Nat.zero_le _) (Nat.zero_le _) dX3_isUnder_13 ?_
  refine q_if_eqB (tgt := 38) hx hb dX3_isUnder_16 (by decide) (fun h => absurd (⟨nI_le (by omega) (by omega), nI_le (by omega) (by omega)⟩) h) (fun _ => ?_)
  refine lv_iload_n hx hb dX3_isUnder_19 rfl (lv_at hl 1 rfl) ?_
  refine lv_iload_n hx hb dX3_isUnder_20 rfl (lv_at hl 3 rfl) ?_
  refine q_icmp_neN (tgt := 26) (a := 0) (b := 4) hx hb dX3_isUnder_21 (by decide) (by omega) (by omega) (fun _ => ?_) (fun h => absurd h (by omega))
  refine va_gets hx hb hZ.2.2.1 va_S.rf hown (hU _ mF_X3_235) (fun _ h => h) dX3_isUnder_26 ?_
  refine lv_iload_n hx hb dX3_isUnder_29 rfl (lv_at hl 1 rfl) ?_
  refine va_ti hx hb hZ.2.2.2 va_S.rf (i := nI 0) (v := .int (kab 0)) (vp_in_nI (by omega) (by decide)) (by rw [nI_clamp (by omega)]) dX3_isUnder_30 ?_
  refine q_eqi (y := (-1)) (rfl) ?_
  refine lv_istore_n (lv' := [(2, .int (-1)), (3, .int (nI 1)), (0, .int (nI 1)), (1, .int (nI 4))]) hx hb dX3_isUnder_31 rfl hl (by decide) rfl (fun ls hl => ?_)
  refine lv_iinc (v := nI 2) (lv' := [(3, .int (nI 2)), (2, .int (-1)), (0, .int (nI 1)), (1, .int (nI 4))]) hx hb dX3_isUnder_32 hl (k := 1) rfl (by decide) (by decide) rfl (fun ls hl => ?_)
  refine lv_goto (tgt := 4) hx hb dX3_isUnder_35 (by decide) ?_
  refine lv_iload_n hx hb dX3_isUnder_4 rfl (lv_at hl 0 rfl) ?_
  refine lv_bipush (v := nI 7) hx hb dX3_isUnder_5 (by decide) ?_
  refine q_icmp_geN (tgt := 38) (a := 2) (b := 7) hx hb dX3_isUnder_7 (by decide) (by omega) (by omega) (fun h => absurd h (by omega)) (fun _ => ?_)
  refine lv_iload_n hx hb dX3_isUnder_10 rfl (lv_at hl 1 rfl) ?_
  refine lv_bipush (v := nI 6) hx hb dX3_isUnder_11 (by decide) ?_
  refine RO.callS S ks_X3_44 (c_X3_isWithin l D cI cJ t f g h τ (-1) (nI 6)) hK hP ⟨Nat.le_of_ble_eq_true rfl, Nat.le_of_ble_eq_true rfl⟩ hl.1 rfl rfl (Nat.le_of_ble_eq_true rfl) (Nat.zero_le _) (Nat.zero_le _) dX3_isUnder_13 ?_
  refine q_if_eqB (tgt := 38) hx hb dX3_isUnder_16 (by decide) (fun _ => ?_) (fun h => absurd h (by decide))
  refine lv_iconst (v := nI 0) hx hb dX3_isUnder_38 (by decide) ?_
  exact RO.zret S hr hlk (bI_f (by decide)) dX3_isUnder_39
set_option maxRecDepth 100000 in
set_option maxHeartbeats 4000000 in
theorem c_X3_isUnder_1_5 (l : Launch) (D : va_G) (cI cJ : ClassId) (t : Nat → Nat) (f g h : Nat → Int32) (τ : Nat → Nat → Int32) (mt ka : Nat) : RZ mt ka l yX3_isUnder cX3_isUnder 4 (some .boolean) 1 D cI cJ (TW cI cJ t f g h τ) [.int (nI 1), .int (nI 5)] (.int (bI (uU 1 5))) := by
  refine RZ.of (by decide) (Nat.le_of_ble_eq_true rfl) (fun p e s m below meth c ls S hr hlk hK hP hZ hl => ?_)
  obtain ⟨hx, hb, hml, hown, hU⟩ := id S
  have hl : lv_has ls 4 [(0, .int (nI 1)), (1, .int (nI 5))] := hl
  refine lv_iload_n hx hb dX3_isUnder_0 rfl (lv_at hl 0 rfl) ?_
  refine lv_istore_n (lv' := [(2, .int (nI 1)), (0, .int (nI 1)), (1, .int (nI 5))]) hx hb dX3_isUnder_1 rfl hl (by decide) rfl (fun ls hl => ?_)
  refine lv_iconst (v := nI 0) hx hb dX3_isUnder_2 (by decide) ?_
  refine lv_istore_n (lv' := [(3, .int (nI 0)), (2, .int (nI 1)), (0, .int (nI 1)), (1, .int (nI 5))]) hx hb dX3_isUnder_3 rfl hl (by decide) rfl (fun ls hl => ?_)
  refine lv_iload_n hx hb dX3_isUnder_4 rfl (lv_at hl 0 rfl) ?_
  refine lv_bipush (v := nI 7) hx hb dX3_isUnder_5 (by decide) ?_
  refine q_icmp_geN (tgt := 38) (a := 0) (b := 7) hx hb dX3_isUnder_7 (by decide) (by omega) (by omega) (fun h => absurd h (by omega)) (fun _ => ?_)
  refine lv_iload_n hx hb dX3_isUnder_10 rfl (lv_at hl 1 rfl) ?_
  refine lv_bipush (v := nI 6) hx hb dX3_isUnder_11 (by decide) ?_
  refine RO.callS S ks_X3_44 (c_X3_isWithin l D cI cJ t f g h τ (nI 1) (nI 6)) hK hP ⟨Nat.le_of_ble_eq_true rfl, Nat.le_of_ble_eq_true rfl⟩ hl.1 rfl rfl (Nat.le_of_ble_eq_true rfl) (Nat.zero_le _) (Nat.zero_le _) dX3_isUnder_13 ?_
  refine q_if_eqB (tgt := 38) hx hb dX3_isUnder_16 (by decide) (fun h => absurd (⟨nI_le (by omega) (by omega), nI_le (by omega) (by omega)⟩) h) (fun _ => ?_)
  refine lv_iload_n hx hb dX3_isUnder_19 rfl (lv_at hl 1 rfl) ?_
  refine lv_iload_n hx hb dX3_isUnder_20 rfl (lv_at hl 3 rfl) ?_
  refine q_icmp_neN (tgt := 26) (a := 1) (b := 5) hx hb dX3_isUnder_21 (by decide) (by omega) (by omega) (fun _ => ?_) (fun h => absurd h (by omega))
  refine va_gets hx hb hZ.2.2.1 va_S.rf hown (hU _ mF_X3_235) (fun _ h => h) dX3_isUnder_26 ?_
  refine lv_iload_n hx hb dX3_isUnder_29 rfl (lv_at hl 1 rfl) ?_
  refine va_ti hx hb hZ.2.2.2 va_S.rf (i := nI 1) (v := .int (kab 1)) (vp_in_nI (by omega) (by decide)) (by rw [nI_clamp (by omega)]) dX3_isUnder_30 ?_
  refine q_eqi (y := nI 0) (rfl) ?_
  refine lv_istore_n (lv' := [(2, .int (nI 0)), (3, .int (nI 0)), (0, .int (nI 1)), (1, .int (nI 5))]) hx hb dX3_isUnder_31 rfl hl (by decide) rfl (fun ls hl => ?_)
  refine lv_iinc (v := nI 1) (lv' := [(3, .int (nI 1)), (2, .int (nI 0)), (0, .int (nI 1)), (1, .int (nI 5))]) hx hb dX3_isUnder_32 hl (k := 1) rfl (by decide) (by decide) rfl (fun ls hl => ?_)
  refine lv_goto (tgt := 4) hx hb dX3_isUnder_35 (by decide) ?_
  refine lv_iload_n hx hb dX3_isUnder_4 rfl (lv_at hl 0 rfl) ?_
  refine lv_bipush (v := nI 7) hx hb dX3_isUnder_5 (by decide) ?_
  refine q_icmp_geN (tgt := 38) (a := 1) (b := 7) hx hb dX3_isUnder_7 (by decide) (by omega) (by omega) (fun h => absurd h (by omega)) (fun _ => ?_)
  refine lv_iload_n hx hb dX3_isUnder_10 rfl (lv_at hl 1 rfl) ?_
  refine lv_bipush (v := nI 6) hx hb dX3_isUnder_11 (by decide) ?_
  refine RO.callS S ks_X3_44 (c_X3_isWithin l D cI cJ t f g h τ (nI 0) (nI 6)) hK hP ⟨Nat.le_of_ble_eq_true rfl, Nat.le_of_ble_eq_true rfl⟩ hl.1 rfl rfl (Nat.le_of_ble_eq_true rfl) (Nat.zero_le _) (Nat.zero_le _) dX3_isUnder_13 ?_
  refine q_if_eqB (tgt := 38) hx hb dX3_isUnder_16 (by decide) (fun h => absurd (⟨nI_le (by omega) (by omega), nI_le (by omega) (by omega)⟩) h) (fun _ => ?_)
  refine lv_iload_n hx hb dX3_isUnder_19 rfl (lv_at hl 1 rfl) ?_
  refine lv_iload_n hx hb dX3_isUnder_20 rfl (lv_at hl 3 rfl) ?_
  refine q_icmp_neN (tgt := 26) (a := 0) (b := 5) hx hb dX3_isUnder_21 (by decide) (by omega) (by omega) (fun _ => ?_) (fun h => absurd h (by omega))
  refine va_gets hx hb hZ.2.2.1 va_S.rf hown (hU _ mF_X3_235) (fun _ h => h) dX3_isUnder_26 ?_
  refine lv_iload_n hx hb dX3_isUnder_29 rfl (lv_at hl 1 rfl) ?_
  refine va_ti hx hb hZ.2.2.2 va_S.rf (i := nI 0) (v := .int (kab 0)) (vp_in_nI (by omega) (by decide)) (by rw [nI_clamp (by omega)]) dX3_isUnder_30 ?_
  refine q_eqi (y := (-1)) (rfl) ?_
  refine lv_istore_n (lv' := [(2, .int (-1)), (3, .int (nI 1)), (0, .int (nI 1)), (1, .int (nI 5))]) hx hb dX3_isUnder_31 rfl hl (by decide) rfl (fun ls hl => ?_)
  refine lv_iinc (v := nI 2) (lv' := [(3, .int (nI 2)), (2, .int (-1)), (0, .int (nI 1)), (1, .int (nI 5))]) hx hb dX3_isUnder_32 hl (k := 1) rfl (by decide) (by decide) rfl (fun ls hl => ?_)
  refine lv_goto (tgt := 4) hx hb dX3_isUnder_35 (by decide) ?_
  refine lv_iload_n hx hb dX3_isUnder_4 rfl (lv_at hl 0 rfl) ?_
  refine lv_bipush (v := nI 7) hx hb dX3_isUnder_5 (by decide) ?_
  refine q_icmp_geN (tgt := 38) (a := 2) (b := 7) hx hb dX3_isUnder_7 (by decide) (by omega) (by omega) (fun h => absurd h (by omega)) (fun _ => ?_)
  refine lv_iload_n hx hb dX3_isUnder_10 rfl (lv_at hl 1 rfl) ?_
  refine lv_bipush (v := nI 6) hx hb dX3_isUnder_11 (by decide) ?_
  refine RO.callS S ks_X3_44 (c_X3_isWithin l D cI cJ t f g h τ (-1) (nI 6)) hK hP ⟨Nat.le_of_ble_eq_true rfl, Nat.le_of_ble_eq_true rfl⟩ hl.1 rfl rfl (Nat.le_of_ble_eq_true rfl) (Nat.zero_le _) (Nat.zero_le _) dX3_isUnder_13 ?_
  refine q_if_eqB (tgt := 38) hx hb dX3_isUnder_16 (by decide) (fun _ => ?_) (fun h => absurd h (by decide))
  refine lv_iconst (v := nI 0) hx hb dX3_isUnder_38 (by decide) ?_
  exact RO.zret S hr hlk (bI_f (by decide)) dX3_isUnder_39
set_option maxRecDepth 100000 in
set_option maxHeartbeats 4000000 in
theorem c_X3_isUnder_1_6 (l : Launch) (D : va_G) (cI cJ : ClassId) (t : Nat → Nat) (f g h : Nat → Int32) (τ : Nat → Nat → Int32) (mt ka : Nat) : RZ mt ka l yX3_isUnder cX3_isUnder 4 (some .boolean) 1 D cI cJ (TW cI cJ t f g h τ) [.int (nI 1), .int (nI 6)] (.int (bI (uU 1 6))) := by
  refine RZ.of (by decide) (Nat.le_of_ble_eq_true rfl) (fun p e s m below meth c ls S hr hlk hK hP hZ hl => ?_)
  obtain ⟨hx, hb, hml, hown, hU⟩ := id S
  have hl : lv_has ls 4 [(0, .int (nI 1)), (1, .int (nI 6))] := hl
  refine lv_iload_n hx hb dX3_isUnder_0 rfl (lv_at hl 0 rfl) ?_
  refine lv_istore_n (lv' := [(2, .int (nI 1)), (0, .int (nI 1)), (1, .int (nI 6))]) hx hb dX3_isUnder_1 rfl hl (by decide) rfl (fun ls hl => ?_)
  refine lv_iconst (v := nI 0) hx hb dX3_isUnder_2 (by decide) ?_
  refine lv_istore_n (lv' := [(3, .int (nI 0)), (2, .int (nI 1)), (0, .int (nI 1)), (1, .int (nI 6))]) hx hb dX3_isUnder_3 rfl hl (by decide) rfl (fun ls hl => ?_)
  refine lv_iload_n hx hb dX3_isUnder_4 rfl (lv_at hl 0 rfl) ?_
  refine lv_bipush (v := nI 7) hx hb dX3_isUnder_5 (by decide) ?_
  refine q_icmp_geN (tgt := 38) (a := 0) (b := 7) hx hb dX3_isUnder_7 (by decide) (by omega) (by omega) (fun h => absurd h (by omega)) (fun _ => ?_)
  refine lv_iload_n hx hb dX3_isUnder_10 rfl (lv_at hl 1 rfl) ?_
  refine lv_bipush (v := nI 6) hx hb dX3_isUnder_11 (by decide) ?_
  refine RO.callS S ks_X3_44 (c_X3_isWithin l D cI cJ t f g h τ (nI 1) (nI 6)) hK hP ⟨Nat.le_of_ble_eq_true rfl, Nat.le_of_ble_eq_true rfl⟩ hl.1 rfl rfl (Nat.le_of_ble_eq_true rfl) (Nat.zero_le _) (Nat.zero_le _) dX3_isUnder_13 ?_
  refine q_if_eqB (tgt := 38) hx hb dX3_isUnder_16 (by decide) (fun h => absurd (⟨nI_le (by omega) (by omega), nI_le (by omega) (by omega)⟩) h) (fun _ => ?_)
  refine lv_iload_n hx hb dX3_isUnder_19 rfl (lv_at hl 1 rfl) ?_
  refine lv_iload_n hx hb dX3_isUnder_20 rfl (lv_at hl 3 rfl) ?_
  refine q_icmp_neN (tgt := 26) (a := 1) (b := 6) hx hb dX3_isUnder_21 (by decide) (by omega) (by omega) (fun _ => ?_) (fun h => absurd h (by omega))
  refine va_gets hx hb hZ.2.2.1 va_S.rf hown (hU _ mF_X3_235) (fun _ h => h) dX3_isUnder_26 ?_
  refine lv_iload_n hx hb dX3_isUnder_29 rfl (lv_at hl 1 rfl) ?_
  refine va_ti hx hb hZ.2.2.2 va_S.rf (i := nI 1) (v := .int (kab 1)) (vp_in_nI (by omega) (by decide)) (by rw [nI_clamp (by omega)]) dX3_isUnder_30 ?_
  refine q_eqi (y := nI 0) (rfl) ?_
  refine lv_istore_n (lv' := [(2, .int (nI 0)), (3, .int (nI 0)), (0, .int (nI 1)), (1, .int (nI 6))]) hx hb dX3_isUnder_31 rfl hl (by decide) rfl (fun ls hl => ?_)
  refine lv_iinc (v := nI 1) (lv' := [(3, .int (nI 1)), (2, .int (nI 0)), (0, .int (nI 1)), (1, .int (nI 6))]) hx hb dX3_isUnder_32 hl (k := 1) rfl (by decide) (by decide) rfl (fun ls hl => ?_)
  refine lv_goto (tgt := 4) hx hb dX3_isUnder_35 (by decide) ?_
  refine lv_iload_n hx hb dX3_isUnder_4 rfl (lv_at hl 0 rfl) ?_
  refine lv_bipush (v := nI 7) hx hb dX3_isUnder_5 (by decide) ?_
  refine q_icmp_geN (tgt := 38) (a := 1) (b := 7) hx hb dX3_isUnder_7 (by decide) (by omega) (by omega) (fun h => absurd h (by omega)) (fun _ => ?_)
  refine lv_iload_n hx hb dX3_isUnder_10 rfl (lv_at hl 1 rfl) ?_
  refine lv_bipush (v := nI 6) hx hb dX3_isUnder_11 (by decide) ?_
  refine RO.callS S ks_X3_44 (c_X3_isWithin l D cI cJ t f g h τ (nI 0) (nI 6)) hK hP ⟨Nat.le_of_ble_eq_true rfl, Nat.le_of_ble_eq_true rfl⟩ hl.1 rfl rfl (Nat.le_of_ble_eq_true rfl) (Nat.zero_le _) (Nat.zero_le _) dX3_isUnder_13 ?_
  refine q_if_eqB (tgt := 38) hx hb dX3_isUnder_16 (by decide) (fun h => absurd (⟨nI_le (by omega) (by omega), nI_le (by omega) (by omega)⟩) h) (fun _ => ?_)
  refine lv_iload_n hx hb dX3_isUnder_19 rfl (lv_at hl 1 rfl) ?_
  refine lv_iload_n hx hb dX3_isUnder_20 rfl (lv_at hl 3 rfl) ?_
  refine q_icmp_neN (tgt := 26) (a := 0) (b := 6) hx hb dX3_isUnder_21 (by decide) (by omega) (by omega) (fun _ => ?_) (fun h => absurd h (by omega))
  refine va_gets hx hb hZ.2.2.1 va_S.rf hown (hU _ mF_X3_235) (fun _ h => h) dX3_isUnder_26 ?_
  refine lv_iload_n hx hb dX3_isUnder_29 rfl (lv_at hl 1 rfl) ?_
  refine va_ti hx hb hZ.2.2.2 va_S.rf (i := nI 0) (v := .int (kab 0)) (vp_in_nI (by omega) (by decide)) (by rw [nI_clamp (by omega)]) dX3_isUnder_30 ?_
  refine q_eqi (y := (-1)) (rfl) ?_
  refine lv_istore_n (lv' := [(2, .int (-1)), (3, .int (nI 1)), (0, .int (nI 1)), (1, .int (nI 6))]) hx hb dX3_isUnder_31 rfl hl (by decide) rfl (fun ls hl => ?_)
  refine lv_iinc (v := nI 2) (lv' := [(3, .int (nI 2)), (2, .int (-1)), (0, .int (nI 1)), (1, .int (nI 6))]) hx hb dX3_isUnder_32 hl (k := 1) rfl (by decide) (by decide) rfl (fun ls hl => ?_)
  refine lv_goto (tgt := 4) hx hb dX3_isUnder_35 (by decide) ?_
  refine lv_iload_n hx hb dX3_isUnder_4 rfl (lv_at hl 0 rfl) ?_
  refine lv_bipush (v := nI 7) hx hb dX3_isUnder_5 (by decide) ?_
  refine q_icmp_geN (tgt := 38) (a := 2) (b := 7) hx hb dX3_isUnder_7 (by decide) (by omega) (by omega) (fun h => absurd h (by omega)) (fun _ => ?_)
  refine lv_iload_n hx hb dX3_isUnder_10 rfl (lv_at hl 1 rfl) ?_
  refine lv_bipush (v := nI 6) hx hb dX3_isUnder_11 (by decide) ?_
  refine RO.callS S ks_X3_44 (c_X3_isWithin l D cI cJ t f g h τ (-1) (nI 6)) hK hP ⟨Nat.le_of_ble_eq_true rfl, Nat.le_of_ble_eq_true rfl⟩ hl.1 rfl rfl (Nat.le_of_ble_eq_true rfl) (Nat.zero_le _) (Nat.zero_le _) dX3_isUnder_13 ?_
  refine q_if_eqB (tgt := 38) hx hb dX3_isUnder_16 (by decide) (fun _ => ?_) (fun h => absurd h (by decide))
  refine lv_iconst (v := nI 0) hx hb dX3_isUnder_38 (by decide) ?_
  exact RO.zret S hr hlk (bI_f (by decide)) dX3_isUnder_39
set_option maxRecDepth 100000 in
set_option maxHeartbeats 4000000 in
theorem c_X3_isUnder_2_0 (l : Launch) (D : va_G) (cI cJ : ClassId) (t : Nat → Nat) (f g h : Nat → Int32) (τ : Nat → Nat → Int32) (mt ka : Nat) : RZ mt ka l yX3_isUnder cX3_isUnder 4 (some .boolean) 1 D cI cJ (TW cI cJ t f g h τ) [.int (nI 2), .int (nI 0)] (.int (bI (uU 2 0))) := by
  refine RZ.of (by decide) (Nat.le_of_ble_eq_true rfl) (fun p e s m below meth c ls S hr hlk hK hP hZ hl => ?_)
  obtain ⟨hx, hb, hml, hown, hU⟩ := id S
  have hl : lv_has ls 4 [(0, .int (nI 2)), (1, .int (nI 0))] := hl
  refine lv_iload_n hx hb dX3_isUnder_0 rfl (lv_at hl 0 rfl) ?_
  refine lv_istore_n (lv' := [(2, .int (nI 2)), (0, .int (nI 2)), (1, .int (nI 0))]) hx hb dX3_isUnder_1 rfl hl (by decide) rfl (fun ls hl => ?_)
  refine lv_iconst (v := nI 0) hx hb dX3_isUnder_2 (by decide) ?_
  refine lv_istore_n (lv' := [(3, .int (nI 0)), (2, .int (nI 2)), (0, .int (nI 2)), (1, .int (nI 0))]) hx hb dX3_isUnder_3 rfl hl (by decide) rfl (fun ls hl => ?_)
  refine lv_iload_n hx hb dX3_isUnder_4 rfl (lv_at hl 0 rfl) ?_
  refine lv_bipush (v := nI 7) hx hb dX3_isUnder_5 (by decide) ?_
  refine q_icmp_geN (tgt := 38) (a := 0) (b := 7) hx hb dX3_isUnder_7 (by decide) (by omega) (by omega) (fun h => absurd h (by omega)) (fun _ => ?_)
  refine lv_iload_n hx hb dX3_isUnder_10 rfl (lv_at hl 1 rfl) ?_
  refine lv_bipush (v := nI 6) hx hb dX3_isUnder_11 (by decide) ?_
  refine RO.callS S ks_X3_44 (c_X3_isWithin l D cI cJ t f g h τ (nI 2) (nI 6)) hK hP ⟨Nat.le_of_ble_eq_true rfl, Nat.le_of_ble_eq_true rfl⟩ hl.1 rfl rfl (Nat.le_of_ble_eq_true rfl) (Nat.zero_le _) (Nat.zero_le _) dX3_isUnder_13 ?_
  refine q_if_eqB (tgt := 38) hx hb dX3_isUnder_16 (by decide) (fun h => absurd (⟨nI_le (by omega) (by omega), nI_le (by omega) (by omega)⟩) h) (fun _ => ?_)
  refine lv_iload_n hx hb dX3_isUnder_19 rfl (lv_at hl 1 rfl) ?_
  refine lv_iload_n hx hb dX3_isUnder_20 rfl (lv_at hl 3 rfl) ?_
  refine q_icmp_neN (tgt := 26) (a := 2) (b := 0) hx hb dX3_isUnder_21 (by decide) (by omega) (by omega) (fun _ => ?_) (fun h => absurd h (by omega))
  refine va_gets hx hb hZ.2.2.1 va_S.rf hown (hU _ mF_X3_235) (fun _ h => h) dX3_isUnder_26 ?_
  refine lv_iload_n hx hb dX3_isUnder_29 rfl (lv_at hl 1 rfl) ?_
  refine va_ti hx hb hZ.2.2.2 va_S.rf (i := nI 2) (v := .int (kab 2)) (vp_in_nI (by omega) (by decide)) (by rw [nI_clamp (by omega)]) dX3_isUnder_30 ?_
  refine q_eqi (y := nI 0) (rfl) ?_
  refine lv_istore_n (lv' := [(2, .int (nI 0)), (3, .int (nI 0)), (0, .int (nI 2)), (1, .int (nI 0))]) hx hb dX3_isUnder_31 rfl hl (by decide) rfl (fun ls hl => ?_)
  refine lv_iinc (v := nI 1) (lv' := [(3, .int (nI 1)), (2, .int (nI 0)), (0, .int (nI 2)), (1, .int (nI 0))]) hx hb dX3_isUnder_32 hl (k := 1) rfl (by decide) (by decide) rfl (fun ls hl => ?_)
  refine lv_goto (tgt := 4) hx hb dX3_isUnder_35 (by decide) ?_
  refine lv_iload_n hx hb dX3_isUnder_4 rfl (lv_at hl 0 rfl) ?_
  refine lv_bipush (v := nI 7) hx hb dX3_isUnder_5 (by decide) ?_
  refine q_icmp_geN (tgt := 38) (a := 1) (b := 7) hx hb dX3_isUnder_7 (by decide) (by omega) (by omega) (fun h => absurd h (by omega)) (fun _ => ?_)
  refine lv_iload_n hx hb dX3_isUnder_10 rfl (lv_at hl 1 rfl) ?_
  refine lv_bipush (v := nI 6) hx hb dX3_isUnder_11 (by decide) ?_
  refine RO.callS S ks_X3_44 (c_X3_isWithin l D cI cJ t f g h τ (nI 0) (nI 6)) hK hP ⟨Nat.le_of_ble_eq_true rfl, Nat.le_of_ble_eq_true rfl⟩ hl.1 rfl rfl (Nat.le_of_ble_eq_true rfl) (Nat.zero_le _) (Nat.zero_le _) dX3_isUnder_13 ?_
  refine q_if_eqB (tgt := 38) hx hb dX3_isUnder_16 (by decide) (fun h => absurd (⟨nI_le (by omega) (by omega), nI_le (by omega) (by omega)⟩) h) (fun _ => ?_)
  refine lv_iload_n hx hb dX3_isUnder_19 rfl (lv_at hl 1 rfl) ?_
  refine lv_iload_n hx hb dX3_isUnder_20 rfl (lv_at hl 3 rfl) ?_
  refine q_icmp_neN (tgt := 26) (a := 0) (b := 0) hx hb dX3_isUnder_21 (by decide) (by omega) (by omega) (fun h => absurd h (by omega)) (fun _ => ?_)
  refine lv_iconst (v := nI 1) hx hb dX3_isUnder_24 (by decide) ?_
  exact RO.zret S hr hlk (bI_t (by decide)) dX3_isUnder_25
set_option maxRecDepth 100000 in
set_option maxHeartbeats 4000000 in
theorem c_X3_isUnder_2_1 (l : Launch) (D : va_G) (cI cJ : ClassId) (t : Nat → Nat) (f g h : Nat → Int32) (τ : Nat → Nat → Int32) (mt ka : Nat) : RZ mt ka l yX3_isUnder cX3_isUnder 4 (some .boolean) 1 D cI cJ (TW cI cJ t f g h τ) [.int (nI 2), .int (nI 1)] (.int (bI (uU 2 1))) := by
  refine RZ.of (by decide) (Nat.le_of_ble_eq_true rfl) (fun p e s m below meth c ls S hr hlk hK hP hZ hl => ?_)
  obtain ⟨hx, hb, hml, hown, hU⟩ := id S
  have hl : lv_has ls 4 [(0, .int (nI 2)), (1, .int (nI 1))] := hl
  refine lv_iload_n hx hb dX3_isUnder_0 rfl (lv_at hl 0 rfl) ?_
  refine lv_istore_n (lv' := [(2, .int (nI 2)), (0, .int (nI 2)), (1, .int (nI 1))]) hx hb dX3_isUnder_1 rfl hl (by decide) rfl (fun ls hl => ?_)
  refine lv_iconst (v := nI 0) hx hb dX3_isUnder_2 (by decide) ?_
  refine lv_istore_n (lv' := [(3, .int (nI 0)), (2, .int (nI 2)), (0, .int (nI 2)), (1, .int (nI 1))]) hx hb dX3_isUnder_3 rfl hl (by decide) rfl (fun ls hl => ?_)
  refine lv_iload_n hx hb dX3_isUnder_4 rfl (lv_at hl 0 rfl) ?_
  refine lv_bipush (v := nI 7) hx hb dX3_isUnder_5 (by decide) ?_
  refine q_icmp_geN (tgt := 38) (a := 0) (b := 7) hx hb dX3_isUnder_7 (by decide) (by omega) (by omega) (fun h => absurd h (by omega)) (fun _ => ?_)
  refine lv_iload_n hx hb dX3_isUnder_10 rfl (lv_at hl 1 rfl) ?_
  refine lv_bipush (v := nI 6) hx hb dX3_isUnder_11 (by decide) ?_
  refine RO.callS S ks_X3_44 (c_X3_isWithin l D cI cJ t f g h τ (nI 2) (nI 6)) hK hP ⟨Nat.le_of_ble_eq_true rfl, Nat.le_of_ble_eq_true rfl⟩ hl.1 rfl rfl (Nat.le_of_ble_eq_true rfl) (Nat.zero_le _) (Nat.zero_le _) dX3_isUnder_13 ?_
  refine q_if_eqB (tgt := 38) hx hb dX3_isUnder_16 (by decide) (fun h => absurd (⟨nI_le (by omega) (by omega), nI_le (by omega) (by omega)⟩) h) (fun _ => ?_)
  refine lv_iload_n hx hb dX3_isUnder_19 rfl (lv_at hl 1 rfl) ?_
  refine lv_iload_n hx hb dX3_isUnder_20 rfl (lv_at hl 3 rfl) ?_
  refine q_icmp_neN (tgt := 26) (a := 2) (b := 1) hx hb dX3_isUnder_21 (by decide) (by omega) (by omega) (fun _ => ?_) (fun h => absurd h (by omega))
  refine va_gets hx hb hZ.2.2.1 va_S.rf hown (hU _ mF_X3_235) (fun _ h => h) dX3_isUnder_26 ?_
  refine lv_iload_n hx hb dX3_isUnder_29 rfl (lv_at hl 1 rfl) ?_
  refine va_ti hx hb hZ.2.2.2 va_S.rf (i := nI 2) (v := .int (kab 2)) (vp_in_nI (by omega) (by decide)) (by rw [nI_clamp (by omega)]) dX3_isUnder_30 ?_
  refine q_eqi (y := nI 0) (rfl) ?_
  refine lv_istore_n (lv' := [(2, .int (nI 0)), (3, .int (nI 0)), (0, .int (nI 2)), (1, .int (nI 1))]) hx hb dX3_isUnder_31 rfl hl (by decide) rfl (fun ls hl => ?_)
  refine lv_iinc (v := nI 1) (lv' := [(3, .int (nI 1)), (2, .int (nI 0)), (0, .int (nI 2)), (1, .int (nI 1))]) hx hb dX3_isUnder_32 hl (k := 1) rfl (by decide) (by decide) rfl (fun ls hl => ?_)
  refine lv_goto (tgt := 4) hx hb dX3_isUnder_35 (by decide) ?_
  refine lv_iload_n hx hb dX3_isUnder_4 rfl (lv_at hl 0 rfl) ?_
  refine lv_bipush (v := nI 7) hx hb dX3_isUnder_5 (by decide) ?_
  refine q_icmp_geN (tgt := 38) (a := 1) (b := 7) hx hb dX3_isUnder_7 (by decide) (by omega) (by omega) (fun h => absurd h (by omega)) (fun _ => ?_)
  refine lv_iload_n hx hb dX3_isUnder_10 rfl (lv_at hl 1 rfl) ?_
  refine lv_bipush (v := nI 6) hx hb dX3_isUnder_11 (by decide) ?_
  refine RO.callS S ks_X3_44 (c_X3_isWithin l D cI cJ t f g h τ (nI 0) (nI 6)) hK hP ⟨Nat.le_of_ble_eq_true rfl, Nat.le_of_ble_eq_true rfl⟩ hl.1 rfl rfl (Nat.le_of_ble_eq_true rfl) (Nat.zero_le _) (Nat.zero_le _) dX3_isUnder_13 ?_
  refine q_if_eqB (tgt := 38) hx hb dX3_isUnder_16 (by decide) (fun h => absurd (⟨nI_le (by omega) (by omega), nI_le (by omega) (by omega)⟩) h) (fun _ => ?_)
  refine lv_iload_n hx hb dX3_isUnder_19 rfl (lv_at hl 1 rfl) ?_
  refine lv_iload_n hx hb dX3_isUnder_20 rfl (lv_at hl 3 rfl) ?_
  refine q_icmp_neN (tgt := 26) (a := 0) (b := 1) hx hb dX3_isUnder_21 (by decide) (by omega) (by omega) (fun _ => ?_) (fun h => absurd h (by omega))
  refine va_gets hx hb hZ.2.2.1 va_S.rf hown (hU _ mF_X3_235) (fun _ h => h) dX3_isUnder_26 ?_
  refine lv_iload_n hx hb dX3_isUnder_29 rfl (lv_at hl 1 rfl) ?_
  refine va_ti hx hb hZ.2.2.2 va_S.rf (i := nI 0) (v := .int (kab 0)) (vp_in_nI (by omega) (by decide)) (by rw [nI_clamp (by omega)]) dX3_isUnder_30 ?_
  refine q_eqi (y := (-1)) (rfl) ?_
  refine lv_istore_n (lv' := [(2, .int (-1)), (3, .int (nI 1)), (0, .int (nI 2)), (1, .int (nI 1))]) hx hb dX3_isUnder_31 rfl hl (by decide) rfl (fun ls hl => ?_)
  refine lv_iinc (v := nI 2) (lv' := [(3, .int (nI 2)), (2, .int (-1)), (0, .int (nI 2)), (1, .int (nI 1))]) hx hb dX3_isUnder_32 hl (k := 1) rfl (by decide) (by decide) rfl (fun ls hl => ?_)
  refine lv_goto (tgt := 4) hx hb dX3_isUnder_35 (by decide) ?_
  refine lv_iload_n hx hb dX3_isUnder_4 rfl (lv_at hl 0 rfl) ?_
  refine lv_bipush (v := nI 7) hx hb dX3_isUnder_5 (by decide) ?_
  refine q_icmp_geN (tgt := 38) (a := 2) (b := 7) hx hb dX3_isUnder_7 (by decide) (by omega) (by omega) (fun h => absurd h (by omega)) (fun _ => ?_)
  refine lv_iload_n hx hb dX3_isUnder_10 rfl (lv_at hl 1 rfl) ?_
  refine lv_bipush (v := nI 6) hx hb dX3_isUnder_11 (by decide) ?_
  refine RO.callS S ks_X3_44 (c_X3_isWithin l D cI cJ t f g h τ (-1) (nI 6)) hK hP ⟨Nat.le_of_ble_eq_true rfl, Nat.le_of_ble_eq_true rfl⟩ hl.1 rfl rfl (Nat.le_of_ble_eq_true rfl) (Nat.zero_le _) (Nat.zero_le _) dX3_isUnder_13 ?_
  refine q_if_eqB (tgt := 38) hx hb dX3_isUnder_16 (by decide) (fun _ => ?_) (fun h => absurd h (by decide))
  refine lv_iconst (v := nI 0) hx hb dX3_isUnder_38 (by decide) ?_
  exact RO.zret S hr hlk (bI_f (by decide)) dX3_isUnder_39
set_option maxRecDepth 100000 in
set_option maxHeartbeats 4000000 in
theorem c_X3_isUnder_2_2 (l : Launch) (D : va_G) (cI cJ : ClassId) (t : Nat → Nat) (f g h : Nat → Int32) (τ : Nat → Nat → Int32) (mt ka : Nat) : RZ mt ka l yX3_isUnder cX3_isUnder 4 (some .boolean) 1 D cI cJ (TW cI cJ t f g h τ) [.int (nI 2), .int (nI 2)] (.int (bI (uU 2 2))) := by
  refine RZ.of (by decide) (Nat.le_of_ble_eq_true rfl) (fun p e s m below meth c ls S hr hlk hK hP hZ hl => ?_)
  obtain ⟨hx, hb, hml, hown, hU⟩ := id S
  have hl : lv_has ls 4 [(0, .int (nI 2)), (1, .int (nI 2))] := hl
  refine lv_iload_n hx hb dX3_isUnder_0 rfl (lv_at hl 0 rfl) ?_
  refine lv_istore_n (lv' := [(2, .int (nI 2)), (0, .int (nI 2)), (1, .int (nI 2))]) hx hb dX3_isUnder_1 rfl hl (by decide) rfl (fun ls hl => ?_)
  refine lv_iconst (v := nI 0) hx hb dX3_isUnder_2 (by decide) ?_
  refine lv_istore_n (lv' := [(3, .int (nI 0)), (2, .int (nI 2)), (0, .int (nI 2)), (1, .int (nI 2))]) hx hb dX3_isUnder_3 rfl hl (by decide) rfl (fun ls hl => ?_)
  refine lv_iload_n hx hb dX3_isUnder_4 rfl (lv_at hl 0 rfl) ?_
  refine lv_bipush (v := nI 7) hx hb dX3_isUnder_5 (by decide) ?_
  refine q_icmp_geN (tgt := 38) (a := 0) (b := 7) hx hb dX3_isUnder_7 (by decide) (by omega) (by omega) (fun h => absurd h (by omega)) (fun _ => ?_)
  refine lv_iload_n hx hb dX3_isUnder_10 rfl (lv_at hl 1 rfl) ?_
  refine lv_bipush (v := nI 6) hx hb dX3_isUnder_11 (by decide) ?_
  refine RO.callS S ks_X3_44 (c_X3_isWithin l D cI cJ t f g h τ (nI 2) (nI 6)) hK hP ⟨Nat.le_of_ble_eq_true rfl, Nat.le_of_ble_eq_true rfl⟩ hl.1 rfl rfl (Nat.le_of_ble_eq_true rfl) (Nat.zero_le _) (Nat.zero_le _) dX3_isUnder_13 ?_
  refine q_if_eqB (tgt := 38) hx hb dX3_isUnder_16 (by decide) (fun h => absurd (⟨nI_le (by omega) (by omega), nI_le (by omega) (by omega)⟩) h) (fun _ => ?_)
  refine lv_iload_n hx hb dX3_isUnder_19 rfl (lv_at hl 1 rfl) ?_
  refine lv_iload_n hx hb dX3_isUnder_20 rfl (lv_at hl 3 rfl) ?_
  refine q_icmp_neN (tgt := 26) (a := 2) (b := 2) hx hb dX3_isUnder_21 (by decide) (by omega) (by omega) (fun h => absurd h (by omega)) (fun _ => ?_)
  refine lv_iconst (v := nI 1) hx hb dX3_isUnder_24 (by decide) ?_
  exact RO.zret S hr hlk (bI_t (by decide)) dX3_isUnder_25
set_option maxRecDepth 100000 in
set_option maxHeartbeats 4000000 in
theorem c_X3_isUnder_2_3 (l : Launch) (D : va_G) (cI cJ : ClassId) (t : Nat → Nat) (f g h : Nat → Int32) (τ : Nat → Nat → Int32) (mt ka : Nat) : RZ mt ka l yX3_isUnder cX3_isUnder 4 (some .boolean) 1 D cI cJ (TW cI cJ t f g h τ) [.int (nI 2), .int (nI 3)] (.int (bI (uU 2 3))) := by
  refine RZ.of (by decide) (Nat.le_of_ble_eq_true rfl) (fun p e s m below meth c ls S hr hlk hK hP hZ hl => ?_)
  obtain ⟨hx, hb, hml, hown, hU⟩ := id S
  have hl : lv_has ls 4 [(0, .int (nI 2)), (1, .int (nI 3))] := hl
  refine lv_iload_n hx hb dX3_isUnder_0 rfl (lv_at hl 0 rfl) ?_
  refine lv_istore_n (lv' := [(2, .int (nI 2)), (0, .int (nI 2)), (1, .int (nI 3))]) hx hb dX3_isUnder_1 rfl hl (by decide) rfl (fun ls hl => ?_)
  refine lv_iconst (v := nI 0) hx hb dX3_isUnder_2 (by decide) ?_
  refine lv_istore_n (lv' := [(3, .int (nI 0)), (2, .int (nI 2)), (0, .int (nI 2)), (1, .int (nI 3))]) hx hb dX3_isUnder_3 rfl hl (by decide) rfl (fun ls hl => ?_)
  refine lv_iload_n hx hb dX3_isUnder_4 rfl (lv_at hl 0 rfl) ?_
  refine lv_bipush (v := nI 7) hx hb dX3_isUnder_5 (by decide) ?_
  refine q_icmp_geN (tgt := 38) (a := 0) (b := 7) hx hb dX3_isUnder_7 (by decide) (by omega) (by omega) (fun h => absurd h (by omega)) (fun _ => ?_)
  refine lv_iload_n hx hb dX3_isUnder_10 rfl (lv_at hl 1 rfl) ?_
  refine lv_bipush (v := nI 6) hx hb dX3_isUnder_11 (by decide) ?_
  refine RO.callS S ks_X3_44 (c_X3_isWithin l D cI cJ t f g h τ (nI 2) (nI 6)) hK hP ⟨Nat.le_of_ble_eq_true rfl, Nat.le_of_ble_eq_true rfl⟩ hl.1 rfl rfl (Nat.le_of_ble_eq_true rfl) (Nat.zero_le _) (Nat.zero_le _) dX3_isUnder_13 ?_
  refine q_if_eqB (tgt := 38) hx hb dX3_isUnder_16 (by decide) (fun h => absurd (⟨nI_le (by omega) (by omega), nI_le (by omega) (by omega)⟩) h) (fun _ => ?_)
  refine lv_iload_n hx hb dX3_isUnder_19 rfl (lv_at hl 1 rfl) ?_
  refine lv_iload_n hx hb dX3_isUnder_20 rfl (lv_at hl 3 rfl) ?_
  refine q_icmp_neN (tgt := 26) (a := 2) (b := 3) hx hb dX3_isUnder_21 (by decide) (by omega) (by omega) (fun _ => ?_) (fun h => absurd h (by omega))
  refine va_gets hx hb hZ.2.2.1 va_S.rf hown (hU _ mF_X3_235) (fun _ h => h) dX3_isUnder_26 ?_
  refine lv_iload_n hx hb dX3_isUnder_29 rfl (lv_at hl 1 rfl) ?_
  refine va_ti hx hb hZ.2.2.2 va_S.rf (i := nI 2) (v := .int (kab 2)) (vp_in_nI (by omega) (by decide)) (by rw [nI_clamp (by omega)]) dX3_isUnder_30 ?_
  refine q_eqi (y := nI 0) (rfl) ?_
  refine lv_istore_n (lv' := [(2, .int (nI 0)), (3, .int (nI 0)), (0, .int (nI 2)), (1, .int (nI 3))]) hx hb dX3_isUnder_31 rfl hl (by decide) rfl (fun ls hl => ?_)
  refine lv_iinc (v := nI 1) (lv' := [(3, .int (nI 1)), (2, .int (nI 0)), (0, .int (nI 2)), (1, .int (nI 3))]) hx hb dX3_isUnder_32 hl (k := 1) rfl (by decide) (by decide) rfl (fun ls hl => ?_)
  refine lv_goto (tgt := 4) hx hb dX3_isUnder_35 (by decide) ?_
  refine lv_iload_n hx hb dX3_isUnder_4 rfl (lv_at hl 0 rfl) ?_
  refine lv_bipush (v := nI 7) hx hb dX3_isUnder_5 (by decide) ?_
  refine q_icmp_geN (tgt := 38) (a := 1) (b := 7) hx hb dX3_isUnder_7 (by decide) (by omega) (by omega) (fun h => absurd h (by omega)) (fun _ => ?_)
  refine lv_iload_n hx hb dX3_isUnder_10 rfl (lv_at hl 1 rfl) ?_
  refine lv_bipush (v := nI 6) hx hb dX3_isUnder_11 (by decide) ?_
  refine RO.callS S ks_X3_44 (c_X3_isWithin l D cI cJ t f g h τ (nI 0) (nI 6)) hK hP ⟨Nat.le_of_ble_eq_true rfl, Nat.le_of_ble_eq_true rfl⟩ hl.1 rfl rfl (Nat.le_of_ble_eq_true rfl) (Nat.zero_le _) (Nat.zero_le _) dX3_isUnder_13 ?_
  refine q_if_eqB (tgt := 38) hx hb dX3_isUnder_16 (by decide) (fun h => absurd (⟨nI_le (by omega) (by omega), nI_le (by omega) (by omega)⟩) h) (fun _ => ?_)
  refine lv_iload_n hx hb dX3_isUnder_19 rfl (lv_at hl 1 rfl) ?_
  refine lv_iload_n hx hb dX3_isUnder_20 rfl (lv_at hl 3 rfl) ?_
  refine q_icmp_neN (tgt := 26) (a := 0) (b := 3) hx hb dX3_isUnder_21 (by decide) (by omega) (by omega) (fun _ => ?_) (fun h => absurd h (by omega))
  refine va_gets hx hb hZ.2.2.1 va_S.rf hown (hU _ mF_X3_235) (fun _ h => h) dX3_isUnder_26 ?_
  refine lv_iload_n hx hb dX3_isUnder_29 rfl (lv_at hl 1 rfl) ?_
  refine va_ti hx hb hZ.2.2.2 va_S.rf (i := nI 0) (v := .int (kab 0)) (vp_in_nI (by omega) (by decide)) (by rw [nI_clamp (by omega)]) dX3_isUnder_30 ?_
  refine q_eqi (y := (-1)) (rfl) ?_
  refine lv_istore_n (lv' := [(2, .int (-1)), (3, .int (nI 1)), (0, .int (nI 2)), (1, .int (nI 3))]) hx hb dX3_isUnder_31 rfl hl (by decide) rfl (fun ls hl => ?_)
  refine lv_iinc (v := nI 2) (lv' := [(3, .int (nI 2)), (2, .int (-1)), (0, .int (nI 2)), (1, .int (nI 3))]) hx hb dX3_isUnder_32 hl (k := 1) rfl (by decide) (by decide) rfl (fun ls hl => ?_)
  refine lv_goto (tgt := 4) hx hb dX3_isUnder_35 (by decide) ?_
  refine lv_iload_n hx hb dX3_isUnder_4 rfl (lv_at hl 0 rfl) ?_
  refine lv_bipush (v := nI 7) hx hb dX3_isUnder_5 (by decide) ?_
  refine q_icmp_geN (tgt := 38) (a := 2) (b := 7) hx hb dX3_isUnder_7 (by decide) (by omega) (by omega) (fun h => absurd h (by omega)) (fun _ => ?_)
  refine lv_iload_n hx hb dX3_isUnder_10 rfl (lv_at hl 1 rfl) ?_
  refine lv_bipush (v := nI 6) hx hb dX3_isUnder_11 (by decide) ?_
  refine RO.callS S ks_X3_44 (c_X3_isWithin l D cI cJ t f g h τ (-1) (nI 6)) hK hP ⟨Nat.le_of_ble_eq_true rfl, Nat.le_of_ble_eq_true rfl⟩ hl.1 rfl rfl (Nat.le_of_ble_eq_true rfl) (Nat.zero_le _) (Nat.zero_le _) dX3_isUnder_13 ?_
  refine q_if_eqB (tgt := 38) hx hb dX3_isUnder_16 (by decide) (fun _ => ?_) (fun h => absurd h (by decide))
  refine lv_iconst (v := nI 0) hx hb dX3_isUnder_38 (by decide) ?_
  exact RO.zret S hr hlk (bI_f (by decide)) dX3_isUnder_39
set_option maxRecDepth 100000 in
set_option maxHeartbeats 4000000 in
theorem c_X3_isUnder_2_4 (l : Launch) (D : va_G) (cI cJ : ClassId) (t : Nat → Nat) (f g h : Nat → Int32) (τ : Nat → Nat → Int32) (mt ka : Nat) : RZ mt ka l yX3_isUnder cX3_isUnder 4 (some .boolean) 1 D cI cJ (TW cI cJ t f g h τ) [.int (nI 2), .int (nI 4)] (.int (bI (uU 2 4))) := by
  refine RZ.of (by decide) (Nat.le_of_ble_eq_true rfl) (fun p e s m below meth c ls S hr hlk hK hP hZ hl => ?_)
  obtain ⟨hx, hb, hml, hown, hU⟩ := id S
  have hl : lv_has ls 4 [(0, .int (nI 2)), (1, .int (nI 4))] := hl
  refine lv_iload_n hx hb dX3_isUnder_0 rfl (lv_at hl 0 rfl) ?_
  refine lv_istore_n (lv' := [(2, .int (nI 2)), (0, .int (nI 2)), (1, .int (nI 4))]) hx hb dX3_isUnder_1 rfl hl (by decide) rfl (fun ls hl => ?_)
  refine lv_iconst (v := nI 0) hx hb dX3_isUnder_2 (by decide) ?_
  refine lv_istore_n (lv' := [(3, .int (nI 0)), (2, .int (nI 2)), (0, .int (nI 2)), (1, .int (nI 4))]) hx hb dX3_isUnder_3 rfl hl (by decide) rfl (fun ls hl => ?_)
  refine lv_iload_n hx hb dX3_isUnder_4 rfl (lv_at hl 0 rfl) ?_
  refine lv_bipush (v := nI 7) hx hb dX3_isUnder_5 (by decide) ?_
  refine q_icmp_geN (tgt := 38) (a := 0) (b := 7) hx hb dX3_isUnder_7 (by decide) (by omega) (by omega) (fun h => absurd h (by omega)) (fun _ => ?_)
  refine lv_iload_n hx hb dX3_isUnder_10 rfl (lv_at hl 1 rfl) ?_
  refine lv_bipush (v := nI 6) hx hb dX3_isUnder_11 (by decide) ?_
  refine RO.callS S ks_X3_44 (c_X3_isWithin l D cI cJ t f g h τ (nI 2) (nI 6)) hK hP ⟨Nat.le_of_ble_eq_true rfl, Nat.le_of_ble_eq_true rfl⟩ hl.1 rfl rfl (Nat.le_of_ble_eq_true rfl) (Nat.zero_le _) (Nat.zero_le _) dX3_isUnder_13 ?_
  refine q_if_eqB (tgt := 38) hx hb dX3_isUnder_16 (by decide) (fun h => absurd (⟨nI_le (by omega) (by omega), nI_le (by omega) (by omega)⟩) h) (fun _ => ?_)
  refine lv_iload_n hx hb dX3_isUnder_19 rfl (lv_at hl 1 rfl) ?_
  refine lv_iload_n hx hb dX3_isUnder_20 rfl (lv_at hl 3 rfl) ?_
  refine q_icmp_neN (tgt := 26) (a := 2) (b := 4) hx hb dX3_isUnder_21 (by decide) (by omega) (by omega) (fun _ => ?_) (fun h => absurd h (by omega))
  refine va_gets hx hb hZ.2.2.1 va_S.rf hown (hU _ mF_X3_235) (fun _ h => h) dX3_isUnder_26 ?_
  refine lv_iload_n hx hb dX3_isUnder_29 rfl (lv_at hl 1 rfl) ?_
  refine va_ti hx hb hZ.2.2.2 va_S.rf (i := nI 2) (v := .int (kab 2)) (vp_in_nI (by omega) (by decide)) (by rw [nI_clamp (by omega)]) dX3_isUnder_30 ?_
  refine q_eqi (y := nI 0) (rfl) ?_
  refine lv_istore_n (lv' := [(2, .int (nI 0)), (3, .int (nI 0)), (0, .int (nI 2)), (1, .int (nI 4))]) hx hb dX3_isUnder_31 rfl hl (by decide) rfl (fun ls hl => ?_)
  refine lv_iinc (v := nI 1) (lv' := [(3, .int (nI 1)), (2, .int (nI 0)), (0, .int (nI 2)), (1, .int (nI 4))]) hx hb dX3_isUnder_32 hl (k := 1) rfl (by decide) (by decide) rfl (fun ls hl => ?_)
  refine lv_goto (tgt := 4) hx hb dX3_isUnder_35 (by decide) ?_
  refine lv_iload_n hx hb dX3_isUnder_4 rfl (lv_at hl 0 rfl) ?_
  refine lv_bipush (v := nI 7) hx hb dX3_isUnder_5 (by decide) ?_
  refine q_icmp_geN (tgt := 38) (a := 1) (b := 7) hx hb dX3_isUnder_7 (by decide) (by omega) (by omega) (fun h => absurd h (by omega)) (fun _ => ?_)
  refine lv_iload_n hx hb dX3_isUnder_10 rfl (lv_at hl 1 rfl) ?_
  refine lv_bipush (v := nI 6) hx hb dX3_isUnder_11 (by decide) ?_
  refine RO.callS S ks_X3_44 (c_X3_isWithin l D cI cJ t f g h τ (nI 0) (nI 6)) hK hP ⟨Nat.le_of_ble_eq_true rfl, Nat.le_of_ble_eq_true rfl⟩ hl.1 rfl rfl (Nat.le_of_ble_eq_true rfl) (Nat.zero_le _) (Nat.zero_le _) dX3_isUnder_13 ?_
  refine q_if_eqB (tgt := 38) hx hb dX3_isUnder_16 (by decide) (fun h => absurd (⟨nI_le (by omega) (by omega), nI_le (by omega) (by omega)⟩) h) (fun _ => ?_)
  refine lv_iload_n hx hb dX3_isUnder_19 rfl (lv_at hl 1 rfl) ?_
  refine lv_iload_n hx hb dX3_isUnder_20 rfl (lv_at hl 3 rfl) ?_
  refine q_icmp_neN (tgt := 26) (a := 0) (b := 4) hx hb dX3_isUnder_21 (by decide) (by omega) (by omega) (fun _ => ?_) (fun h => absurd h (by omega))
  refine va_gets hx hb hZ.2.2.1 va_S.rf hown (hU _ mF_X3_235) (fun _ h => h) dX3_isUnder_26 ?_
  refine lv_iload_n hx hb dX3_isUnder_29 rfl (lv_at hl 1 rfl) ?_
  refine va_ti hx hb hZ.2.2.2 va_S.rf (i := nI 0) (v := .int (kab 0)) (vp_in_nI (by omega) (by decide)) (by rw [nI_clamp (by omega)]) dX3_isUnder_30 ?_
  refine q_eqi (y := (-1)) (rfl) ?_
  refine lv_istore_n (lv' := [(2, .int (-1)), (3, .int (nI 1)), (0, .int (nI 2)), (1, .int (nI 4))]) hx hb dX3_isUnder_31 rfl hl (by decide) rfl (fun ls hl => ?_)
  refine lv_iinc (v := nI 2) (lv' := [(3, .int (nI 2)), (2, .int (-1)), (0, .int (nI 2)), (1, .int (nI 4))]) hx hb dX3_isUnder_32 hl (k := 1) rfl (by decide) (by decide) rfl (fun ls hl => ?_)
  refine lv_goto (tgt := 4) hx hb dX3_isUnder_35 (by decide) ?_
  refine lv_iload_n hx hb dX3_isUnder_4 rfl (lv_at hl 0 rfl) ?_
  refine lv_bipush (v := nI 7) hx hb dX3_isUnder_5 (by decide) ?_
  refine q_icmp_geN (tgt := 38) (a := 2) (b := 7) hx hb dX3_isUnder_7 (by decide) (by omega) (by omega) (fun h => absurd h (by omega)) (fun _ => ?_)
  refine lv_iload_n hx hb dX3_isUnder_10 rfl (lv_at hl 1 rfl) ?_
  refine lv_bipush (v := nI 6) hx hb dX3_isUnder_11 (by decide) ?_
  refine RO.callS S ks_X3_44 (c_X3_isWithin l D cI cJ t f g h τ (-1) (nI 6)) hK hP ⟨Nat.le_of_ble_eq_true rfl, Nat.le_of_ble_eq_true rfl⟩ hl.1 rfl rfl (Nat.le_of_ble_eq_true rfl) (Nat.zero_le _) (Nat.zero_le _) dX3_isUnder_13 ?_
  refine q_if_eqB (tgt := 38) hx hb dX3_isUnder_16 (by decide) (fun _ => ?_) (fun h => absurd h (by decide))
  refine lv_iconst (v := nI 0) hx hb dX3_isUnder_38 (by decide) ?_
  exact RO.zret S hr hlk (bI_f (by decide)) dX3_isUnder_39
set_option maxRecDepth 100000 in
set_option maxHeartbeats 4000000 in
theorem c_X3_isUnder_2_5 (l : Launch) (D : va_G) (cI cJ : ClassId) (t : Nat → Nat) (f g h : Nat → Int32) (τ : Nat → Nat → Int32) (mt ka : Nat) : RZ mt ka l yX3_isUnder cX3_isUnder 4 (some .boolean) 1 D cI cJ (TW cI cJ t f g h τ) [.int (nI 2), .int (nI 5)] (.int (bI (uU 2 5))) := by
  refine RZ.of (by decide) (Nat.le_of_ble_eq_true rfl) (fun p e s m below meth c ls S hr hlk hK hP hZ hl => ?_)
  obtain ⟨hx, hb, hml, hown, hU⟩ := id S
  have hl : lv_has ls 4 [(0, .int (nI 2)), (1, .int (nI 5))] := hl
  refine lv_iload_n hx hb dX3_isUnder_0 rfl (lv_at hl 0 rfl) ?_
  refine lv_istore_n (lv' := [(2, .int (nI 2)), (0, .int (nI 2)), (1, .int (nI 5))]) hx hb dX3_isUnder_1 rfl hl (by decide) rfl (fun ls hl => ?_)
  refine lv_iconst (v := nI 0) hx hb dX3_isUnder_2 (by decide) ?_
  refine lv_istore_n (lv' := [(3, .int (nI 0)), (2, .int (nI 2)), (0, .int (nI 2)), (1, .int (nI 5))]) hx hb dX3_isUnder_3 rfl hl (by decide) rfl (fun ls hl => ?_)
  refine lv_iload_n hx hb dX3_isUnder_4 rfl (lv_at hl 0 rfl) ?_
  refine lv_bipush (v := nI 7) hx hb dX3_isUnder_5 (by decide) ?_
  refine q_icmp_geN (tgt := 38) (a := 0) (b := 7) hx hb dX3_isUnder_7 (by decide) (by omega) (by omega) (fun h => absurd h (by omega)) (fun _ => ?_)
  refine lv_iload_n hx hb dX3_isUnder_10 rfl (lv_at hl 1 rfl) ?_
  refine lv_bipush (v := nI 6) hx hb dX3_isUnder_11 (by decide) ?_
  refine RO.callS S ks_X3_44 (c_X3_isWithin l D cI cJ t f g h τ (nI 2) (nI 6)) hK hP ⟨Nat.le_of_ble_eq_true rfl, Nat.le_of_ble_eq_true rfl⟩ hl.1 rfl rfl (Nat.le_of_ble_eq_true rfl) (Nat.zero_le _) (Nat.zero_le _) dX3_isUnder_13 ?_
  refine q_if_eqB (tgt := 38) hx hb dX3_isUnder_16 (by decide) (fun h => absurd (⟨nI_le (by omega) (by omega), nI_le (by omega) (by omega)⟩) h) (fun _ => ?_)
  refine lv_iload_n hx hb dX3_isUnder_19 rfl (lv_at hl 1 rfl) ?_
  refine lv_iload_n hx hb dX3_isUnder_20 rfl (lv_at hl 3 rfl) ?_
  refine q_icmp_neN (tgt := 26) (a := 2) (b := 5) hx hb dX3_isUnder_21 (by decide) (by omega) (by omega) (fun _ => ?_) (fun h => absurd h (by omega))
  refine va_gets hx hb hZ.2.2.1 va_S.rf hown (hU _ mF_X3_235) (fun _ h => h) dX3_isUnder_26 ?_
  refine lv_iload_n hx hb dX3_isUnder_29 rfl (lv_at hl 1 rfl) ?_
  refine va_ti hx hb hZ.2.2.2 va_S.rf (i := nI 2) (v := .int (kab 2)) (vp_in_nI (by omega) (by decide)) (by rw [nI_clamp (by omega)]) dX3_isUnder_30 ?_
  refine q_eqi (y := nI 0) (rfl) ?_
  refine lv_istore_n (lv' := [(2, .int (nI 0)), (3, .int (nI 0)), (0, .int (nI 2)), (1, .int (nI 5))]) hx hb dX3_isUnder_31 rfl hl (by decide) rfl (fun ls hl => ?_)
  refine lv_iinc (v := nI 1) (lv' := [(3, .int (nI 1)), (2, .int (nI 0)), (0, .int (nI 2)), (1, .int (nI 5))]) hx hb dX3_isUnder_32 hl (k := 1) rfl (by decide) (by decide) rfl (fun ls hl => ?_)
  refine lv_goto (tgt := 4) hx hb dX3_isUnder_35 (by decide) ?_
  refine lv_iload_n hx hb dX3_isUnder_4 rfl (lv_at hl 0 rfl) ?_
  refine lv_bipush (v := nI 7) hx hb dX3_isUnder_5 (by decide) ?_
  refine q_icmp_geN (tgt := 38) (a := 1) (b := 7) hx hb dX3_isUnder_7 (by decide) (by omega) (by omega) (fun h => absurd h (by omega)) (fun _ => ?_)
  refine lv_iload_n hx hb dX3_isUnder_10 rfl (lv_at hl 1 rfl) ?_
  refine lv_bipush (v := nI 6) hx hb dX3_isUnder_11 (by decide) ?_
  refine RO.callS S ks_X3_44 (c_X3_isWithin l D cI cJ t f g h τ (nI 0) (nI 6)) hK hP ⟨Nat.le_of_ble_eq_true rfl, Nat.le_of_ble_eq_true rfl⟩ hl.1 rfl rfl (Nat.le_of_ble_eq_true rfl) (Nat.zero_le _) (Nat.zero_le _) dX3_isUnder_13 ?_
  refine q_if_eqB (tgt := 38) hx hb dX3_isUnder_16 (by decide) (fun h => absurd (⟨nI_le (by omega) (by omega), nI_le (by omega) (by omega)⟩) h) (fun _ => ?_)
  refine lv_iload_n hx hb dX3_isUnder_19 rfl (lv_at hl 1 rfl) ?_
  refine lv_iload_n hx hb dX3_isUnder_20 rfl (lv_at hl 3 rfl) ?_
  refine q_icmp_neN (tgt := 26) (a := 0) (b := 5) hx hb dX3_isUnder_21 (by decide) (by omega) (by omega) (fun _ => ?_) (fun h => absurd h (by omega))
  refine va_gets hx hb hZ.2.2.1 va_S.rf hown (hU _ mF_X3_235) (fun _ h => h) dX3_isUnder_26 ?_
  refine lv_iload_n hx hb dX3_isUnder_29 rfl (lv_at hl 1 rfl) ?_
  refine va_ti hx hb hZ.2.2.2 va_S.rf (i := nI 0) (v := .int (kab 0)) (vp_in_nI (by omega) (by decide)) (by rw [nI_clamp (by omega)]) dX3_isUnder_30 ?_
  refine q_eqi (y := (-1)) (rfl) ?_
  refine lv_istore_n (lv' := [(2, .int (-1)), (3, .int (nI 1)), (0, .int (nI 2)), (1, .int (nI 5))]) hx hb dX3_isUnder_31 rfl hl (by decide) rfl (fun ls hl => ?_)
  refine lv_iinc (v := nI 2) (lv' := [(3, .int (nI 2)), (2, .int (-1)), (0, .int (nI 2)), (1, .int (nI 5))]) hx hb dX3_isUnder_32 hl (k := 1) rfl (by decide) (by decide) rfl (fun ls hl => ?_)
  refine lv_goto (tgt := 4) hx hb dX3_isUnder_35 (by decide) ?_
  refine lv_iload_n hx hb dX3_isUnder_4 rfl (lv_at hl 0 rfl) ?_
  refine lv_bipush (v := nI 7) hx hb dX3_isUnder_5 (by decide) ?_
  refine q_icmp_geN (tgt := 38) (a := 2) (b := 7) hx hb dX3_isUnder_7 (by decide) (by omega) (by omega) (fun h => absurd h (by omega)) (fun _ => ?_)
  refine lv_iload_n hx hb dX3_isUnder_10 rfl (lv_at hl 1 rfl) ?_
  refine lv_bipush (v := nI 6) hx hb dX3_isUnder_11 (by decide) ?_
  refine RO.callS S ks_X3_44 (c_X3_isWithin l D cI cJ t f g h τ (-1) (nI 6)) hK hP ⟨Nat.le_of_ble_eq_true rfl, Nat.le_of_ble_eq_true rfl⟩ hl.1 rfl rfl (Nat.le_of_ble_eq_true rfl) (Nat.zero_le _) (Nat.zero_le _) dX3_isUnder_13 ?_
  refine q_if_eqB (tgt := 38) hx hb dX3_isUnder_16 (by decide) (fun _ => ?_) (fun h => absurd h (by decide))
  refine lv_iconst (v := nI 0) hx hb dX3_isUnder_38 (by decide) ?_
  exact RO.zret S hr hlk (bI_f (by decide)) dX3_isUnder_39
set_option maxRecDepth 100000 in
set_option maxHeartbeats 4000000 in
theorem c_X3_isUnder_2_6 (l : Launch) (D : va_G) (cI cJ : ClassId) (t : Nat → Nat) (f g h : Nat → Int32) (τ : Nat → Nat → Int32) (mt ka : Nat) : RZ mt ka l yX3_isUnder cX3_isUnder 4 (some .boolean) 1 D cI cJ (TW cI cJ t f g h τ) [.int (nI 2), .int (nI 6)] (.int (bI (uU 2 6))) := by
  refine RZ.of (by decide) (Nat.le_of_ble_eq_true rfl) (fun p e s m below meth c ls S hr hlk hK hP hZ hl => ?_)
  obtain ⟨hx, hb, hml, hown, hU⟩ := id S
  have hl : lv_has ls 4 [(0, .int (nI 2)), (1, .int (nI 6))] := hl
  refine lv_iload_n hx hb dX3_isUnder_0 rfl (lv_at hl 0 rfl) ?_
  refine lv_istore_n (lv' := [(2, .int (nI 2)), (0, .int (nI 2)), (1, .int (nI 6))]) hx hb dX3_isUnder_1 rfl hl (by decide) rfl (fun ls hl => ?_)
  refine lv_iconst (v := nI 0) hx hb dX3_isUnder_2 (by decide) ?_
  refine lv_istore_n (lv' := [(3, .int (nI 0)), (2, .int (nI 2)), (0, .int (nI 2)), (1, .int (nI 6))]) hx hb dX3_isUnder_3 rfl hl (by decide) rfl (fun ls hl => ?_)
  refine lv_iload_n hx hb dX3_isUnder_4 rfl (lv_at hl 0 rfl) ?_
  refine lv_bipush (v := nI 7) hx hb dX3_isUnder_5 (by decide) ?_
  refine q_icmp_geN (tgt := 38) (a := 0) (b := 7) hx hb dX3_isUnder_7 (by decide) (by omega) (by omega) (fun h => absurd h (by omega)) (fun _ => ?_)
  refine lv_iload_n hx hb dX3_isUnder_10 rfl (lv_at hl 1 rfl) ?_
  refine lv_bipush (v := nI 6) hx hb dX3_isUnder_11 (by decide) ?_
  refine RO.callS S ks_X3_44 (c_X3_isWithin l D cI cJ t f g h τ (nI 2) (nI 6)) hK hP ⟨Nat.le_of_ble_eq_true rfl, Nat.le_of_ble_eq_true rfl⟩ hl.1 rfl rfl (Nat.le_of_ble_eq_true rfl) (Nat.zero_le _) (Nat.zero_le _) dX3_isUnder_13 ?_
  refine q_if_eqB (tgt := 38) hx hb dX3_isUnder_16 (by decide) (fun h => absurd (⟨nI_le (by omega) (by omega), nI_le (by omega) (by omega)⟩) h) (fun _ => ?_)
  refine lv_iload_n hx hb dX3_isUnder_19 rfl (lv_at hl 1 rfl) ?_
  refine lv_iload_n hx hb dX3_isUnder_20 rfl (lv_at hl 3 rfl) ?_
  refine q_icmp_neN (tgt := 26) (a := 2) (b := 6) hx hb dX3_isUnder_21 (by decide) (by omega) (by omega) (fun _ => ?_) (fun h => absurd h (by omega))
  refine va_gets hx hb hZ.2.2.1 va_S.rf hown (hU _ mF_X3_235) (fun _ h => h) dX3_isUnder_26 ?_
  refine lv_iload_n hx hb dX3_isUnder_29 rfl (lv_at hl 1 rfl) ?_
  refine va_ti hx hb hZ.2.2.2 va_S.rf (i := nI 2) (v := .int (kab 2)) (vp_in_nI (by omega) (by decide)) (by rw [nI_clamp (by omega)]) dX3_isUnder_30 ?_
  refine q_eqi (y := nI 0) (rfl) ?_
  refine lv_istore_n (lv' := [(2, .int (nI 0)), (3, .int (nI 0)), (0, .int (nI 2)), (1, .int (nI 6))]) hx hb dX3_isUnder_31 rfl hl (by decide) rfl (fun ls hl => ?_)
  refine lv_iinc (v := nI 1) (lv' := [(3, .int (nI 1)), (2, .int (nI 0)), (0, .int (nI 2)), (1, .int (nI 6))]) hx hb dX3_isUnder_32 hl (k := 1) rfl (by decide) (by decide) rfl (fun ls hl => ?_)
  refine lv_goto (tgt := 4) hx hb dX3_isUnder_35 (by decide) ?_
  refine lv_iload_n hx hb dX3_isUnder_4 rfl (lv_at hl 0 rfl) ?_
  refine lv_bipush (v := nI 7) hx hb dX3_isUnder_5 (by decide) ?_
  refine q_icmp_geN (tgt := 38) (a := 1) (b := 7) hx hb dX3_isUnder_7 (by decide) (by omega) (by omega) (fun h => absurd h (by omega)) (fun _ => ?_)
  refine lv_iload_n hx hb dX3_isUnder_10 rfl (lv_at hl 1 rfl) ?_
  refine lv_bipush (v := nI 6) hx hb dX3_isUnder_11 (by decide) ?_
  refine RO.callS S ks_X3_44 (c_X3_isWithin l D cI cJ t f g h τ (nI 0) (nI 6)) hK hP ⟨Nat.le_of_ble_eq_true rfl, Nat.le_of_ble_eq_true rfl⟩ hl.1 rfl rfl (Nat.le_of_ble_eq_true rfl) (Nat.zero_le _) (Nat.zero_le _) dX3_isUnder_13 ?_
  refine q_if_eqB (tgt := 38) hx hb dX3_isUnder_16 (by decide) (fun h => absurd (⟨nI_le (by omega) (by omega), nI_le (by omega) (by omega)⟩) h) (fun _ => ?_)
  refine lv_iload_n hx hb dX3_isUnder_19 rfl (lv_at hl 1 rfl) ?_
  refine lv_iload_n hx hb dX3_isUnder_20 rfl (lv_at hl 3 rfl) ?_
  refine q_icmp_neN (tgt := 26) (a := 0) (b := 6) hx hb dX3_isUnder_21 (by decide) (by omega) (by omega) (fun _ => ?_) (fun h => absurd h (by omega))
  refine va_gets hx hb hZ.2.2.1 va_S.rf hown (hU _ mF_X3_235) (fun _ h => h) dX3_isUnder_26 ?_
  refine lv_iload_n hx hb dX3_isUnder_29 rfl (lv_at hl 1 rfl) ?_
  refine va_ti hx hb hZ.2.2.2 va_S.rf (i := nI 0) (v := .int (kab 0)) (vp_in_nI (by omega) (by decide)) (by rw [nI_clamp (by omega)]) dX3_isUnder_30 ?_
  refine q_eqi (y := (-1)) (rfl) ?_
  refine lv_istore_n (lv' := [(2, .int (-1)), (3, .int (nI 1)), (0, .int (nI 2)), (1, .int (nI 6))]) hx hb dX3_isUnder_31 rfl hl (by decide) rfl (fun ls hl => ?_)
  refine lv_iinc (v := nI 2) (lv' := [(3, .int (nI 2)), (2, .int (-1)), (0, .int (nI 2)), (1, .int (nI 6))]) hx hb dX3_isUnder_32 hl (k := 1) rfl (by decide) (by decide) rfl (fun ls hl => ?_)
  refine lv_goto (tgt := 4) hx hb dX3_isUnder_35 (by decide) ?_
  refine lv_iload_n hx hb dX3_isUnder_4 rfl (lv_at hl 0 rfl) ?_
  refine lv_bipush (v := nI 7) hx hb dX3_isUnder_5 (by decide) ?_
  refine q_icmp_geN (tgt := 38) (a := 2) (b := 7) hx hb dX3_isUnder_7 (by decide) (by omega) (by omega) (fun h => absurd h (by omega)) (fun _ => ?_)
  refine lv_iload_n hx hb dX3_isUnder_10 rfl (lv_at hl 1 rfl) ?_
  refine lv_bipush (v := nI 6) hx hb dX3_isUnder_11 (by decide) ?_
  refine RO.callS S ks_X3_44 (c_X3_isWithin l D cI cJ t f g h τ (-1) (nI 6)) hK hP ⟨Nat.le_of_ble_eq_true rfl, Nat.le_of_ble_eq_true rfl⟩ hl.1 rfl rfl (Nat.le_of_ble_eq_true rfl) (Nat.zero_le _) (Nat.zero_le _) dX3_isUnder_13 ?_
  refine q_if_eqB (tgt := 38) hx hb dX3_isUnder_16 (by decide) (fun _ => ?_) (fun h => absurd h (by decide))
  refine lv_iconst (v := nI 0) hx hb dX3_isUnder_38 (by decide) ?_
  exact RO.zret S hr hlk (bI_f (by decide)) dX3_isUnder_39
set_option maxRecDepth 100000 in
set_option maxHeartbeats 4000000 in
theorem c_X3_isUnder_3_0 (l : Launch) (D : va_G) (cI cJ : ClassId) (t : Nat → Nat) (f g h : Nat → Int32) (τ : Nat → Nat → Int32) (mt ka : Nat) : RZ mt ka l yX3_isUnder cX3_isUnder 4 (some .boolean) 1 D cI cJ (TW cI cJ t f g h τ) [.int (nI 3), .int (nI 0)] (.int (bI (uU 3 0))) := by
  refine RZ.of (by decide) (Nat.le_of_ble_eq_true rfl) (fun p e s m below meth c ls S hr hlk hK hP hZ hl => ?_)
  obtain ⟨hx, hb, hml, hown, hU⟩ := id S
  have hl : lv_has ls 4 [(0, .int (nI 3)), (1, .int (nI 0))] := hl
  refine lv_iload_n hx hb dX3_isUnder_0 rfl (lv_at hl 0 rfl) ?_
  refine lv_istore_n (lv' := [(2, .int (nI 3)), (0, .int (nI 3)), (1, .int (nI 0))]) hx hb dX3_isUnder_1 rfl hl (by decide) rfl (fun ls hl => ?_)
  refine lv_iconst (v := nI 0) hx hb dX3_isUnder_2 (by decide) ?_
  refine lv_istore_n (lv' := [(3, .int (nI 0)), (2, .int (nI 3)), (0, .int (nI 3)), (1, .int (nI 0))]) hx hb dX3_isUnder_3 rfl hl (by decide) rfl (fun ls hl => ?_)
  refine lv_iload_n hx hb dX3_isUnder_4 rfl (lv_at hl 0 rfl) ?_
  refine lv_bipush (v := nI 7) hx hb dX3_isUnder_5 (by decide) ?_
  refine q_icmp_geN (tgt := 38) (a := 0) (b := 7) hx hb dX3_isUnder_7 (by decide) (by omega) (by omega) (fun h => absurd h (by omega)) (fun _ => ?_)
  refine lv_iload_n hx hb dX3_isUnder_10 rfl (lv_at hl 1 rfl) ?_
  refine lv_bipush (v := nI 6) hx hb dX3_isUnder_11 (by decide) ?_
  refine RO.callS S ks_X3_44 (c_X3_isWithin l D cI cJ t f g h τ (nI 3) (nI 6)) hK hP ⟨Nat.le_of_ble_eq_true rfl, Nat.le_of_ble_eq_true rfl⟩ hl.1 rfl rfl (Nat.le_of_ble_eq_true rfl) (Nat.zero_le _) (Nat.zero_le _) dX3_isUnder_13 ?_
  refine q_if_eqB (tgt := 38) hx hb dX3_isUnder_16 (by decide) (fun h => absurd (⟨nI_le (by omega) (by omega), nI_le (by omega) (by omega)⟩) h) (fun _ => ?_)
  refine lv_iload_n hx hb dX3_isUnder_19 rfl (lv_at hl 1 rfl) ?_
  refine lv_iload_n hx hb dX3_isUnder_20 rfl (lv_at hl 3 rfl) ?_
  refine q_icmp_neN (tgt := 26) (a := 3) (b := 0) hx hb dX3_isUnder_21 (by decide) (by omega) (by omega) (fun _ => ?_) (fun h => absurd h (by omega))
  refine va_gets hx hb hZ.2.2.1 va_S.rf hown (hU _ mF_X3_235) (fun _ h => h) dX3_isUnder_26 ?_
  refine lv_iload_n hx hb dX3_isUnder_29 rfl (lv_at hl 1 rfl) ?_
  refine va_ti hx hb hZ.2.2.2 va_S.rf (i := nI 3) (v := .int (kab 3)) (vp_in_nI (by omega) (by decide)) (by rw [nI_clamp (by omega)]) dX3_isUnder_30 ?_
  refine q_eqi (y := nI 2) (rfl) ?_
  refine lv_istore_n (lv' := [(2, .int (nI 2)), (3, .int (nI 0)), (0, .int (nI 3)), (1, .int (nI 0))]) hx hb dX3_isUnder_31 rfl hl (by decide) rfl (fun ls hl => ?_)
  refine lv_iinc (v := nI 1) (lv' := [(3, .int (nI 1)), (2, .int (nI 2)), (0, .int (nI 3)), (1, .int (nI 0))]) hx hb dX3_isUnder_32 hl (k := 1) rfl (by decide) (by decide) rfl (fun ls hl => ?_)
  refine lv_goto (tgt := 4) hx hb dX3_isUnder_35 (by decide) ?_
  refine lv_iload_n hx hb dX3_isUnder_4 rfl (lv_at hl 0 rfl) ?_
  refine lv_bipush (v := nI 7) hx hb dX3_isUnder_5 (by decide) ?_
  refine q_icmp_geN (tgt := 38) (a := 1) (b := 7) hx hb dX3_isUnder_7 (by decide) (by omega) (by omega) (fun h => absurd h (by omega)) (fun _ => ?_)
  refine lv_iload_n hx hb dX3_isUnder_10 rfl (lv_at hl 1 rfl) ?_
  refine lv_bipush (v := nI 6) hx hb dX3_isUnder_11 (by decide) ?_
  refine RO.callS S ks_X3_44 (c_X3_isWithin l D cI cJ t f g h τ (nI 2) (nI 6)) hK hP ⟨Nat.le_of_ble_eq_true rfl, Nat.le_of_ble_eq_true rfl⟩ hl.1 rfl rfl (Nat.le_of_ble_eq_true rfl) (Nat.zero_le _) (Nat.zero_le _) dX3_isUnder_13 ?_
  refine q_if_eqB (tgt := 38) hx hb dX3_isUnder_16 (by decide) (fun h => absurd (⟨nI_le (by omega) (by omega), nI_le (by omega) (by omega)⟩) h) (fun _ => ?_)
  refine lv_iload_n hx hb dX3_isUnder_19 rfl (lv_at hl 1 rfl) ?_
  refine lv_iload_n hx hb dX3_isUnder_20 rfl (lv_at hl 3 rfl) ?_
  refine q_icmp_neN (tgt := 26) (a := 2) (b := 0) hx hb dX3_isUnder_21 (by decide) (by omega) (by omega) (fun _ => ?_) (fun h => absurd h (by omega))
  refine va_gets hx hb hZ.2.2.1 va_S.rf hown (hU _ mF_X3_235) (fun _ h => h) dX3_isUnder_26 ?_
  refine lv_iload_n hx hb dX3_isUnder_29 rfl (lv_at hl 1 rfl) ?_
  refine va_ti hx hb hZ.2.2.2 va_S.rf (i := nI 2) (v := .int (kab 2)) (vp_in_nI (by omega) (by decide)) (by rw [nI_clamp (by omega)]) dX3_isUnder_30 ?_
  refine q_eqi (y := nI 0) (rfl) ?_
  refine lv_istore_n (lv' := [(2, .int (nI 0)), (3, .int (nI 1)), (0, .int (nI 3)), (1, .int (nI 0))]) hx hb dX3_isUnder_31 rfl hl (by decide) rfl (fun ls hl => ?_)
  refine lv_iinc (v := nI 2) (lv' := [(3, .int (nI 2)), (2, .int (nI 0)), (0, .int (nI 3)), (1, .int (nI 0))]) hx hb dX3_isUnder_32 hl (k := 1) rfl (by decide) (by decide) rfl (fun ls hl => ?_)
  refine lv_goto (tgt := 4) hx hb dX3_isUnder_35 (by decide) ?_
  refine lv_iload_n hx hb dX3_isUnder_4 rfl (lv_at hl 0 rfl) ?_
  refine lv_bipush (v := nI 7) hx hb dX3_isUnder_5 (by decide) ?_
  refine q_icmp_geN (tgt := 38) (a := 2) (b := 7) hx hb dX3_isUnder_7 (by decide) (by omega) (by omega) (fun h => absurd h (by omega)) (fun _ => ?_)
  refine lv_iload_n hx hb dX3_isUnder_10 rfl (lv_at hl 1 rfl) ?_
  refine lv_bipush (v := nI 6) hx hb dX3_isUnder_11 (by decide) ?_
  refine RO.callS S ks_X3_44 (c_X3_isWithin l D cI cJ t f g h τ (nI 0) (nI 6)) hK hP ⟨Nat.le_of_ble_eq_true rfl, Nat.le_of_ble_eq_true rfl⟩ hl.1 rfl rfl (Nat.le_of_ble_eq_true rfl) (Nat.zero_le _) (Nat.zero_le _) dX3_isUnder_13 ?_
  refine q_if_eqB (tgt := 38) hx hb dX3_isUnder_16 (by decide) (fun h => absurd (⟨nI_le (by omega) (by omega), nI_le (by omega) (by omega)⟩) h) (fun _ => ?_)
  refine lv_iload_n hx hb dX3_isUnder_19 rfl (lv_at hl 1 rfl) ?_
  refine lv_iload_n hx hb dX3_isUnder_20 rfl (lv_at hl 3 rfl) ?_
  refine q_icmp_neN (tgt := 26) (a := 0) (b := 0) hx hb dX3_isUnder_21 (by decide) (by omega) (by omega) (fun h => absurd h (by omega)) (fun _ => ?_)
  refine lv_iconst (v := nI 1) hx hb dX3_isUnder_24 (by decide) ?_
  exact RO.zret S hr hlk (bI_t (by decide)) dX3_isUnder_25
set_option maxRecDepth 100000 in
set_option maxHeartbeats 4000000 in
theorem c_X3_isUnder_3_1 (l : Launch) (D : va_G) (cI cJ : ClassId) (t : Nat → Nat) (f g h : Nat → Int32) (τ : Nat → Nat → Int32) (mt ka : Nat) : RZ mt ka l yX3_isUnder cX3_isUnder 4 (some .boolean) 1 D cI cJ (TW cI cJ t f g h τ) [.int (nI 3), .int (nI 1)] (.int (bI (uU 3 1))) := by
  refine RZ.of (by decide) (Nat.le_of_ble_eq_true rfl) (fun p e s m below meth c ls S hr hlk hK hP hZ hl => ?_)
  obtain ⟨hx, hb, hml, hown, hU⟩ := id S
  have hl : lv_has ls 4 [(0, .int (nI 3)), (1, .int (nI 1))] := hl
  refine lv_iload_n hx hb dX3_isUnder_0 rfl (lv_at hl 0 rfl) ?_
  refine lv_istore_n (lv' := [(2, .int (nI 3)), (0, .int (nI 3)), (1, .int (nI 1))]) hx hb dX3_isUnder_1 rfl hl (by decide) rfl (fun ls hl => ?_)
  refine lv_iconst (v := nI 0) hx hb dX3_isUnder_2 (by decide) ?_
  refine lv_istore_n (lv' := [(3, .int (nI 0)), (2, .int (nI 3)), (0, .int (nI 3)), (1, .int (nI 1))]) hx hb dX3_isUnder_3 rfl hl (by decide) rfl (fun ls hl => ?_)
  refine lv_iload_n hx hb dX3_isUnder_4 rfl (lv_at hl 0 rfl) ?_
  refine lv_bipush (v := nI 7) hx hb dX3_isUnder_5 (by decide) ?_
  refine q_icmp_geN (tgt := 38) (a := 0) (b := 7) hx hb dX3_isUnder_7 (by decide) (by omega) (by omega) (fun h => absurd h (by omega)) (fun _ => ?_)
  refine lv_iload_n hx hb dX3_isUnder_10 rfl (lv_at hl 1 rfl) ?_
  refine lv_bipush (v := nI 6) hx hb dX3_isUnder_11 (by decide) ?_
  refine RO.callS S ks_X3_44 (c_X3_isWithin l D cI cJ t f g h τ (nI 3) (nI 6)) hK hP ⟨Nat.le_of_ble_eq_true rfl, Nat.le_of_ble_eq_true rfl⟩ hl.1 rfl rfl (Nat.le_of_ble_eq_true rfl) (Nat.zero_le _) (Nat.zero_le _) dX3_isUnder_13 ?_
  refine q_if_eqB (tgt := 38) hx hb dX3_isUnder_16 (by decide) (fun h => absurd (⟨nI_le (by omega) (by omega), nI_le (by omega) (by omega)⟩) h) (fun _ => ?_)
  refine lv_iload_n hx hb dX3_isUnder_19 rfl (lv_at hl 1 rfl) ?_
  refine lv_iload_n hx hb dX3_isUnder_20 rfl (lv_at hl 3 rfl) ?_
  refine q_icmp_neN (tgt := 26) (a := 3) (b := 1) hx hb dX3_isUnder_21 (by decide) (by omega) (by omega) (fun _ => ?_) (fun h => absurd h (by omega))
  refine va_gets hx hb hZ.2.2.1 va_S.rf hown (hU _ mF_X3_235) (fun _ h => h) dX3_isUnder_26 ?_
  refine lv_iload_n hx hb dX3_isUnder_29 rfl (lv_at hl 1 rfl) ?_
  refine va_ti hx hb hZ.2.2.2 va_S.rf (i := nI 3) (v := .int (kab 3)) (vp_in_nI (by omega) (by decide)) (by rw [nI_clamp (by omega)]) dX3_isUnder_30 ?_
  refine q_eqi (y := nI 2) (rfl) ?_
  refine lv_istore_n (lv' := [(2, .int (nI 2)), (3, .int (nI 0)), (0, .int (nI 3)), (1, .int (nI 1))]) hx hb dX3_isUnder_31 rfl hl (by decide) rfl (fun ls hl => ?_)
  refine lv_iinc (v := nI 1) (lv' := [(3, .int (nI 1)), (2, .int (nI 2)), (0, .int (nI 3)), (1, .int (nI 1))]) hx hb dX3_isUnder_32 hl (k := 1) rfl (by decide) (by decide) rfl (fun ls hl => ?_)
  refine lv_goto (tgt := 4) hx hb dX3_isUnder_35 (by decide) ?_
  refine lv_iload_n hx hb dX3_isUnder_4 rfl (lv_at hl 0 rfl) ?_
  refine lv_bipush (v := nI 7) hx hb dX3_isUnder_5 (by decide) ?_
  refine q_icmp_geN (tgt := 38) (a := 1) (b := 7) hx hb dX3_isUnder_7 (by decide) (by omega) (by omega) (fun h => absurd h (by omega)) (fun _ => ?_)
  refine lv_iload_n hx hb dX3_isUnder_10 rfl (lv_at hl 1 rfl) ?_
  refine lv_bipush (v := nI 6) hx hb dX3_isUnder_11 (by decide) ?_
  refine RO.callS S ks_X3_44 (c_X3_isWithin l D cI cJ t f g h τ (nI 2) (nI 6)) hK hP ⟨Nat.le_of_ble_eq_true rfl, Nat.le_of_ble_eq_true rfl⟩ hl.1 rfl rfl (Nat.le_of_ble_eq_true rfl) (Nat.zero_le _) (Nat.zero_le _) dX3_isUnder_13 ?_
  refine q_if_eqB (tgt := 38) hx hb dX3_isUnder_16 (by decide) (fun h => absurd (⟨nI_le (by omega) (by omega), nI_le (by omega) (by omega)⟩) h) (fun _ => ?_)
  refine lv_iload_n hx hb dX3_isUnder_19 rfl (lv_at hl 1 rfl) ?_
  refine lv_iload_n hx hb dX3_isUnder_20 rfl (lv_at hl 3 rfl) ?_
  refine q_icmp_neN (tgt := 26) (a := 2) (b := 1) hx hb dX3_isUnder_21 (by decide) (by omega) (by omega) (fun _ => ?_) (fun h => absurd h (by omega))
  refine va_gets hx hb hZ.2.2.1 va_S.rf hown (hU _ mF_X3_235) (fun _ h => h) dX3_isUnder_26 ?_
  refine lv_iload_n hx hb dX3_isUnder_29 rfl (lv_at hl 1 rfl) ?_
  refine va_ti hx hb hZ.2.2.2 va_S.rf (i := nI 2) (v := .int (kab 2)) (vp_in_nI (by omega) (by decide)) (by rw [nI_clamp (by omega)]) dX3_isUnder_30 ?_
  refine q_eqi (y := nI 0) (rfl) ?_
  refine lv_istore_n (lv' := [(2, .int (nI 0)), (3, .int (nI 1)), (0, .int (nI 3)), (1, .int (nI 1))]) hx hb dX3_isUnder_31 rfl hl (by decide) rfl (fun ls hl => ?_)
  refine lv_iinc (v := nI 2) (lv' := [(3, .int (nI 2)), (2, .int (nI 0)), (0, .int (nI 3)), (1, .int (nI 1))]) hx hb dX3_isUnder_32 hl (k := 1) rfl (by decide) (by decide) rfl (fun ls hl => ?_)
  refine lv_goto (tgt := 4) hx hb dX3_isUnder_35 (by decide) ?_
  refine lv_iload_n hx hb dX3_isUnder_4 rfl (lv_at hl 0 rfl) ?_
  refine lv_bipush (v := nI 7) hx hb dX3_isUnder_5 (by decide) ?_
  refine q_icmp_geN (tgt := 38) (a := 2) (b := 7) hx hb dX3_isUnder_7 (by decide) (by omega) (by omega) (fun h => absurd h (by omega)) (fun _ => ?_)
  refine lv_iload_n hx hb dX3_isUnder_10 rfl (lv_at hl 1 rfl) ?_
  refine lv_bipush (v := nI 6) hx hb dX3_isUnder_11 (by decide) ?_
  refine RO.callS S ks_X3_44 (c_X3_isWithin l D cI cJ t f g h τ (nI 0) (nI 6)) hK hP ⟨Nat.le_of_ble_eq_true rfl, Nat.le_of_ble_eq_true rfl⟩ hl.1 rfl rfl (Nat.le_of_ble_eq_true rfl) (Nat.zero_le _) (Nat.zero_le _) dX3_isUnder_13 ?_
  refine q_if_eqB (tgt := 38) hx hb dX3_isUnder_16 (by decide) (fun h => absurd (⟨nI_le (by omega) (by omega), nI_le (by omega) (by omega)⟩) h) (fun _ => ?_)
  refine lv_iload_n hx hb dX3_isUnder_19 rfl (lv_at hl 1 rfl) ?_
  refine lv_iload_n hx hb dX3_isUnder_20 rfl (lv_at hl 3 rfl) ?_
  refine q_icmp_neN (tgt := 26) (a := 0) (b := 1) hx hb dX3_isUnder_21 (by decide) (by omega) (by omega) (fun _ => ?_) (fun h => absurd h (by omega))
  refine va_gets hx hb hZ.2.2.1 va_S.rf hown (hU _ mF_X3_235) (fun _ h => h) dX3_isUnder_26 ?_
  refine lv_iload_n hx hb dX3_isUnder_29 rfl (lv_at hl 1 rfl) ?_
  refine va_ti hx hb hZ.2.2.2 va_S.rf (i := nI 0) (v := .int (kab 0)) (vp_in_nI (by omega) (by decide)) (by rw [nI_clamp (by omega)]) dX3_isUnder_30 ?_
  refine q_eqi (y := (-1)) (rfl) ?_
  refine lv_istore_n (lv' := [(2, .int (-1)), (3, .int (nI 2)), (0, .int (nI 3)), (1, .int (nI 1))]) hx hb dX3_isUnder_31 rfl hl (by decide) rfl (fun ls hl => ?_)
  refine lv_iinc (v := nI 3) (lv' := [(3, .int (nI 3)), (2, .int (-1)), (0, .int (nI 3)), (1, .int (nI 1))]) hx hb dX3_isUnder_32 hl (k := 1) rfl (by decide) (by decide) rfl (fun ls hl => ?_)
  refine lv_goto (tgt := 4) hx hb dX3_isUnder_35 (by decide) ?_
  refine lv_iload_n hx hb dX3_isUnder_4 rfl (lv_at hl 0 rfl) ?_
  refine lv_bipush (v := nI 7) hx hb dX3_isUnder_5 (by decide) ?_
  refine q_icmp_geN (tgt := 38) (a := 3) (b := 7) hx hb dX3_isUnder_7 (by decide) (by omega) (by omega) (fun h => absurd h (by omega)) (fun _ => ?_)
  refine lv_iload_n hx hb dX3_isUnder_10 rfl (lv_at hl 1 rfl) ?_
  refine lv_bipush (v := nI 6) hx hb dX3_isUnder_11 (by decide) ?_
  refine RO.callS S ks_X3_44 (c_X3_isWithin l D cI cJ t f g h τ (-1) (nI 6)) hK hP ⟨Nat.le_of_ble_eq_true rfl, Nat.le_of_ble_eq_true rfl⟩ hl.1 rfl rfl (Nat.le_of_ble_eq_true rfl) (Nat.zero_le _) (Nat.zero_le _) dX3_isUnder_13 ?_
  refine q_if_eqB (tgt := 38) hx hb dX3_isUnder_16 (by decide) (fun _ => ?_) (fun h => absurd h (by decide))
  refine lv_iconst (v := nI 0) hx hb dX3_isUnder_38 (by decide) ?_
  exact RO.zret S hr hlk (bI_f (by decide)) dX3_isUnder_39
set_option maxRecDepth 100000 in
set_option maxHeartbeats 4000000 in
theorem c_X3_isUnder_3_2 (l : Launch) (D : va_G) (cI cJ : ClassId) (t : Nat → Nat) (f g h : Nat → Int32) (τ : Nat → Nat → Int32) (mt ka : Nat) : RZ mt ka l yX3_isUnder cX3_isUnder 4 (some .boolean) 1 D cI cJ (TW cI cJ t f g h τ) [.int (nI 3), .int (nI 2)] (.int (bI (uU 3 2))) := by
  refine RZ.of (by decide) (Nat.le_of_ble_eq_true rfl) (fun p e s m below meth c ls S hr hlk hK hP hZ hl => ?_)
  obtain ⟨hx, hb, hml, hown, hU⟩ := id S
  have hl : lv_has ls 4 [(0, .int (nI 3)), (1, .int (nI 2))] := hl
  refine lv_iload_n hx hb dX3_isUnder_0 rfl (lv_at hl 0 rfl) ?_
  refine lv_istore_n (lv' := [(2, .int (nI 3)), (0, .int (nI 3)), (1, .int (nI 2))]) hx hb dX3_isUnder_1 rfl hl (by decide) rfl (fun ls hl => ?_)
  refine lv_iconst (v := nI 0) hx hb dX3_isUnder_2 (by decide) ?_
  refine lv_istore_n (lv' := [(3, .int (nI 0)), (2, .int (nI 3)), (0, .int (nI 3)), (1, .int (nI 2))]) hx hb dX3_isUnder_3 rfl hl (by decide) rfl (fun ls hl => ?_)
  refine lv_iload_n hx hb dX3_isUnder_4 rfl (lv_at hl 0 rfl) ?_
  refine lv_bipush (v := nI 7) hx hb dX3_isUnder_5 (by decide) ?_
  refine q_icmp_geN (tgt := 38) (a := 0) (b := 7) hx hb dX3_isUnder_7 (by decide) (by omega) (by omega) (fun h => absurd h (by omega)) (fun _ => ?_)
  refine lv_iload_n hx hb dX3_isUnder_10 rfl (lv_at hl 1 rfl) ?_
  refine lv_bipush (v := nI 6) hx hb dX3_isUnder_11 (by decide) ?_
  refine RO.callS S ks_X3_44 (c_X3_isWithin l D cI cJ t f g h τ (nI 3) (nI 6)) hK hP ⟨Nat.le_of_ble_eq_true rfl, Nat.le_of_ble_eq_true rfl⟩ hl.1 rfl rfl (Nat.le_of_ble_eq_true rfl) (Nat.zero_le _) (Nat.zero_le _) dX3_isUnder_13 ?_
  refine q_if_eqB (tgt := 38) hx hb dX3_isUnder_16 (by decide) (fun h => absurd (⟨nI_le (by omega) (by omega), nI_le (by omega) (by omega)⟩) h) (fun _ => ?_)
  refine lv_iload_n hx hb dX3_isUnder_19 rfl (lv_at hl 1 rfl) ?_
  refine lv_iload_n hx hb dX3_isUnder_20 rfl (lv_at hl 3 rfl) ?_
  refine q_icmp_neN (tgt := 26) (a := 3) (b := 2) hx hb dX3_isUnder_21 (by decide) (by omega) (by omega) (fun _ => ?_) (fun h => absurd h (by omega))
  refine va_gets hx hb hZ.2.2.1 va_S.rf hown (hU _ mF_X3_235) (fun _ h => h) dX3_isUnder_26 ?_
  refine lv_iload_n hx hb dX3_isUnder_29 rfl (lv_at hl 1 rfl) ?_
  refine va_ti hx hb hZ.2.2.2 va_S.rf (i := nI 3) (v := .int (kab 3)) (vp_in_nI (by omega) (by decide)) (by rw [nI_clamp (by omega)]) dX3_isUnder_30 ?_
  refine q_eqi (y := nI 2) (rfl) ?_
  refine lv_istore_n (lv' := [(2, .int (nI 2)), (3, .int (nI 0)), (0, .int (nI 3)), (1, .int (nI 2))]) hx hb dX3_isUnder_31 rfl hl (by decide) rfl (fun ls hl => ?_)
  refine lv_iinc (v := nI 1) (lv' := [(3, .int (nI 1)), (2, .int (nI 2)), (0, .int (nI 3)), (1, .int (nI 2))]) hx hb dX3_isUnder_32 hl (k := 1) rfl (by decide) (by decide) rfl (fun ls hl => ?_)
  refine lv_goto (tgt := 4) hx hb dX3_isUnder_35 (by decide) ?_
  refine lv_iload_n hx hb dX3_isUnder_4 rfl (lv_at hl 0 rfl) ?_
  refine lv_bipush (v := nI 7) hx hb dX3_isUnder_5 (by decide) ?_
  refine q_icmp_geN (tgt := 38) (a := 1) (b := 7) hx hb dX3_isUnder_7 (by decide) (by omega) (by omega) (fun h => absurd h (by omega)) (fun _ => ?_)
  refine lv_iload_n hx hb dX3_isUnder_10 rfl (lv_at hl 1 rfl) ?_
  refine lv_bipush (v := nI 6) hx hb dX3_isUnder_11 (by decide) ?_
  refine RO.callS S ks_X3_44 (c_X3_isWithin l D cI cJ t f g h τ (nI 2) (nI 6)) hK hP ⟨Nat.le_of_ble_eq_true rfl, Nat.le_of_ble_eq_true rfl⟩ hl.1 rfl rfl (Nat.le_of_ble_eq_true rfl) (Nat.zero_le _) (Nat.zero_le _) dX3_isUnder_13 ?_
  refine q_if_eqB (tgt := 38) hx hb dX3_isUnder_16 (by decide) (fun h => absurd (⟨nI_le (by omega) (by omega), nI_le (by omega) (by omega)⟩) h) (fun _ => ?_)
  refine lv_iload_n hx hb dX3_isUnder_19 rfl (lv_at hl 1 rfl) ?_
  refine lv_iload_n hx hb dX3_isUnder_20 rfl (lv_at hl 3 rfl) ?_
  refine q_icmp_neN (tgt := 26) (a := 2) (b := 2) hx hb dX3_isUnder_21 (by decide) (by omega) (by omega) (fun h => absurd h (by omega)) (fun _ => ?_)
  refine lv_iconst (v := nI 1) hx hb dX3_isUnder_24 (by decide) ?_
  exact RO.zret S hr hlk (bI_t (by decide)) dX3_isUnder_25
set_option maxRecDepth 100000 in
set_option maxHeartbeats 4000000 in
theorem c_X3_isUnder_3_3 (l : Launch) (D : va_G) (cI cJ : ClassId) (t : Nat → Nat) (f g h : Nat → Int32) (τ : Nat → Nat → Int32) (mt ka : Nat) : RZ mt ka l yX3_isUnder cX3_isUnder 4 (some .boolean) 1 D cI cJ (TW cI cJ t f g h τ) [.int (nI 3), .int (nI 3)] (.int (bI (uU 3 3))) := by
  refine RZ.of (by decide) (Nat.le_of_ble_eq_true rfl) (fun p e s m below meth c ls S hr hlk hK hP hZ hl => ?_)
  obtain ⟨hx, hb, hml, hown, hU⟩ := id S
  have hl : lv_has ls 4 [(0, .int (nI 3)), (1, .int (nI 3))] := hl
  refine lv_iload_n hx hb dX3_isUnder_0 rfl (lv_at hl 0 rfl) ?_
  refine lv_istore_n (lv' := [(2, .int (nI 3)), (0, .int (nI 3)), (1, .int (nI 3))]) hx hb dX3_isUnder_1 rfl hl (by decide) rfl (fun ls hl => ?_)
  refine lv_iconst (v := nI 0) hx hb dX3_isUnder_2 (by decide) ?_
  refine lv_istore_n (lv' := [(3, .int (nI 0)), (2, .int (nI 3)), (0, .int (nI 3)), (1, .int (nI 3))]) hx hb dX3_isUnder_3 rfl hl (by decide) rfl (fun ls hl => ?_)
  refine lv_iload_n hx hb dX3_isUnder_4 rfl (lv_at hl 0 rfl) ?_
  refine lv_bipush (v := nI 7) hx hb dX3_isUnder_5 (by decide) ?_
  refine q_icmp_geN (tgt := 38) (a := 0) (b := 7) hx hb dX3_isUnder_7 (by decide) (by omega) (by omega) (fun h => absurd h (by omega)) (fun _ => ?_)
  refine lv_iload_n hx hb dX3_isUnder_10 rfl (lv_at hl 1 rfl) ?_
  refine lv_bipush (v := nI 6) hx hb dX3_isUnder_11 (by decide) ?_
  refine RO.callS S ks_X3_44 (c_X3_isWithin l D cI cJ t f g h τ (nI 3) (nI 6)) hK hP ⟨Nat.le_of_ble_eq_true rfl, Nat.le_of_ble_eq_true rfl⟩ hl.1 rfl rfl (Nat.le_of_ble_eq_true rfl) (Nat.zero_le _) (Nat.zero_le _) dX3_isUnder_13 ?_
  refine q_if_eqB (tgt := 38) hx hb dX3_isUnder_16 (by decide) (fun h => absurd (⟨nI_le (by omega) (by omega), nI_le (by omega) (by omega)⟩) h) (fun _ => ?_)
  refine lv_iload_n hx hb dX3_isUnder_19 rfl (lv_at hl 1 rfl) ?_
  refine lv_iload_n hx hb dX3_isUnder_20 rfl (lv_at hl 3 rfl) ?_
  refine q_icmp_neN (tgt := 26) (a := 3) (b := 3) hx hb dX3_isUnder_21 (by decide) (by omega) (by omega) (fun h => absurd h (by omega)) (fun _ => ?_)
  refine lv_iconst (v := nI 1) hx hb dX3_isUnder_24 (by decide) ?_
  exact RO.zret S hr hlk (bI_t (by decide)) dX3_isUnder_25
set_option maxRecDepth 100000 in
set_option maxHeartbeats 4000000 in
theorem c_X3_isUnder_3_4 (l : Launch) (D : va_G) (cI cJ : ClassId) (t : Nat → Nat) (f g h : Nat → Int32) (τ : Nat → Nat → Int32) (mt ka : Nat) : RZ mt ka l yX3_isUnder cX3_isUnder 4 (some .boolean) 1 D cI cJ (TW cI cJ t f g h τ) [.int (nI 3), .int (nI 4)] (.int (bI (uU 3 4))) := by
  refine RZ.of (by decide) (Nat.le_of_ble_eq_true rfl) (fun p e s m below meth c ls S hr hlk hK hP hZ hl => ?_)
  obtain ⟨hx, hb, hml, hown, hU⟩ := id S
  have hl : lv_has ls 4 [(0, .int (nI 3)), (1, .int (nI 4))] := hl
  refine lv_iload_n hx hb dX3_isUnder_0 rfl (lv_at hl 0 rfl) ?_
  refine lv_istore_n (lv' := [(2, .int (nI 3)), (0, .int (nI 3)), (1, .int (nI 4))]) hx hb dX3_isUnder_1 rfl hl (by decide) rfl (fun ls hl => ?_)
  refine lv_iconst (v := nI 0) hx hb dX3_isUnder_2 (by decide) ?_
  refine lv_istore_n (lv' := [(3, .int (nI 0)), (2, .int (nI 3)), (0, .int (nI 3)), (1, .int (nI 4))]) hx hb dX3_isUnder_3 rfl hl (by decide) rfl (fun ls hl => ?_)
  refine lv_iload_n hx hb dX3_isUnder_4 rfl (lv_at hl 0 rfl) ?_
  refine lv_bipush (v := nI 7) hx hb dX3_isUnder_5 (by decide) ?_
  refine q_icmp_geN (tgt := 38) (a := 0) (b := 7) hx hb dX3_isUnder_7 (by decide) (by omega) (by omega) (fun h => absurd h (by omega)) (fun _ => ?_)
  refine lv_iload_n hx hb dX3_isUnder_10 rfl (lv_at hl 1 rfl) ?_
  refine lv_bipush (v := nI 6) hx hb dX3_isUnder_11 (by decide) ?_
  refine RO.callS S ks_X3_44 (c_X3_isWithin l D cI cJ t f g h τ (nI 3) (nI 6)) hK hP ⟨Nat.le_of_ble_eq_true rfl, Nat.le_of_ble_eq_true rfl⟩ hl.1 rfl rfl (Nat.le_of_ble_eq_true rfl) (Nat.zero_le _) (Nat.zero_le _) dX3_isUnder_13 ?_
  refine q_if_eqB (tgt := 38) hx hb dX3_isUnder_16 (by decide) (fun h => absurd (⟨nI_le (by omega) (by omega), nI_le (by omega) (by omega)⟩) h) (fun _ => ?_)
  refine lv_iload_n hx hb dX3_isUnder_19 rfl (lv_at hl 1 rfl) ?_
  refine lv_iload_n hx hb dX3_isUnder_20 rfl (lv_at hl 3 rfl) ?_
  refine q_icmp_neN (tgt := 26) (a := 3) (b := 4) hx hb dX3_isUnder_21 (by decide) (by omega) (by omega) (fun _ => ?_) (fun h => absurd h (by omega))
  refine va_gets hx hb hZ.2.2.1 va_S.rf hown (hU _ mF_X3_235) (fun _ h => h) dX3_isUnder_26 ?_
  refine lv_iload_n hx hb dX3_isUnder_29 rfl (lv_at hl 1 rfl) ?_
  refine va_ti hx hb hZ.2.2.2 va_S.rf (i := nI 3) (v := .int (kab 3)) (vp_in_nI (by omega) (by decide)) (by rw [nI_clamp (by omega)]) dX3_isUnder_30 ?_
  refine q_eqi (y := nI 2) (rfl) ?_
  refine lv_istore_n (lv' := [(2, .int (nI 2)), (3, .int (nI 0)), (0, .int (nI 3)), (1, .int (nI 4))]) hx hb dX3_isUnder_31 rfl hl (by decide) rfl (fun ls hl => ?_)
  refine lv_iinc (v := nI 1) (lv' := [(3, .int (nI 1)), (2, .int (nI 2)), (0, .int (nI 3)), (1, .int (nI 4))]) hx hb dX3_isUnder_32 hl (k := 1) rfl (by decide) (by decide) rfl (fun ls hl => ?_)
  refine lv_goto (tgt := 4) hx hb dX3_isUnder_35 (by decide) ?_
  refine lv_iload_n hx hb dX3_isUnder_4 rfl (lv_at hl 0 rfl) ?_
  refine lv_bipush (v := nI 7) hx hb dX3_isUnder_5 (by decide) ?_
  refine q_icmp_geN (tgt := 38) (a := 1) (b := 7) hx hb dX3_isUnder_7 (by decide) (by omega) (by omega) (fun h => absurd h (by omega)) (fun _ => ?_)
  refine lv_iload_n hx hb dX3_isUnder_10 rfl (lv_at hl 1 rfl) ?_
  refine lv_bipush (v := nI 6) hx hb dX3_isUnder_11 (by decide) ?_
  refine RO.callS S ks_X3_44 (c_X3_isWithin l D cI cJ t f g h τ (nI 2) (nI 6)) hK hP ⟨Nat.le_of_ble_eq_true rfl, Nat.le_of_ble_eq_true rfl⟩ hl.1 rfl rfl (Nat.le_of_ble_eq_true rfl) (Nat.zero_le _) (Nat.zero_le _) dX3_isUnder_13 ?_
  refine q_if_eqB (tgt := 38) hx hb dX3_isUnder_16 (by decide) (fun h => absurd (⟨nI_le (by omega) (by omega), nI_le (by omega) (by omega)⟩) h) (fun _ => ?_)
  refine lv_iload_n hx hb dX3_isUnder_19 rfl (lv_at hl 1 rfl) ?_
  refine lv_iload_n hx hb dX3_isUnder_20 rfl (lv_at hl 3 rfl) ?_
  refine q_icmp_neN (tgt := 26) (a := 2) (b := 4) hx hb dX3_isUnder_21 (by decide) (by omega) (by omega) (fun _ => ?_) (fun h => absurd h (by omega))
  refine va_gets hx hb hZ.2.2.1 va_S.rf hown (hU _ mF_X3_235) (fun _ h => h) dX3_isUnder_26 ?_
  refine lv_iload_n hx hb dX3_isUnder_29 rfl (lv_at hl 1 rfl) ?_
  refine va_ti hx hb hZ.2.2.2 va_S.rf (i := nI 2) (v := .int (kab 2)) (vp_in_nI (by omega) (by decide)) (by rw [nI_clamp (by omega)]) dX3_isUnder_30 ?_
  refine q_eqi (y := nI 0) (rfl) ?_
  refine lv_istore_n (lv' := [(2, .int (nI 0)), (3, .int (nI 1)), (0, .int (nI 3)), (1, .int (nI 4))]) hx hb dX3_isUnder_31 rfl hl (by decide) rfl (fun ls hl => ?_)
  refine lv_iinc (v := nI 2) (lv' := [(3, .int (nI 2)), (2, .int (nI 0)), (0, .int (nI 3)), (1, .int (nI 4))]) hx hb dX3_isUnder_32 hl (k := 1) rfl (by decide) (by decide) rfl (fun ls hl => ?_)
  refine lv_goto (tgt := 4) hx hb dX3_isUnder_35 (by decide) ?_
  refine lv_iload_n hx hb dX3_isUnder_4 rfl (lv_at hl 0 rfl) ?_
  refine lv_bipush (v := nI 7) hx hb dX3_isUnder_5 (by decide) ?_
  refine q_icmp_geN (tgt := 38) (a := 2) (b := 7) hx hb dX3_isUnder_7 (by decide) (by omega) (by omega) (fun h => absurd h (by omega)) (fun _ => ?_)
  refine lv_iload_n hx hb dX3_isUnder_10 rfl (lv_at hl 1 rfl) ?_
  refine lv_bipush (v := nI 6) hx hb dX3_isUnder_11 (by decide) ?_
  refine RO.callS S ks_X3_44 (c_X3_isWithin l D cI cJ t f g h τ (nI 0) (nI 6)) hK hP ⟨Nat.le_of_ble_eq_true rfl, Nat.le_of_ble_eq_true rfl⟩ hl.1 rfl rfl (Nat.le_of_ble_eq_true rfl) (Nat.zero_le _) (Nat.zero_le _) dX3_isUnder_13 ?_
  refine q_if_eqB (tgt := 38) hx hb dX3_isUnder_16 (by decide) (fun h => absurd (⟨nI_le (by omega) (by omega), nI_le (by omega) (by omega)⟩) h) (fun _ => ?_)
  refine lv_iload_n hx hb dX3_isUnder_19 rfl (lv_at hl 1 rfl) ?_
  refine lv_iload_n hx hb dX3_isUnder_20 rfl (lv_at hl 3 rfl) ?_
  refine q_icmp_neN (tgt := 26) (a := 0) (b := 4) hx hb dX3_isUnder_21 (by decide) (by omega) (by omega) (fun _ => ?_) (fun h => absurd h (by omega))
  refine va_gets hx hb hZ.2.2.1 va_S.rf hown (hU _ mF_X3_235) (fun _ h => h) dX3_isUnder_26 ?_
  refine lv_iload_n hx hb dX3_isUnder_29 rfl (lv_at hl 1 rfl) ?_
  refine va_ti hx hb hZ.2.2.2 va_S.rf (i := nI 0) (v := .int (kab 0)) (vp_in_nI (by omega) (by decide)) (by rw [nI_clamp (by omega)]) dX3_isUnder_30 ?_
  refine q_eqi (y := (-1)) (rfl) ?_
  refine lv_istore_n (lv' := [(2, .int (-1)), (3, .int (nI 2)), (0, .int (nI 3)), (1, .int (nI 4))]) hx hb dX3_isUnder_31 rfl hl (by decide) rfl (fun ls hl => ?_)
  refine lv_iinc (v := nI 3) (lv' := [(3, .int (nI 3)), (2, .int (-1)), (0, .int (nI 3)), (1, .int (nI 4))]) hx hb dX3_isUnder_32 hl (k := 1) rfl (by decide) (by decide) rfl (fun ls hl => ?_)
  refine lv_goto (tgt := 4) hx hb dX3_isUnder_35 (by decide) ?_
  refine lv_iload_n hx hb dX3_isUnder_4 rfl (lv_at hl 0 rfl) ?_
  refine lv_bipush (v := nI 7) hx hb dX3_isUnder_5 (by decide) ?_
  refine q_icmp_geN (tgt := 38) (a := 3) (b := 7) hx hb dX3_isUnder_7 (by decide) (by omega) (by omega) (fun h => absurd h (by omega)) (fun _ => ?_)
  refine lv_iload_n hx hb dX3_isUnder_10 rfl (lv_at hl 1 rfl) ?_
  refine lv_bipush (v := nI 6) hx hb dX3_isUnder_11 (by decide) ?_
  refine RO.callS S ks_X3_44 (c_X3_isWithin l D cI cJ t f g h τ (-1) (nI 6)) hK hP ⟨Nat.le_of_ble_eq_true rfl, Nat.le_of_ble_eq_true rfl⟩ hl.1 rfl rfl (Nat.le_of_ble_eq_true rfl) (Nat.zero_le _) (Nat.zero_le _) dX3_isUnder_13 ?_
  refine q_if_eqB (tgt := 38) hx hb dX3_isUnder_16 (by decide) (fun _ => ?_) (fun h => absurd h (by decide))
  refine lv_iconst (v := nI 0) hx hb dX3_isUnder_38 (by decide) ?_
  exact RO.zret S hr hlk (bI_f (by decide)) dX3_isUnder_39
set_option maxRecDepth 100000 in
set_option maxHeartbeats 4000000 in
theorem c_X3_isUnder_3_5 (l : Launch) (D : va_G) (cI cJ : ClassId) (t : Nat → Nat) (f g h : Nat → Int32) (τ : Nat → Nat → Int32) (mt ka : Nat) : RZ mt ka l yX3_isUnder cX3_isUnder 4 (some .boolean) 1 D cI cJ (TW cI cJ t f g h τ) [.int (nI 3), .int (nI 5)] (.int (bI (uU 3 5))) := by
  refine RZ.of (by decide) (Nat.le_of_ble_eq_true rfl) (fun p e s m below meth c ls S hr hlk hK hP hZ hl => ?_)
  obtain ⟨hx, hb, hml, hown, hU⟩ := id S
  have hl : lv_has ls 4 [(0, .int (nI 3)), (1, .int (nI 5))] := hl
  refine lv_iload_n hx hb dX3_isUnder_0 rfl (lv_at hl 0 rfl) ?_
  refine lv_istore_n (lv' := [(2, .int (nI 3)), (0, .int (nI 3)), (1, .int (nI 5))]) hx hb dX3_isUnder_1 rfl hl (by decide) rfl (fun ls hl => ?_)
  refine lv_iconst (v := nI 0) hx hb dX3_isUnder_2 (by decide) ?_
  refine lv_istore_n (lv' := [(3, .int (nI 0)), (2, .int (nI 3)), (0, .int (nI 3)), (1, .int (nI 5))]) hx hb dX3_isUnder_3 rfl hl (by decide) rfl (fun ls hl => ?_)
  refine lv_iload_n hx hb dX3_isUnder_4 rfl (lv_at hl 0 rfl) ?_
  refine lv_bipush (v := nI 7) hx hb dX3_isUnder_5 (by decide) ?_
  refine q_icmp_geN (tgt := 38) (a := 0) (b := 7) hx hb dX3_isUnder_7 (by decide) (by omega) (by omega) (fun h => absurd h (by omega)) (fun _ => ?_)
  refine lv_iload_n hx hb dX3_isUnder_10 rfl (lv_at hl 1 rfl) ?_
  refine lv_bipush (v := nI 6) hx hb dX3_isUnder_11 (by decide) ?_
  refine RO.callS S ks_X3_44 (c_X3_isWithin l D cI cJ t f g h τ (nI 3) (nI 6)) hK hP ⟨Nat.le_of_ble_eq_true rfl, Nat.le_of_ble_eq_true rfl⟩ hl.1 rfl rfl (Nat.le_of_ble_eq_true rfl) (Nat.zero_le _) (Nat.zero_le _) dX3_isUnder_13 ?_
  refine q_if_eqB (tgt := 38) hx hb dX3_isUnder_16 (by decide) (fun h => absurd (⟨nI_le (by omega) (by omega), nI_le (by omega) (by omega)⟩) h) (fun _ => ?_)
  refine lv_iload_n hx hb dX3_isUnder_19 rfl (lv_at hl 1 rfl) ?_
  refine lv_iload_n hx hb dX3_isUnder_20 rfl (lv_at hl 3 rfl) ?_
  refine q_icmp_neN (tgt := 26) (a := 3) (b := 5) hx hb dX3_isUnder_21 (by decide) (by omega) (by omega) (fun _ => ?_) (fun h => absurd h (by omega))
  refine va_gets hx hb hZ.2.2.1 va_S.rf hown (hU _ mF_X3_235) (fun _ h => h) dX3_isUnder_26 ?_
  refine lv_iload_n hx hb dX3_isUnder_29 rfl (lv_at hl 1 rfl) ?_
  refine va_ti hx hb hZ.2.2.2 va_S.rf (i := nI 3) (v := .int (kab 3)) (vp_in_nI (by omega) (by decide)) (by rw [nI_clamp (by omega)]) dX3_isUnder_30 ?_
  refine q_eqi (y := nI 2) (rfl) ?_
  refine lv_istore_n (lv' := [(2, .int (nI 2)), (3, .int (nI 0)), (0, .int (nI 3)), (1, .int (nI 5))]) hx hb dX3_isUnder_31 rfl hl (by decide) rfl (fun ls hl => ?_)
  refine lv_iinc (v := nI 1) (lv' := [(3, .int (nI 1)), (2, .int (nI 2)), (0, .int (nI 3)), (1, .int (nI 5))]) hx hb dX3_isUnder_32 hl (k := 1) rfl (by decide) (by decide) rfl (fun ls hl => ?_)
  refine lv_goto (tgt := 4) hx hb dX3_isUnder_35 (by decide) ?_
  refine lv_iload_n hx hb dX3_isUnder_4 rfl (lv_at hl 0 rfl) ?_
  refine lv_bipush (v := nI 7) hx hb dX3_isUnder_5 (by decide) ?_
  refine q_icmp_geN (tgt := 38) (a := 1) (b := 7) hx hb dX3_isUnder_7 (by decide) (by omega) (by omega) (fun h => absurd h (by omega)) (fun _ => ?_)
  refine lv_iload_n hx hb dX3_isUnder_10 rfl (lv_at hl 1 rfl) ?_
  refine lv_bipush (v := nI 6) hx hb dX3_isUnder_11 (by decide) ?_
  refine RO.callS S ks_X3_44 (c_X3_isWithin l D cI cJ t f g h τ (nI 2) (nI 6)) hK hP ⟨Nat.le_of_ble_eq_true rfl, Nat.le_of_ble_eq_true rfl⟩ hl.1 rfl rfl (Nat.le_of_ble_eq_true rfl) (Nat.zero_le _) (Nat.zero_le _) dX3_isUnder_13 ?_
  refine q_if_eqB (tgt := 38) hx hb dX3_isUnder_16 (by decide) (fun h => absurd (⟨nI_le (by omega) (by omega), nI_le (by omega) (by omega)⟩) h) (fun _ => ?_)
  refine lv_iload_n hx hb dX3_isUnder_19 rfl (lv_at hl 1 rfl) ?_
  refine lv_iload_n hx hb dX3_isUnder_20 rfl (lv_at hl 3 rfl) ?_
  refine q_icmp_neN (tgt := 26) (a := 2) (b := 5) hx hb dX3_isUnder_21 (by decide) (by omega) (by omega) (fun _ => ?_) (fun h => absurd h (by omega))
  refine va_gets hx hb hZ.2.2.1 va_S.rf hown (hU _ mF_X3_235) (fun _ h => h) dX3_isUnder_26 ?_
  refine lv_iload_n hx hb dX3_isUnder_29 rfl (lv_at hl 1 rfl) ?_
  refine va_ti hx hb hZ.2.2.2 va_S.rf (i := nI 2) (v := .int (kab 2)) (vp_in_nI (by omega) (by decide)) (by rw [nI_clamp (by omega)]) dX3_isUnder_30 ?_
  refine q_eqi (y := nI 0) (rfl) ?_
  refine lv_istore_n (lv' := [(2, .int (nI 0)), (3, .int (nI 1)), (0, .int (nI 3)), (1, .int (nI 5))]) hx hb dX3_isUnder_31 rfl hl (by decide) rfl (fun ls hl => ?_)
  refine lv_iinc (v := nI 2) (lv' := [(3, .int (nI 2)), (2, .int (nI 0)), (0, .int (nI 3)), (1, .int (nI 5))]) hx hb dX3_isUnder_32 hl (k := 1) rfl (by decide) (by decide) rfl (fun ls hl => ?_)
  refine lv_goto (tgt := 4) hx hb dX3_isUnder_35 (by decide) ?_
  refine lv_iload_n hx hb dX3_isUnder_4 rfl (lv_at hl 0 rfl) ?_
  refine lv_bipush (v := nI 7) hx hb dX3_isUnder_5 (by decide) ?_
  refine q_icmp_geN (tgt := 38) (a := 2) (b := 7) hx hb dX3_isUnder_7 (by decide) (by omega) (by omega) (fun h => absurd h (by omega)) (fun _ => ?_)
  refine lv_iload_n hx hb dX3_isUnder_10 rfl (lv_at hl 1 rfl) ?_
  refine lv_bipush (v := nI 6) hx hb dX3_isUnder_11 (by decide) ?_
  refine RO.callS S ks_X3_44 (c_X3_isWithin l D cI cJ t f g h τ (nI 0) (nI 6)) hK hP ⟨Nat.le_of_ble_eq_true rfl, Nat.le_of_ble_eq_true rfl⟩ hl.1 rfl rfl (Nat.le_of_ble_eq_true rfl) (Nat.zero_le _) (Nat.zero_le _) dX3_isUnder_13 ?_
  refine q_if_eqB (tgt := 38) hx hb dX3_isUnder_16 (by decide) (fun h => absurd (⟨nI_le (by omega) (by omega), nI_le (by omega) (by omega)⟩) h) (fun _ => ?_)
  refine lv_iload_n hx hb dX3_isUnder_19 rfl (lv_at hl 1 rfl) ?_
  refine lv_iload_n hx hb dX3_isUnder_20 rfl (lv_at hl 3 rfl) ?_
  refine q_icmp_neN (tgt := 26) (a := 0) (b := 5) hx hb dX3_isUnder_21 (by decide) (by omega) (by omega) (fun _ => ?_) (fun h => absurd h (by omega))
  refine va_gets hx hb hZ.2.2.1 va_S.rf hown (hU _ mF_X3_235) (fun _ h => h) dX3_isUnder_26 ?_
  refine lv_iload_n hx hb dX3_isUnder_29 rfl (lv_at hl 1 rfl) ?_
  refine va_ti hx hb hZ.2.2.2 va_S.rf (i := nI 0) (v := .int (kab 0)) (vp_in_nI (by omega) (by decide)) (by rw [nI_clamp (by omega)]) dX3_isUnder_30 ?_
  refine q_eqi (y := (-1)) (rfl) ?_
  refine lv_istore_n (lv' := [(2, .int (-1)), (3, .int (nI 2)), (0, .int (nI 3)), (1, .int (nI 5))]) hx hb dX3_isUnder_31 rfl hl (by decide) rfl (fun ls hl => ?_)
  refine lv_iinc (v := nI 3) (lv' := [(3, .int (nI 3)), (2, .int (-1)), (0, .int (nI 3)), (1, .int (nI 5))]) hx hb dX3_isUnder_32 hl (k := 1) rfl (by decide) (by decide) rfl (fun ls hl => ?_)
  refine lv_goto (tgt := 4) hx hb dX3_isUnder_35 (by decide) ?_
  refine lv_iload_n hx hb dX3_isUnder_4 rfl (lv_at hl 0 rfl) ?_
  refine lv_bipush (v := nI 7) hx hb dX3_isUnder_5 (by decide) ?_
  refine q_icmp_geN (tgt := 38) (a := 3) (b := 7) hx hb dX3_isUnder_7 (by decide) (by omega) (by omega) (fun h => absurd h (by omega)) (fun _ => ?_)
  refine lv_iload_n hx hb dX3_isUnder_10 rfl (lv_at hl 1 rfl) ?_
  refine lv_bipush (v := nI 6) hx hb dX3_isUnder_11 (by decide) ?_
  refine RO.callS S ks_X3_44 (c_X3_isWithin l D cI cJ t f g h τ (-1) (nI 6)) hK hP ⟨Nat.le_of_ble_eq_true rfl, Nat.le_of_ble_eq_true rfl⟩ hl.1 rfl rfl (Nat.le_of_ble_eq_true rfl) (Nat.zero_le _) (Nat.zero_le _) dX3_isUnder_13 ?_
  refine q_if_eqB (tgt := 38) hx hb dX3_isUnder_16 (by decide) (fun _ => ?_) (fun h => absurd h (by decide))
  refine lv_iconst (v := nI 0) hx hb dX3_isUnder_38 (by decide) ?_
  exact RO.zret S hr hlk (bI_f (by decide)) dX3_isUnder_39
set_option maxRecDepth 100000 in
set_option maxHeartbeats 4000000 in
theorem c_X3_isUnder_3_6 (l : Launch) (D : va_G) (cI cJ : ClassId) (t : Nat → Nat) (f g h : Nat → Int32) (τ : Nat → Nat → Int32) (mt ka : Nat) : RZ mt ka l yX3_isUnder cX3_isUnder 4 (some .boolean) 1 D cI cJ (TW cI cJ t f g h τ) [.int (nI 3), .int (nI 6)] (.int (bI (uU 3 6))) := by
  refine RZ.of (by decide) (Nat.le_of_ble_eq_true rfl) (fun p e s m below meth c ls S hr hlk hK hP hZ hl => ?_)
  obtain ⟨hx, hb, hml, hown, hU⟩ := id S
  have hl : lv_has ls 4 [(0, .int (nI 3)), (1, .int (nI 6))] := hl
  refine lv_iload_n hx hb dX3_isUnder_0 rfl (lv_at hl 0 rfl) ?_
  refine lv_istore_n (lv' := [(2, .int (nI 3)), (0, .int (nI 3)), (1, .int (nI 6))]) hx hb dX3_isUnder_1 rfl hl (by decide) rfl (fun ls hl => ?_)
  refine lv_iconst (v := nI 0) hx hb dX3_isUnder_2 (by decide) ?_
  refine lv_istore_n (lv' := [(3, .int (nI 0)), (2, .int (nI 3)), (0, .int (nI 3)), (1, .int (nI 6))]) hx hb dX3_isUnder_3 rfl hl (by decide) rfl (fun ls hl => ?_)
  refine lv_iload_n hx hb dX3_isUnder_4 rfl (lv_at hl 0 rfl) ?_
  refine lv_bipush (v := nI 7) hx hb dX3_isUnder_5 (by decide) ?_
  refine q_icmp_geN (tgt := 38) (a := 0) (b := 7) hx hb dX3_isUnder_7 (by decide) (by omega) (by omega) (fun h => absurd h (by omega)) (fun _ => ?_)
  refine lv_iload_n hx hb dX3_isUnder_10 rfl (lv_at hl 1 rfl) ?_
  refine lv_bipush (v := nI 6) hx hb dX3_isUnder_11 (by decide) ?_
  refine RO.callS S ks_X3_44 (c_X3_isWithin l D cI cJ t f g h τ (nI 3) (nI 6)) hK hP ⟨Nat.le_of_ble_eq_true rfl, Nat.le_of_ble_eq_true rfl⟩ hl.1 rfl rfl (Nat.le_of_ble_eq_true rfl) (Nat.zero_le _) (Nat.zero_le _) dX3_isUnder_13 ?_
  refine q_if_eqB (tgt := 38) hx hb dX3_isUnder_16 (by decide) (fun h => absurd (⟨nI_le (by omega) (by omega), nI_le (by omega) (by omega)⟩) h) (fun _ => ?_)
  refine lv_iload_n hx hb dX3_isUnder_19 rfl (lv_at hl 1 rfl) ?_
  refine lv_iload_n hx hb dX3_isUnder_20 rfl (lv_at hl 3 rfl) ?_
  refine q_icmp_neN (tgt := 26) (a := 3) (b := 6) hx hb dX3_isUnder_21 (by decide) (by omega) (by omega) (fun _ => ?_) (fun h => absurd h (by omega))
  refine va_gets hx hb hZ.2.2.1 va_S.rf hown (hU _ mF_X3_235) (fun _ h => h) dX3_isUnder_26 ?_
  refine lv_iload_n hx hb dX3_isUnder_29 rfl (lv_at hl 1 rfl) ?_
  refine va_ti hx hb hZ.2.2.2 va_S.rf (i := nI 3) (v := .int (kab 3)) (vp_in_nI (by omega) (by decide)) (by rw [nI_clamp (by omega)]) dX3_isUnder_30 ?_
  refine q_eqi (y := nI 2) (rfl) ?_
  refine lv_istore_n (lv' := [(2, .int (nI 2)), (3, .int (nI 0)), (0, .int (nI 3)), (1, .int (nI 6))]) hx hb dX3_isUnder_31 rfl hl (by decide) rfl (fun ls hl => ?_)
  refine lv_iinc (v := nI 1) (lv' := [(3, .int (nI 1)), (2, .int (nI 2)), (0, .int (nI 3)), (1, .int (nI 6))]) hx hb dX3_isUnder_32 hl (k := 1) rfl (by decide) (by decide) rfl (fun ls hl => ?_)
  refine lv_goto (tgt := 4) hx hb dX3_isUnder_35 (by decide) ?_
  refine lv_iload_n hx hb dX3_isUnder_4 rfl (lv_at hl 0 rfl) ?_
  refine lv_bipush (v := nI 7) hx hb dX3_isUnder_5 (by decide) ?_
  refine q_icmp_geN (tgt := 38) (a := 1) (b := 7) hx hb dX3_isUnder_7 (by decide) (by omega) (by omega) (fun h => absurd h (by omega)) (fun _ => ?_)
  refine lv_iload_n hx hb dX3_isUnder_10 rfl (lv_at hl 1 rfl) ?_
  refine lv_bipush (v := nI 6) hx hb dX3_isUnder_11 (by decide) ?_
  refine RO.callS S ks_X3_44 (c_X3_isWithin l D cI cJ t f g h τ (nI 2) (nI 6)) hK hP ⟨Nat.le_of_ble_eq_true rfl, Nat.le_of_ble_eq_true rfl⟩ hl.1 rfl rfl (Nat.le_of_ble_eq_true rfl) (Nat.zero_le _) (Nat.zero_le _) dX3_isUnder_13 ?_
  refine q_if_eqB (tgt := 38) hx hb dX3_isUnder_16 (by decide) (fun h => absurd (⟨nI_le (by omega) (by omega), nI_le (by omega) (by omega)⟩) h) (fun _ => ?_)
  refine lv_iload_n hx hb dX3_isUnder_19 rfl (lv_at hl 1 rfl) ?_
  refine lv_iload_n hx hb dX3_isUnder_20 rfl (lv_at hl 3 rfl) ?_
  refine q_icmp_neN (tgt := 26) (a := 2) (b := 6) hx hb dX3_isUnder_21 (by decide) (by omega) (by omega) (fun _ => ?_) (fun h => absurd h (by omega))
  refine va_gets hx hb hZ.2.2.1 va_S.rf hown (hU _ mF_X3_235) (fun _ h => h) dX3_isUnder_26 ?_
  refine lv_iload_n hx hb dX3_isUnder_29 rfl (lv_at hl 1 rfl) ?_
  refine va_ti hx hb hZ.2.2.2 va_S.rf (i := nI 2) (v := .int (kab 2)) (vp_in_nI (by omega) (by decide)) (by rw [nI_clamp (by omega)]) dX3_isUnder_30 ?_
  refine q_eqi (y := nI 0) (rfl) ?_
  refine lv_istore_n (lv' := [(2, .int (nI 0)), (3, .int (nI 1)), (0, .int (nI 3)), (1, .int (nI 6))]) hx hb dX3_isUnder_31 rfl hl (by decide) rfl (fun ls hl => ?_)
  refine lv_iinc (v := nI 2) (lv' := [(3, .int (nI 2)), (2, .int (nI 0)), (0, .int (nI 3)), (1, .int (nI 6))]) hx hb dX3_isUnder_32 hl (k := 1) rfl (by decide) (by decide) rfl (fun ls hl => ?_)
  refine lv_goto (tgt := 4) hx hb dX3_isUnder_35 (by decide) ?_
  refine lv_iload_n hx hb dX3_isUnder_4 rfl (lv_at hl 0 rfl) ?_
  refine lv_bipush (v := nI 7) hx hb dX3_isUnder_5 (by decide) ?_
  refine q_icmp_geN (tgt := 38) (a := 2) (b := 7) hx hb dX3_isUnder_7 (by decide) (by omega) (by omega) (fun h => absurd h (by omega)) (fun _ => ?_)
  refine lv_iload_n hx hb dX3_isUnder_10 rfl (lv_at hl 1 rfl) ?_
  refine lv_bipush (v := nI 6) hx hb dX3_isUnder_11 (by decide) ?_
  refine RO.callS S ks_X3_44 (c_X3_isWithin l D cI cJ t f g h τ (nI 0) (nI 6)) hK hP ⟨Nat.le_of_ble_eq_true rfl, Nat.le_of_ble_eq_true rfl⟩ hl.1 rfl rfl (Nat.le_of_ble_eq_true rfl) (Nat.zero_le _) (Nat.zero_le _) dX3_isUnder_13 ?_
  refine q_if_eqB (tgt := 38) hx hb dX3_isUnder_16 (by decide) (fun h => absurd (⟨nI_le (by omega) (by omega), nI_le (by omega) (by omega)⟩) h) (fun _ => ?_)
  refine lv_iload_n hx hb dX3_isUnder_19 rfl (lv_at hl 1 rfl) ?_
  refine lv_iload_n hx hb dX3_isUnder_20 rfl (lv_at hl 3 rfl) ?_
  refine q_icmp_neN (tgt := 26) (a := 0) (b := 6) hx hb dX3_isUnder_21 (by decide) (by omega) (by omega) (fun _ => ?_) (fun h => absurd h (by omega))
  refine va_gets hx hb hZ.2.2.1 va_S.rf hown (hU _ mF_X3_235) (fun _ h => h) dX3_isUnder_26 ?_
  refine lv_iload_n hx hb dX3_isUnder_29 rfl (lv_at hl 1 rfl) ?_
  refine va_ti hx hb hZ.2.2.2 va_S.rf (i := nI 0) (v := .int (kab 0)) (vp_in_nI (by omega) (by decide)) (by rw [nI_clamp (by omega)]) dX3_isUnder_30 ?_
  refine q_eqi (y := (-1)) (rfl) ?_
  refine lv_istore_n (lv' := [(2, .int (-1)), (3, .int (nI 2)), (0, .int (nI 3)), (1, .int (nI 6))]) hx hb dX3_isUnder_31 rfl hl (by decide) rfl (fun ls hl => ?_)
  refine lv_iinc (v := nI 3) (lv' := [(3, .int (nI 3)), (2, .int (-1)), (0, .int (nI 3)), (1, .int (nI 6))]) hx hb dX3_isUnder_32 hl (k := 1) rfl (by decide) (by decide) rfl (fun ls hl => ?_)
  refine lv_goto (tgt := 4) hx hb dX3_isUnder_35 (by decide) ?_
  refine lv_iload_n hx hb dX3_isUnder_4 rfl (lv_at hl 0 rfl) ?_
  refine lv_bipush (v := nI 7) hx hb dX3_isUnder_5 (by decide) ?_
  refine q_icmp_geN (tgt := 38) (a := 3) (b := 7) hx hb dX3_isUnder_7 (by decide) (by omega) (by omega) (fun h => absurd h (by omega)) (fun _ => ?_)
  refine lv_iload_n hx hb dX3_isUnder_10 rfl (lv_at hl 1 rfl) ?_
  refine lv_bipush (v := nI 6) hx hb dX3_isUnder_11 (by decide) ?_
  refine RO.callS S ks_X3_44 (c_X3_isWithin l D cI cJ t f g h τ (-1) (nI 6)) hK hP ⟨Nat.le_of_ble_eq_true rfl, Nat.le_of_ble_eq_true rfl⟩ hl.1 rfl rfl (Nat.le_of_ble_eq_true rfl) (Nat.zero_le _) (Nat.zero_le _) dX3_isUnder_13 ?_
  refine q_if_eqB (tgt := 38) hx hb dX3_isUnder_16 (by decide) (fun _ => ?_) (fun h => absurd h (by decide))
  refine lv_iconst (v := nI 0) hx hb dX3_isUnder_38 (by decide) ?_
  exact RO.zret S hr hlk (bI_f (by decide)) dX3_isUnder_39
set_option maxRecDepth 100000 in
set_option maxHeartbeats 4000000 in
theorem c_X3_isUnder_4_0 (l : Launch) (D : va_G) (cI cJ : ClassId) (t : Nat → Nat) (f g h : Nat → Int32) (τ : Nat → Nat → Int32) (mt ka : Nat) : RZ mt ka l yX3_isUnder cX3_isUnder 4 (some .boolean) 1 D cI cJ (TW cI cJ t f g h τ) [.int (nI 4), .int (nI 0)] (.int (bI (uU 4 0))) := by
  refine RZ.of (by decide) (Nat.le_of_ble_eq_true rfl) (fun p e s m below meth c ls S hr hlk hK hP hZ hl => ?_)
  obtain ⟨hx, hb, hml, hown, hU⟩ := id S
  have hl : lv_has ls 4 [(0, .int (nI 4)), (1, .int (nI 0))] := hl
  refine lv_iload_n hx hb dX3_isUnder_0 rfl (lv_at hl 0 rfl) ?_
  refine lv_istore_n (lv' := [(2, .int (nI 4)), (0, .int (nI 4)), (1, .int (nI 0))]) hx hb dX3_isUnder_1 rfl hl (by decide) rfl (fun ls hl => ?_)
  refine lv_iconst (v := nI 0) hx hb dX3_isUnder_2 (by decide) ?_
  refine lv_istore_n (lv' := [(3, .int (nI 0)), (2, .int (nI 4)), (0, .int (nI 4)), (1, .int (nI 0))]) hx hb dX3_isUnder_3 rfl hl (by decide) rfl (fun ls hl => ?_)
  refine lv_iload_n hx hb dX3_isUnder_4 rfl (lv_at hl 0 rfl) ?_
  refine lv_bipush (v := nI 7) hx hb dX3_isUnder_5 (by decide) ?_
  refine q_icmp_geN (tgt := 38) (a := 0) (b := 7) hx hb dX3_isUnder_7 (by decide) (by omega) (by omega) (fun h => absurd h (by omega)) (fun _ => ?_)
  refine lv_iload_n hx hb dX3_isUnder_10 rfl (lv_at hl 1 rfl) ?_
  refine lv_bipush (v := nI 6) hx hb dX3_isUnder_11 (by decide) ?_
  refine RO.callS S ks_X3_44 (c_X3_isWithin l D cI cJ t f g h τ (nI 4) (nI 6)) hK hP ⟨Nat.le_of_ble_eq_true rfl, Nat.le_of_ble_eq_true rfl⟩ hl.1 rfl rfl (Nat.le_of_ble_eq_true rfl) (Nat.zero_le _) (Nat.zero_le _) dX3_isUnder_13 ?_
  refine q_if_eqB (tgt := 38) hx hb dX3_isUnder_16 (by decide) (fun h => absurd (⟨nI_le (by omega) (by omega), nI_le (by omega) (by omega)⟩) h) (fun _ => ?_)
  refine lv_iload_n hx hb dX3_isUnder_19 rfl (lv_at hl 1 rfl) ?_
  refine lv_iload_n hx hb dX3_isUnder_20 rfl (lv_at hl 3 rfl) ?_
  refine q_icmp_neN (tgt := 26) (a := 4) (b := 0) hx hb dX3_isUnder_21 (by decide) (by omega) (by omega) (fun _ => ?_) (fun h => absurd h (by omega))
  refine va_gets hx hb hZ.2.2.1 va_S.rf hown (hU _ mF_X3_235) (fun _ h => h) dX3_isUnder_26 ?_
  refine lv_iload_n hx hb dX3_isUnder_29 rfl (lv_at hl 1 rfl) ?_
  refine va_ti hx hb hZ.2.2.2 va_S.rf (i := nI 4) (v := .int (kab 4)) (vp_in_nI (by omega) (by decide)) (by rw [nI_clamp (by omega)]) dX3_isUnder_30 ?_
  refine q_eqi (y := nI 3) (rfl) ?_
  refine lv_istore_n (lv' := [(2, .int (nI 3)), (3, .int (nI 0)), (0, .int (nI 4)), (1, .int (nI 0))]) hx hb dX3_isUnder_31 rfl hl (by decide) rfl (fun ls hl => ?_)
  refine lv_iinc (v := nI 1) (lv' := [(3, .int (nI 1)), (2, .int (nI 3)), (0, .int (nI 4)), (1, .int (nI 0))]) hx hb dX3_isUnder_32 hl (k := 1) rfl (by decide) (by decide) rfl (fun ls hl => ?_)
  refine lv_goto (tgt := 4) hx hb dX3_isUnder_35 (by decide) ?_
  refine lv_iload_n hx hb dX3_isUnder_4 rfl (lv_at hl 0 rfl) ?_
  refine lv_bipush (v := nI 7) hx hb dX3_isUnder_5 (by decide) ?_
  refine q_icmp_geN (tgt := 38) (a := 1) (b := 7) hx hb dX3_isUnder_7 (by decide) (by omega) (by omega) (fun h => absurd h (by omega)) (fun _ => ?_)
  refine lv_iload_n hx hb dX3_isUnder_10 rfl (lv_at hl 1 rfl) ?_
  refine lv_bipush (v := nI 6) hx hb dX3_isUnder_11 (by decide) ?_
  refine RO.callS S ks_X3_44 (c_X3_isWithin l D cI cJ t f g h τ (nI 3) (nI 6)) hK hP ⟨Nat.le_of_ble_eq_true rfl, Nat.le_of_ble_eq_true rfl⟩ hl.1 rfl rfl (Nat.le_of_ble_eq_true rfl) (Nat.zero_le _) (Nat.zero_le _) dX3_isUnder_13 ?_
  refine q_if_eqB (tgt := 38) hx hb dX3_isUnder_16 (by decide) (fun h => absurd (⟨nI_le (by omega) (by omega), nI_le (by omega) (by omega)⟩) h) (fun _ => ?_)
  refine lv_iload_n hx hb dX3_isUnder_19 rfl (lv_at hl 1 rfl) ?_
  refine lv_iload_n hx hb dX3_isUnder_20 rfl (lv_at hl 3 rfl) ?_
  refine q_icmp_neN (tgt := 26) (a := 3) (b := 0) hx hb dX3_isUnder_21 (by decide) (by omega) (by omega) (fun _ => ?_) (fun h => absurd h (by omega))
  refine va_gets hx hb hZ.2.2.1 va_S.rf hown (hU _ mF_X3_235) (fun _ h => h) dX3_isUnder_26 ?_
  refine lv_iload_n hx hb dX3_isUnder_29 rfl (lv_at hl 1 rfl) ?_
  refine va_ti hx hb hZ.2.2.2 va_S.rf (i := nI 3) (v := .int (kab 3)) (vp_in_nI (by omega) (by decide)) (by rw [nI_clamp (by omega)]) dX3_isUnder_30 ?_
  refine q_eqi (y := nI 2) (rfl) ?_
  refine lv_istore_n (lv' := [(2, .int (nI 2)), (3, .int (nI 1)), (0, .int (nI 4)), (1, .int (nI 0))]) hx hb dX3_isUnder_31 rfl hl (by decide) rfl (fun ls hl => ?_)
  refine lv_iinc (v := nI 2) (lv' := [(3, .int (nI 2)), (2, .int (nI 2)), (0, .int (nI 4)), (1, .int (nI 0))]) hx hb dX3_isUnder_32 hl (k := 1) rfl (by decide) (by decide) rfl (fun ls hl => ?_)
  refine lv_goto (tgt := 4) hx hb dX3_isUnder_35 (by decide) ?_
  refine lv_iload_n hx hb dX3_isUnder_4 rfl (lv_at hl 0 rfl) ?_
  refine lv_bipush (v := nI 7) hx hb dX3_isUnder_5 (by decide) ?_
  refine q_icmp_geN (tgt := 38) (a := 2) (b := 7) hx hb dX3_isUnder_7 (by decide) (by omega) (by omega) (fun h => absurd h (by omega)) (fun _ => ?_)
  refine lv_iload_n hx hb dX3_isUnder_10 rfl (lv_at hl 1 rfl) ?_
  refine lv_bipush (v := nI 6) hx hb dX3_isUnder_11 (by decide) ?_
  refine RO.callS S ks_X3_44 (c_X3_isWithin l D cI cJ t f g h τ (nI 2) (nI 6)) hK hP ⟨Nat.le_of_ble_eq_true rfl, Nat.le_of_ble_eq_true rfl⟩ hl.1 rfl rfl (Nat.le_of_ble_eq_true rfl) (Nat.zero_le _) (Nat.zero_le _) dX3_isUnder_13 ?_
  refine q_if_eqB (tgt := 38) hx hb dX3_isUnder_16 (by decide) (fun h => absurd (⟨nI_le (by omega) (by omega), nI_le (by omega) (by omega)⟩) h) (fun _ => ?_)
  refine lv_iload_n hx hb dX3_isUnder_19 rfl (lv_at hl 1 rfl) ?_
  refine lv_iload_n hx hb dX3_isUnder_20 rfl (lv_at hl 3 rfl) ?_
  refine q_icmp_neN (tgt := 26) (a := 2) (b := 0) hx hb dX3_isUnder_21 (by decide) (by omega) (by omega) (fun _ => ?_) (fun h => absurd h (by omega))
  refine va_gets hx hb hZ.2.2.1 va_S.rf hown (hU _ mF_X3_235) (fun _ h => h) dX3_isUnder_26 ?_
  refine lv_iload_n hx hb dX3_isUnder_29 rfl (lv_at hl 1 rfl) ?_
  refine va_ti hx hb hZ.2.2.2 va_S.rf (i := nI 2) (v := .int (kab 2)) (vp_in_nI (by omega) (by decide)) (by rw [nI_clamp (by omega)]) dX3_isUnder_30 ?_
  refine q_eqi (y := nI 0) (rfl) ?_
  refine lv_istore_n (lv' := [(2, .int (nI 0)), (3, .int (nI 2)), (0, .int (nI 4)), (1, .int (nI 0))]) hx hb dX3_isUnder_31 rfl hl (by decide) rfl (fun ls hl => ?_)
  refine lv_iinc (v := nI 3) (lv' := [(3, .int (nI 3)), (2, .int (nI 0)), (0, .int (nI 4)), (1, .int (nI 0))]) hx hb dX3_isUnder_32 hl (k := 1) rfl (by decide) (by decide) rfl (fun ls hl => ?_)
  refine lv_goto (tgt := 4) hx hb dX3_isUnder_35 (by decide) ?_
  refine lv_iload_n hx hb dX3_isUnder_4 rfl (lv_at hl 0 rfl) ?_
  refine lv_bipush (v := nI 7) hx hb dX3_isUnder_5 (by decide) ?_
  refine q_icmp_geN (tgt := 38) (a := 3) (b := 7) hx hb dX3_isUnder_7 (by decide) (by omega) (by omega) (fun h => absurd h (by omega)) (fun _ => ?_)
  refine lv_iload_n hx hb dX3_isUnder_10 rfl (lv_at hl 1 rfl) ?_
  refine lv_bipush (v := nI 6) hx hb dX3_isUnder_11 (by decide) ?_
  refine RO.callS S ks_X3_44 (c_X3_isWithin l D cI cJ t f g h τ (nI 0) (nI 6)) hK hP ⟨Nat.le_of_ble_eq_true rfl, Nat.le_of_ble_eq_true rfl⟩ hl.1 rfl rfl (Nat.le_of_ble_eq_true rfl) (Nat.zero_le _) (Nat.zero_le _) dX3_isUnder_13 ?_
  refine q_if_eqB (tgt := 38) hx hb dX3_isUnder_16 (by decide) (fun h => absurd (⟨nI_le (by omega) (by omega), nI_le (by omega) (by omega)⟩) h) (fun _ => ?_)
  refine lv_iload_n hx hb dX3_isUnder_19 rfl (lv_at hl 1 rfl) ?_
  refine lv_iload_n hx hb dX3_isUnder_20 rfl (lv_at hl 3 rfl) ?_
  refine q_icmp_neN (tgt := 26) (a := 0) (b := 0) hx hb dX3_isUnder_21 (by decide) (by omega) (by omega) (fun h => absurd h (by omega)) (fun _ => ?_)
  refine lv_iconst (v := nI 1) hx hb dX3_isUnder_24 (by decide) ?_
  exact RO.zret S hr hlk (bI_t (by decide)) dX3_isUnder_25
set_option maxRecDepth 100000 in
set_option maxHeartbeats 4000000 in
theorem c_X3_isUnder_4_1 (l : Launch) (D : va_G) (cI cJ : ClassId) (t : Nat → Nat) (f g h : Nat → Int32) (τ : Nat → Nat → Int32) (mt ka : Nat) : RZ mt ka l yX3_isUnder cX3_isUnder 4 (some .boolean) 1 D cI cJ (TW cI cJ t f g h τ) [.int (nI 4), .int (nI 1)] (.int (bI (uU 4 1))) := by
  refine RZ.of (by decide) (Nat.le_of_ble_eq_true rfl) (fun p e s m below meth c ls S hr hlk hK hP hZ hl => ?_)
  obtain ⟨hx, hb, hml, hown, hU⟩ := id S
  have hl : lv_has ls 4 [(0, .int (nI 4)), (1, .int (nI 1))] := hl
  refine lv_iload_n hx hb dX3_isUnder_0 rfl (lv_at hl 0 rfl) ?_
  refine lv_istore_n (lv' := [(2, .int (nI 4)), (0, .int (nI 4)), (1, .int (nI 1))]) hx hb dX3_isUnder_1 rfl hl (by decide) rfl (fun ls hl => ?_)
  refine lv_iconst (v := nI 0) hx hb dX3_isUnder_2 (by decide) ?_
  refine lv_istore_n (lv' := [(3, .int (nI 0)), (2, .int (nI 4)), (0, .int (nI 4)), (1, .int (nI 1))]) hx hb dX3_isUnder_3 rfl hl (by decide) rfl (fun ls hl => ?_)
  refine lv_iload_n hx hb dX3_isUnder_4 rfl (lv_at hl 0 rfl) ?_
  refine lv_bipush (v := nI 7) hx hb dX3_isUnder_5 (by decide) ?_
  refine q_icmp_geN (tgt := 38) (a := 0) (b := 7) hx hb dX3_isUnder_7 (by decide) (by omega) (by omega) (fun h => absurd h (by omega)) (fun _ => ?_)
  refine lv_iload_n hx hb dX3_isUnder_10 rfl (lv_at hl 1 rfl) ?_
  refine lv_bipush (v := nI 6) hx hb dX3_isUnder_11 (by decide) ?_
  refine RO.callS S ks_X3_44 (c_X3_isWithin l D cI cJ t f g h τ (nI 4) (nI 6)) hK hP ⟨Nat.le_of_ble_eq_true rfl, Nat.le_of_ble_eq_true rfl⟩ hl.1 rfl rfl (Nat.le_of_ble_eq_true rfl) (Nat.zero_le _) (Nat.zero_le _) dX3_isUnder_13 ?_
  refine q_if_eqB (tgt := 38) hx hb dX3_isUnder_16 (by decide) (fun h => absurd (⟨nI_le (by omega) (by omega), nI_le (by omega) (by omega)⟩) h) (fun _ => ?_)
  refine lv_iload_n hx hb dX3_isUnder_19 rfl (lv_at hl 1 rfl) ?_
  refine lv_iload_n hx hb dX3_isUnder_20 rfl (lv_at hl 3 rfl) ?_
  refine q_icmp_neN (tgt := 26) (a := 4) (b := 1) hx hb dX3_isUnder_21 (by decide) (by omega) (by omega) (fun _ => ?_) (fun h => absurd h (by omega))
  refine va_gets hx hb hZ.2.2.1 va_S.rf hown (hU _ mF_X3_235) (fun _ h => h) dX3_isUnder_26 ?_
  refine lv_iload_n hx hb dX3_isUnder_29 rfl (lv_at hl 1 rfl) ?_
  refine va_ti hx hb hZ.2.2.2 va_S.rf (i := nI 4) (v := .int (kab 4)) (vp_in_nI (by omega) (by decide)) (by rw [nI_clamp (by omega)]) dX3_isUnder_30 ?_
  refine q_eqi (y := nI 3) (rfl) ?_
  refine lv_istore_n (lv' := [(2, .int (nI 3)), (3, .int (nI 0)), (0, .int (nI 4)), (1, .int (nI 1))]) hx hb dX3_isUnder_31 rfl hl (by decide) rfl (fun ls hl => ?_)
  refine lv_iinc (v := nI 1) (lv' := [(3, .int (nI 1)), (2, .int (nI 3)), (0, .int (nI 4)), (1, .int (nI 1))]) hx hb dX3_isUnder_32 hl (k := 1) rfl (by decide) (by decide) rfl (fun ls hl => ?_)
  refine lv_goto (tgt := 4) hx hb dX3_isUnder_35 (by decide) ?_
  refine lv_iload_n hx hb dX3_isUnder_4 rfl (lv_at hl 0 rfl) ?_
  refine lv_bipush (v := nI 7) hx hb dX3_isUnder_5 (by decide) ?_
  refine q_icmp_geN (tgt := 38) (a := 1) (b := 7) hx hb dX3_isUnder_7 (by decide) (by omega) (by omega) (fun h => absurd h (by omega)) (fun _ => ?_)
  refine lv_iload_n hx hb dX3_isUnder_10 rfl (lv_at hl 1 rfl) ?_
  refine lv_bipush (v := nI 6) hx hb dX3_isUnder_11 (by decide) ?_
  refine RO.callS S ks_X3_44 (c_X3_isWithin l D cI cJ t f g h τ (nI 3) (nI 6)) hK hP ⟨Nat.le_of_ble_eq_true rfl, Nat.le_of_ble_eq_true rfl⟩ hl.1 rfl rfl (Nat.le_of_ble_eq_true rfl) (Nat.zero_le _) (Nat.zero_le _) dX3_isUnder_13 ?_
  refine q_if_eqB (tgt := 38) hx hb dX3_isUnder_16 (by decide) (fun h => absurd (⟨nI_le (by omega) (by omega), nI_le (by omega) (by omega)⟩) h) (fun _ => ?_)
  refine lv_iload_n hx hb dX3_isUnder_19 rfl (lv_at hl 1 rfl) ?_
  refine lv_iload_n hx hb dX3_isUnder_20 rfl (lv_at hl 3 rfl) ?_
  refine q_icmp_neN (tgt := 26) (a := 3) (b := 1) hx hb dX3_isUnder_21 (by decide) (by omega) (by omega) (fun _ => ?_) (fun h => absurd h (by omega))
  refine va_gets hx hb hZ.2.2.1 va_S.rf hown (hU _ mF_X3_235) (fun _ h => h) dX3_isUnder_26 ?_
  refine lv_iload_n hx hb dX3_isUnder_29 rfl (lv_at hl 1 rfl) ?_
  refine va_ti hx hb hZ.2.2.2 va_S.rf (i := nI 3) (v := .int (kab 3)) (vp_in_nI (by omega) (by decide)) (by rw [nI_clamp (by omega)]) dX3_isUnder_30 ?_
  refine q_eqi (y := nI 2) (rfl) ?_
  refine lv_istore_n (lv' := [(2, .int (nI 2)), (3, .int (nI 1)), (0, .int (nI 4)), (1, .int (nI 1))]) hx hb dX3_isUnder_31 rfl hl (by decide) rfl (fun ls hl => ?_)
  refine lv_iinc (v := nI 2) (lv' := [(3, .int (nI 2)), (2, .int (nI 2)), (0, .int (nI 4)), (1, .int (nI 1))]) hx hb dX3_isUnder_32 hl (k := 1) rfl (by decide) (by decide) rfl (fun ls hl => ?_)
  refine lv_goto (tgt := 4) hx hb dX3_isUnder_35 (by decide) ?_
  refine lv_iload_n hx hb dX3_isUnder_4 rfl (lv_at hl 0 rfl) ?_
  refine lv_bipush (v := nI 7) hx hb dX3_isUnder_5 (by decide) ?_
  refine q_icmp_geN (tgt := 38) (a := 2) (b := 7) hx hb dX3_isUnder_7 (by decide) (by omega) (by omega) (fun h => absurd h (by omega)) (fun _ => ?_)
  refine lv_iload_n hx hb dX3_isUnder_10 rfl (lv_at hl 1 rfl) ?_
  refine lv_bipush (v := nI 6) hx hb dX3_isUnder_11 (by decide) ?_
  refine RO.callS S ks_X3_44 (c_X3_isWithin l D cI cJ t f g h τ (nI 2) (nI 6)) hK hP ⟨Nat.le_of_ble_eq_true rfl, Nat.le_of_ble_eq_true rfl⟩ hl.1 rfl rfl (Nat.le_of_ble_eq_true rfl) (Nat.zero_le _) (Nat.zero_le _) dX3_isUnder_13 ?_
  refine q_if_eqB (tgt := 38) hx hb dX3_isUnder_16 (by decide) (fun h => absurd (⟨nI_le (by omega) (by omega), nI_le (by omega) (by omega)⟩) h) (fun _ => ?_)
  refine lv_iload_n hx hb dX3_isUnder_19 rfl (lv_at hl 1 rfl) ?_
  refine lv_iload_n hx hb dX3_isUnder_20 rfl (lv_at hl 3 rfl) ?_
  refine q_icmp_neN (tgt := 26) (a := 2) (b := 1) hx hb dX3_isUnder_21 (by decide) (by omega) (by omega) (fun _ => ?_) (fun h => absurd h (by omega))
  refine va_gets hx hb hZ.2.2.1 va_S.rf hown (hU _ mF_X3_235) (fun _ h => h) dX3_isUnder_26 ?_
  refine lv_iload_n hx hb dX3_isUnder_29 rfl (lv_at hl 1 rfl) ?_
  refine va_ti hx hb hZ.2.2.2 va_S.rf (i := nI 2) (v := .int (kab 2)) (vp_in_nI (by omega) (by decide)) (by rw [nI_clamp (by omega)]) dX3_isUnder_30 ?_
  refine q_eqi (y := nI 0) (rfl) ?_
  refine lv_istore_n (lv' := [(2, .int (nI 0)), (3, .int (nI 2)), (0, .int (nI 4)), (1, .int (nI 1))]) hx hb dX3_isUnder_31 rfl hl (by decide) rfl (fun ls hl => ?_)
  refine lv_iinc (v := nI 3) (lv' := [(3, .int (nI 3)), (2, .int (nI 0)), (0, .int (nI 4)), (1, .int (nI 1))]) hx hb dX3_isUnder_32 hl (k := 1) rfl (by decide) (by decide) rfl (fun ls hl => ?_)
  refine lv_goto (tgt := 4) hx hb dX3_isUnder_35 (by decide) ?_
  refine lv_iload_n hx hb dX3_isUnder_4 rfl (lv_at hl 0 rfl) ?_
  refine lv_bipush (v := nI 7) hx hb dX3_isUnder_5 (by decide) ?_
  refine q_icmp_geN (tgt := 38) (a := 3) (b := 7) hx hb dX3_isUnder_7 (by decide) (by omega) (by omega) (fun h => absurd h (by omega)) (fun _ => ?_)
  refine lv_iload_n hx hb dX3_isUnder_10 rfl (lv_at hl 1 rfl) ?_
  refine lv_bipush (v := nI 6) hx hb dX3_isUnder_11 (by decide) ?_
  refine RO.callS S ks_X3_44 (c_X3_isWithin l D cI cJ t f g h τ (nI 0) (nI 6)) hK hP ⟨Nat.le_of_ble_eq_true rfl, Nat.le_of_ble_eq_true rfl⟩ hl.1 rfl rfl (Nat.le_of_ble_eq_true rfl) (Nat.zero_le _) (Nat.zero_le _) dX3_isUnder_13 ?_
  refine q_if_eqB (tgt := 38) hx hb dX3_isUnder_16 (by decide) (fun h => absurd (⟨nI_le (by omega) (by omega), nI_le (by omega) (by omega)⟩) h) (fun _ => ?_)
  refine lv_iload_n hx hb dX3_isUnder_19 rfl (lv_at hl 1 rfl) ?_
  refine lv_iload_n hx hb dX3_isUnder_20 rfl (lv_at hl 3 rfl) ?_
  refine q_icmp_neN (tgt := 26) (a := 0) (b := 1) hx hb dX3_isUnder_21 (by decide) (by omega) (by omega) (fun _ => ?_) (fun h => absurd h (by omega))
  refine va_gets hx hb hZ.2.2.1 va_S.rf hown (hU _ mF_X3_235) (fun _ h => h) dX3_isUnder_26 ?_
  refine lv_iload_n hx hb dX3_isUnder_29 rfl (lv_at hl 1 rfl) ?_
  refine va_ti hx hb hZ.2.2.2 va_S.rf (i := nI 0) (v := .int (kab 0)) (vp_in_nI (by omega) (by decide)) (by rw [nI_clamp (by omega)]) dX3_isUnder_30 ?_
  refine q_eqi (y := (-1)) (rfl) ?_
  refine lv_istore_n (lv' := [(2, .int (-1)), (3, .int (nI 3)), (0, .int (nI 4)), (1, .int (nI 1))]) hx hb dX3_isUnder_31 rfl hl (by decide) rfl (fun ls hl => ?_)
  refine lv_iinc (v := nI 4) (lv' := [(3, .int (nI 4)), (2, .int (-1)), (0, .int (nI 4)), (1, .int (nI 1))]) hx hb dX3_isUnder_32 hl (k := 1) rfl (by decide) (by decide) rfl (fun ls hl => ?_)
  refine lv_goto (tgt := 4) hx hb dX3_isUnder_35 (by decide) ?_
  refine lv_iload_n hx hb dX3_isUnder_4 rfl (lv_at hl 0 rfl) ?_
  refine lv_bipush (v := nI 7) hx hb dX3_isUnder_5 (by decide) ?_
  refine q_icmp_geN (tgt := 38) (a := 4) (b := 7) hx hb dX3_isUnder_7 (by decide) (by omega) (by omega) (fun h => absurd h (by omega)) (fun _ => ?_)
  refine lv_iload_n hx hb dX3_isUnder_10 rfl (lv_at hl 1 rfl) ?_
  refine lv_bipush (v := nI 6) hx hb dX3_isUnder_11 (by decide) ?_
  refine RO.callS S ks_X3_44 (c_X3_isWithin l D cI cJ t f g h τ (-1) (nI 6)) hK hP ⟨Nat.le_of_ble_eq_true rfl, Nat.le_of_ble_eq_true rfl⟩ hl.1 rfl rfl (Nat.le_of_ble_eq_true rfl) (Nat.zero_le _) (Nat.zero_le _) dX3_isUnder_13 ?_
  refine q_if_eqB (tgt := 38) hx hb dX3_isUnder_16 (by decide) (fun _ => ?_) (fun h => absurd h (by decide))
  refine lv_iconst (v := nI 0) hx hb dX3_isUnder_38 (by decide) ?_
  exact RO.zret S hr hlk (bI_f (by decide)) dX3_isUnder_39
set_option maxRecDepth 100000 in
set_option maxHeartbeats 4000000 in
theorem c_X3_isUnder_4_2 (l : Launch) (D : va_G) (cI cJ : ClassId) (t : Nat → Nat) (f g h : Nat → Int32) (τ : Nat → Nat → Int32) (mt ka : Nat) : RZ mt ka l yX3_isUnder cX3_isUnder 4 (some .boolean) 1 D cI cJ (TW cI cJ t f g h τ) [.int (nI 4), .int (nI 2)] (.int (bI (uU 4 2))) := by
  refine RZ.of (by decide) (Nat.le_of_ble_eq_true rfl) (fun p e s m below meth c ls S hr hlk hK hP hZ hl => ?_)
  obtain ⟨hx, hb, hml, hown, hU⟩ := id S
  have hl : lv_has ls 4 [(0, .int (nI 4)), (1, .int (nI 2))] := hl
  refine lv_iload_n hx hb dX3_isUnder_0 rfl (lv_at hl 0 rfl) ?_
  refine lv_istore_n (lv' := [(2, .int (nI 4)), (0, .int (nI 4)), (1, .int (nI 2))]) hx hb dX3_isUnder_1 rfl hl (by decide) rfl (fun ls hl => ?_)
  refine lv_iconst (v := nI 0) hx hb dX3_isUnder_2 (by decide) ?_
  refine lv_istore_n (lv' := [(3, .int (nI 0)), (2, .int (nI 4)), (0, .int (nI 4)), (1, .int (nI 2))]) hx hb dX3_isUnder_3 rfl hl (by decide) rfl (fun ls hl => ?_)
  refine lv_iload_n hx hb dX3_isUnder_4 rfl (lv_at hl 0 rfl) ?_
  refine lv_bipush (v := nI 7) hx hb dX3_isUnder_5 (by decide) ?_
  refine q_icmp_geN (tgt := 38) (a := 0) (b := 7) hx hb dX3_isUnder_7 (by decide) (by omega) (by omega) (fun h => absurd h (by omega)) (fun _ => ?_)
  refine lv_iload_n hx hb dX3_isUnder_10 rfl (lv_at hl 1 rfl) ?_
  refine lv_bipush (v := nI 6) hx hb dX3_isUnder_11 (by decide) ?_
  refine RO.callS S ks_X3_44 (c_X3_isWithin l D cI cJ t f g h τ (nI 4) (nI 6)) hK hP ⟨Nat.le_of_ble_eq_true rfl, Nat.le_of_ble_eq_true rfl⟩ hl.1 rfl rfl (Nat.le_of_ble_eq_true rfl) (Nat.zero_le _) (Nat.zero_le _) dX3_isUnder_13 ?_
  refine q_if_eqB (tgt := 38) hx hb dX3_isUnder_16 (by decide) (fun h => absurd (⟨nI_le (by omega) (by omega), nI_le (by omega) (by omega)⟩) h) (fun _ => ?_)
  refine lv_iload_n hx hb dX3_isUnder_19 rfl (lv_at hl 1 rfl) ?_
  refine lv_iload_n hx hb dX3_isUnder_20 rfl (lv_at hl 3 rfl) ?_
  refine q_icmp_neN (tgt := 26) (a := 4) (b := 2) hx hb dX3_isUnder_21 (by decide) (by omega) (by omega) (fun _ => ?_) (fun h => absurd h (by omega))
  refine va_gets hx hb hZ.2.2.1 va_S.rf hown (hU _ mF_X3_235) (fun _ h => h) dX3_isUnder_26 ?_
  refine lv_iload_n hx hb dX3_isUnder_29 rfl (lv_at hl 1 rfl) ?_
  refine va_ti hx hb hZ.2.2.2 va_S.rf (i := nI 4) (v := .int (kab 4)) (vp_in_nI (by omega) (by decide)) (by rw [nI_clamp (by omega)]) dX3_isUnder_30 ?_
  refine q_eqi (y := nI 3) (rfl) ?_
  refine lv_istore_n (lv' := [(2, .int (nI 3)), (3, .int (nI 0)), (0, .int (nI 4)), (1, .int (nI 2))]) hx hb dX3_isUnder_31 rfl hl (by decide) rfl (fun ls hl => ?_)
  refine lv_iinc (v := nI 1) (lv' := [(3, .int (nI 1)), (2, .int (nI 3)), (0, .int (nI 4)), (1, .int (nI 2))]) hx hb dX3_isUnder_32 hl (k := 1) rfl (by decide) (by decide) rfl (fun ls hl => ?_)
  refine lv_goto (tgt := 4) hx hb dX3_isUnder_35 (by decide) ?_
  refine lv_iload_n hx hb dX3_isUnder_4 rfl (lv_at hl 0 rfl) ?_
  refine lv_bipush (v := nI 7) hx hb dX3_isUnder_5 (by decide) ?_
  refine q_icmp_geN (tgt := 38) (a := 1) (b := 7) hx hb dX3_isUnder_7 (by decide) (by omega) (by omega) (fun h => absurd h (by omega)) (fun _ => ?_)
  refine lv_iload_n hx hb dX3_isUnder_10 rfl (lv_at hl 1 rfl) ?_
  refine lv_bipush (v := nI 6) hx hb dX3_isUnder_11 (by decide) ?_
  refine RO.callS S ks_X3_44 (c_X3_isWithin l D cI cJ t f g h τ (nI 3) (nI 6)) hK hP ⟨Nat.le_of_ble_eq_true rfl, Nat.le_of_ble_eq_true rfl⟩ hl.1 rfl rfl (Nat.le_of_ble_eq_true rfl) (Nat.zero_le _) (Nat.zero_le _) dX3_isUnder_13 ?_
  refine q_if_eqB (tgt := 38) hx hb dX3_isUnder_16 (by decide) (fun h => absurd (⟨nI_le (by omega) (by omega), nI_le (by omega) (by omega)⟩) h) (fun _ => ?_)
  refine lv_iload_n hx hb dX3_isUnder_19 rfl (lv_at hl 1 rfl) ?_
  refine lv_iload_n hx hb dX3_isUnder_20 rfl (lv_at hl 3 rfl) ?_
  refine q_icmp_neN (tgt := 26) (a := 3) (b := 2) hx hb dX3_isUnder_21 (by decide) (by omega) (by omega) (fun _ => ?_) (fun h => absurd h (by omega))
  refine va_gets hx hb hZ.2.2.1 va_S.rf hown (hU _ mF_X3_235) (fun _ h => h) dX3_isUnder_26 ?_
  refine lv_iload_n hx hb dX3_isUnder_29 rfl (lv_at hl 1 rfl) ?_
  refine va_ti hx hb hZ.2.2.2 va_S.rf (i := nI 3) (v := .int (kab 3)) (vp_in_nI (by omega) (by decide)) (by rw [nI_clamp (by omega)]) dX3_isUnder_30 ?_
  refine q_eqi (y := nI 2) (rfl) ?_
  refine lv_istore_n (lv' := [(2, .int (nI 2)), (3, .int (nI 1)), (0, .int (nI 4)), (1, .int (nI 2))]) hx hb dX3_isUnder_31 rfl hl (by decide) rfl (fun ls hl => ?_)
  refine lv_iinc (v := nI 2) (lv' := [(3, .int (nI 2)), (2, .int (nI 2)), (0, .int (nI 4)), (1, .int (nI 2))]) hx hb dX3_isUnder_32 hl (k := 1) rfl (by decide) (by decide) rfl (fun ls hl => ?_)
  refine lv_goto (tgt := 4) hx hb dX3_isUnder_35 (by decide) ?_
  refine lv_iload_n hx hb dX3_isUnder_4 rfl (lv_at hl 0 rfl) ?_
  refine lv_bipush (v := nI 7) hx hb dX3_isUnder_5 (by decide) ?_
  refine q_icmp_geN (tgt := 38) (a := 2) (b := 7) hx hb dX3_isUnder_7 (by decide) (by omega) (by omega) (fun h => absurd h (by omega)) (fun _ => ?_)
  refine lv_iload_n hx hb dX3_isUnder_10 rfl (lv_at hl 1 rfl) ?_
  refine lv_bipush (v := nI 6) hx hb dX3_isUnder_11 (by decide) ?_
  refine RO.callS S ks_X3_44 (c_X3_isWithin l D cI cJ t f g h τ (nI 2) (nI 6)) hK hP ⟨Nat.le_of_ble_eq_true rfl, Nat.le_of_ble_eq_true rfl⟩ hl.1 rfl rfl (Nat.le_of_ble_eq_true rfl) (Nat.zero_le _) (Nat.zero_le _) dX3_isUnder_13 ?_
  refine q_if_eqB (tgt := 38) hx hb dX3_isUnder_16 (by decide) (fun h => absurd (⟨nI_le (by omega) (by omega), nI_le (by omega) (by omega)⟩) h) (fun _ => ?_)
  refine lv_iload_n hx hb dX3_isUnder_19 rfl (lv_at hl 1 rfl) ?_
  refine lv_iload_n hx hb dX3_isUnder_20 rfl (lv_at hl 3 rfl) ?_
  refine q_icmp_neN (tgt := 26) (a := 2) (b := 2) hx hb dX3_isUnder_21 (by decide) (by omega) (by omega) (fun h => absurd h (by omega)) (fun _ => ?_)
  refine lv_iconst (v := nI 1) hx hb dX3_isUnder_24 (by decide) ?_
  exact RO.zret S hr hlk (bI_t (by decide)) dX3_isUnder_25
set_option maxRecDepth 100000 in
set_option maxHeartbeats 4000000 in
theorem c_X3_isUnder_4_3 (l : Launch) (D : va_G) (cI cJ : ClassId) (t : Nat → Nat) (f g h : Nat → Int32) (τ : Nat → Nat → Int32) (mt ka : Nat) : RZ mt ka l yX3_isUnder cX3_isUnder 4 (some .boolean) 1 D cI cJ (TW cI cJ t f g h τ) [.int (nI 4), .int (nI 3)] (.int (bI (uU 4 3))) := by
  refine RZ.of (by decide) (Nat.le_of_ble_eq_true rfl) (fun p e s m below meth c ls S hr hlk hK hP hZ hl => ?_)
  obtain ⟨hx, hb, hml, hown, hU⟩ := id S
  have hl : lv_has ls 4 [(0, .int (nI 4)), (1, .int (nI 3))] := hl
  refine lv_iload_n hx hb dX3_isUnder_0 rfl (lv_at hl 0 rfl) ?_
  refine lv_istore_n (lv' := [(2, .int (nI 4)), (0, .int (nI 4)), (1, .int (nI 3))]) hx hb dX3_isUnder_1 rfl hl (by decide) rfl (fun ls hl => ?_)
  refine lv_iconst (v := nI 0) hx hb dX3_isUnder_2 (by decide) ?_
  refine lv_istore_n (lv' := [(3, .int (nI 0)), (2, .int (nI 4)), (0, .int (nI 4)), (1, .int (nI 3))]) hx hb dX3_isUnder_3 rfl hl (by decide) rfl (fun ls hl => ?_)
  refine lv_iload_n hx hb dX3_isUnder_4 rfl (lv_at hl 0 rfl) ?_
  refine lv_bipush (v := nI 7) hx hb dX3_isUnder_5 (by decide) ?_
  refine q_icmp_geN (tgt := 38) (a := 0) (b := 7) hx hb dX3_isUnder_7 (by decide) (by omega) (by omega) (fun h => absurd h (by omega)) (fun _ => ?_)
  refine lv_iload_n hx hb dX3_isUnder_10 rfl (lv_at hl 1 rfl) ?_
  refine lv_bipush (v := nI 6) hx hb dX3_isUnder_11 (by decide) ?_
  refine RO.callS S ks_X3_44 (c_X3_isWithin l D cI cJ t f g h τ (nI 4) (nI 6)) hK hP ⟨Nat.le_of_ble_eq_true rfl, Nat.le_of_ble_eq_true rfl⟩ hl.1 rfl rfl (Nat.le_of_ble_eq_true rfl) (Nat.zero_le _) (Nat.zero_le _) dX3_isUnder_13 ?_
  refine q_if_eqB (tgt := 38) hx hb dX3_isUnder_16 (by decide) (fun h => absurd (⟨nI_le (by omega) (by omega), nI_le (by omega) (by omega)⟩) h) (fun _ => ?_)
  refine lv_iload_n hx hb dX3_isUnder_19 rfl (lv_at hl 1 rfl) ?_
  refine lv_iload_n hx hb dX3_isUnder_20 rfl (lv_at hl 3 rfl) ?_
  refine q_icmp_neN (tgt := 26) (a := 4) (b := 3) hx hb dX3_isUnder_21 (by decide) (by omega) (by omega) (fun _ => ?_) (fun h => absurd h (by omega))
  refine va_gets hx hb hZ.2.2.1 va_S.rf hown (hU _ mF_X3_235) (fun _ h => h) dX3_isUnder_26 ?_
  refine lv_iload_n hx hb dX3_isUnder_29 rfl (lv_at hl 1 rfl) ?_
  refine va_ti hx hb hZ.2.2.2 va_S.rf (i := nI 4) (v := .int (kab 4)) (vp_in_nI (by omega) (by decide)) (by rw [nI_clamp (by omega)]) dX3_isUnder_30 ?_
  refine q_eqi (y := nI 3) (rfl) ?_
  refine lv_istore_n (lv' := [(2, .int (nI 3)), (3, .int (nI 0)), (0, .int (nI 4)), (1, .int (nI 3))]) hx hb dX3_isUnder_31 rfl hl (by decide) rfl (fun ls hl => ?_)
  refine lv_iinc (v := nI 1) (lv' := [(3, .int (nI 1)), (2, .int (nI 3)), (0, .int (nI 4)), (1, .int (nI 3))]) hx hb dX3_isUnder_32 hl (k := 1) rfl (by decide) (by decide) rfl (fun ls hl => ?_)
  refine lv_goto (tgt := 4) hx hb dX3_isUnder_35 (by decide) ?_
  refine lv_iload_n hx hb dX3_isUnder_4 rfl (lv_at hl 0 rfl) ?_
  refine lv_bipush (v := nI 7) hx hb dX3_isUnder_5 (by decide) ?_
  refine q_icmp_geN (tgt := 38) (a := 1) (b := 7) hx hb dX3_isUnder_7 (by decide) (by omega) (by omega) (fun h => absurd h (by omega)) (fun _ => ?_)
  refine lv_iload_n hx hb dX3_isUnder_10 rfl (lv_at hl 1 rfl) ?_
  refine lv_bipush (v := nI 6) hx hb dX3_isUnder_11 (by decide) ?_
  refine RO.callS S ks_X3_44 (c_X3_isWithin l D cI cJ t f g h τ (nI 3) (nI 6)) hK hP ⟨Nat.le_of_ble_eq_true rfl, Nat.le_of_ble_eq_true rfl⟩ hl.1 rfl rfl (Nat.le_of_ble_eq_true rfl) (Nat.zero_le _) (Nat.zero_le _) dX3_isUnder_13 ?_
  refine q_if_eqB (tgt := 38) hx hb dX3_isUnder_16 (by decide) (fun h => absurd (⟨nI_le (by omega) (by omega), nI_le (by omega) (by omega)⟩) h) (fun _ => ?_)
  refine lv_iload_n hx hb dX3_isUnder_19 rfl (lv_at hl 1 rfl) ?_
  refine lv_iload_n hx hb dX3_isUnder_20 rfl (lv_at hl 3 rfl) ?_
  refine q_icmp_neN (tgt := 26) (a := 3) (b := 3) hx hb dX3_isUnder_21 (by decide) (by omega) (by omega) (fun h => absurd h (by omega)) (fun _ => ?_)
  refine lv_iconst (v := nI 1) hx hb dX3_isUnder_24 (by decide) ?_
  exact RO.zret S hr hlk (bI_t (by decide)) dX3_isUnder_25
set_option maxRecDepth 100000 in
set_option maxHeartbeats 4000000 in
theorem c_X3_isUnder_4_4 (l : Launch) (D : va_G) (cI cJ : ClassId) (t : Nat → Nat) (f g h : Nat → Int32) (τ : Nat → Nat → Int32) (mt ka : Nat) : RZ mt ka l yX3_isUnder cX3_isUnder 4 (some .boolean) 1 D cI cJ (TW cI cJ t f g h τ) [.int (nI 4), .int (nI 4)] (.int (bI (uU 4 4))) := by
  refine RZ.of (by decide) (Nat.le_of_ble_eq_true rfl) (fun p e s m below meth c ls S hr hlk hK hP hZ hl => ?_)
  obtain ⟨hx, hb, hml, hown, hU⟩ := id S
  have hl : lv_has ls 4 [(0, .int (nI 4)), (1, .int (nI 4))] := hl
  refine lv_iload_n hx hb dX3_isUnder_0 rfl (lv_at hl 0 rfl) ?_
  refine lv_istore_n (lv' := [(2, .int (nI 4)), (0, .int (nI 4)), (1, .int (nI 4))]) hx hb dX3_isUnder_1 rfl hl (by decide) rfl (fun ls hl => ?_)
  refine lv_iconst (v := nI 0) hx hb dX3_isUnder_2 (by decide) ?_
  refine lv_istore_n (lv' := [(3, .int (nI 0)), (2, .int (nI 4)), (0, .int (nI 4)), (1, .int (nI 4))]) hx hb dX3_isUnder_3 rfl hl (by decide) rfl (fun ls hl => ?_)
  refine lv_iload_n hx hb dX3_isUnder_4 rfl (lv_at hl 0 rfl) ?_
  refine lv_bipush (v := nI 7) hx hb dX3_isUnder_5 (by decide) ?_
  refine q_icmp_geN (tgt := 38) (a := 0) (b := 7) hx hb dX3_isUnder_7 (by decide) (by omega) (by omega) (fun h => absurd h (by omega)) (fun _ => ?_)
  refine lv_iload_n hx hb dX3_isUnder_10 rfl (lv_at hl 1 rfl) ?_
  refine lv_bipush (v := nI 6) hx hb dX3_isUnder_11 (by decide) ?_
  refine RO.callS S ks_X3_44 (c_X3_isWithin l D cI cJ t f g h τ (nI 4) (nI 6)) hK hP ⟨Nat.le_of_ble_eq_true rfl, Nat.le_of_ble_eq_true rfl⟩ hl.1 rfl rfl (Nat.le_of_ble_eq_true rfl) (Nat.zero_le _) (Nat.zero_le _) dX3_isUnder_13 ?_
  refine q_if_eqB (tgt := 38) hx hb dX3_isUnder_16 (by decide) (fun h => absurd (⟨nI_le (by omega) (by omega), nI_le (by omega) (by omega)⟩) h) (fun _ => ?_)
  refine lv_iload_n hx hb dX3_isUnder_19 rfl (lv_at hl 1 rfl) ?_
  refine lv_iload_n hx hb dX3_isUnder_20 rfl (lv_at hl 3 rfl) ?_
  refine q_icmp_neN (tgt := 26) (a := 4) (b := 4) hx hb dX3_isUnder_21 (by decide) (by omega) (by omega) (fun h => absurd h (by omega)) (fun _ => ?_)
  refine lv_iconst (v := nI 1) hx hb dX3_isUnder_24 (by decide) ?_
  exact RO.zret S hr hlk (bI_t (by decide)) dX3_isUnder_25
set_option maxRecDepth 100000 in
set_option maxHeartbeats 4000000 in
theorem c_X3_isUnder_4_5 (l : Launch) (D : va_G) (cI cJ : ClassId) (t : Nat → Nat) (f g h : Nat → Int32) (τ : Nat → Nat → Int32) (mt ka : Nat) : RZ mt ka l yX3_isUnder cX3_isUnder 4 (some .boolean) 1 D cI cJ (TW cI cJ t f g h τ) [.int (nI 4), .int (nI 5)] (.int (bI (uU 4 5))) := by
  refine RZ.of (by decide) (Nat.le_of_ble_eq_true rfl) (fun p e s m below meth c ls S hr hlk hK hP hZ hl => ?_)
  obtain ⟨hx, hb, hml, hown, hU⟩ := id S
  have hl : lv_has ls 4 [(0, .int (nI 4)), (1, .int (nI 5))] := hl
  refine lv_iload_n hx hb dX3_isUnder_0 rfl (lv_at hl 0 rfl) ?_
  refine lv_istore_n (lv' := [(2, .int (nI 4)), (0, .int (nI 4)), (1, .int (nI 5))]) hx hb dX3_isUnder_1 rfl hl (by decide) rfl (fun ls hl => ?_)
  refine lv_iconst (v := nI 0) hx hb dX3_isUnder_2 (by decide) ?_
  refine lv_istore_n (lv' := [(3, .int (nI 0)), (2, .int (nI 4)), (0, .int (nI 4)), (1, .int (nI 5))]) hx hb dX3_isUnder_3 rfl hl (by decide) rfl (fun ls hl => ?_)
  refine lv_iload_n hx hb dX3_isUnder_4 rfl (lv_at hl 0 rfl) ?_
  refine lv_bipush (v := nI 7) hx hb dX3_isUnder_5 (by decide) ?_
  refine q_icmp_geN (tgt := 38) (a := 0) (b := 7) hx hb dX3_isUnder_7 (by decide) (by omega) (by omega) (fun h => absurd h (by omega)) (fun _ => ?_)
  refine lv_iload_n hx hb dX3_isUnder_10 rfl (lv_at hl 1 rfl) ?_
  refine lv_bipush (v := nI 6) hx hb dX3_isUnder_11 (by decide) ?_
  refine RO.callS S ks_X3_44 (c_X3_isWithin l D cI cJ t f g h τ (nI 4) (nI 6)) hK hP ⟨Nat.le_of_ble_eq_true rfl, Nat.le_of_ble_eq_true rfl⟩ hl.1 rfl rfl (Nat.le_of_ble_eq_true rfl) (Nat.zero_le _) (Nat.zero_le _) dX3_isUnder_13 ?_
  refine q_if_eqB (tgt := 38) hx hb dX3_isUnder_16 (by decide) (fun h => absurd (⟨nI_le (by omega) (by omega), nI_le (by omega) (by omega)⟩) h) (fun _ => ?_)
  refine lv_iload_n hx hb dX3_isUnder_19 rfl (lv_at hl 1 rfl) ?_
  refine lv_iload_n hx hb dX3_isUnder_20 rfl (lv_at hl 3 rfl) ?_
  refine q_icmp_neN (tgt := 26) (a := 4) (b := 5) hx hb dX3_isUnder_21 (by decide) (by omega) (by omega) (fun _ => ?_) (fun h => absurd h (by omega))
  refine va_gets hx hb hZ.2.2.1 va_S.rf hown (hU _ mF_X3_235) (fun _ h => h) dX3_isUnder_26 ?_
  refine lv_iload_n hx hb dX3_isUnder_29 rfl (lv_at hl 1 rfl) ?_
  refine va_ti hx hb hZ.2.2.2 va_S.rf (i := nI 4) (v := .int (kab 4)) (vp_in_nI (by omega) (by decide)) (by rw [nI_clamp (by omega)]) dX3_isUnder_30 ?_
  refine q_eqi (y := nI 3) (rfl) ?_
  refine lv_istore_n (lv' := [(2, .int (nI 3)), (3, .int (nI 0)), (0, .int (nI 4)), (1, .int (nI 5))]) hx hb dX3_isUnder_31 rfl hl (by decide) rfl (fun ls hl => ?_)
  refine lv_iinc (v := nI 1) (lv' := [(3, .int (nI 1)), (2, .int (nI 3)), (0, .int (nI 4)), (1, .int (nI 5))]) hx hb dX3_isUnder_32 hl (k := 1) rfl (by decide) (by decide) rfl (fun ls hl => ?_)
  refine lv_goto (tgt := 4) hx hb dX3_isUnder_35 (by decide) ?_
  refine lv_iload_n hx hb dX3_isUnder_4 rfl (lv_at hl 0 rfl) ?_
  refine lv_bipush (v := nI 7) hx hb dX3_isUnder_5 (by decide) ?_
  refine q_icmp_geN (tgt := 38) (a := 1) (b := 7) hx hb dX3_isUnder_7 (by decide) (by omega) (by omega) (fun h => absurd h (by omega)) (fun _ => ?_)
  refine lv_iload_n hx hb dX3_isUnder_10 rfl (lv_at hl 1 rfl) ?_
  refine lv_bipush (v := nI 6) hx hb dX3_isUnder_11 (by decide) ?_
  refine RO.callS S ks_X3_44 (c_X3_isWithin l D cI cJ t f g h τ (nI 3) (nI 6)) hK hP ⟨Nat.le_of_ble_eq_true rfl, Nat.le_of_ble_eq_true rfl⟩ hl.1 rfl rfl (Nat.le_of_ble_eq_true rfl) (Nat.zero_le _) (Nat.zero_le _) dX3_isUnder_13 ?_
  refine q_if_eqB (tgt := 38) hx hb dX3_isUnder_16 (by decide) (fun h => absurd (⟨nI_le (by omega) (by omega), nI_le (by omega) (by omega)⟩) h) (fun _ => ?_)
  refine lv_iload_n hx hb dX3_isUnder_19 rfl (lv_at hl 1 rfl) ?_
  refine lv_iload_n hx hb dX3_isUnder_20 rfl (lv_at hl 3 rfl) ?_
  refine q_icmp_neN (tgt := 26) (a := 3) (b := 5) hx hb dX3_isUnder_21 (by decide) (by omega) (by omega) (fun _ => ?_) (fun h => absurd h (by omega))
  refine va_gets hx hb hZ.2.2.1 va_S.rf hown (hU _ mF_X3_235) (fun _ h => h) dX3_isUnder_26 ?_
  refine lv_iload_n hx hb dX3_isUnder_29 rfl (lv_at hl 1 rfl) ?_
  refine va_ti hx hb hZ.2.2.2 va_S.rf (i := nI 3) (v := .int (kab 3)) (vp_in_nI (by omega) (by decide)) (by rw [nI_clamp (by omega)]) dX3_isUnder_30 ?_
  refine q_eqi (y := nI 2) (rfl) ?_
  refine lv_istore_n (lv' := [(2, .int (nI 2)), (3, .int (nI 1)), (0, .int (nI 4)), (1, .int (nI 5))]) hx hb dX3_isUnder_31 rfl hl (by decide) rfl (fun ls hl => ?_)
  refine lv_iinc (v := nI 2) (lv' := [(3, .int (nI 2)), (2, .int (nI 2)), (0, .int (nI 4)), (1, .int (nI 5))]) hx hb dX3_isUnder_32 hl (k := 1) rfl (by decide) (by decide) rfl (fun ls hl => ?_)
  refine lv_goto (tgt := 4) hx hb dX3_isUnder_35 (by decide) ?_
  refine lv_iload_n hx hb dX3_isUnder_4 rfl (lv_at hl 0 rfl) ?_
  refine lv_bipush (v := nI 7) hx hb dX3_isUnder_5 (by decide) ?_
  refine q_icmp_geN (tgt := 38) (a := 2) (b := 7) hx hb dX3_isUnder_7 (by decide) (by omega) (by omega) (fun h => absurd h (by omega)) (fun _ => ?_)
  refine lv_iload_n hx hb dX3_isUnder_10 rfl (lv_at hl 1 rfl) ?_
  refine lv_bipush (v := nI 6) hx hb dX3_isUnder_11 (by decide) ?_
  refine RO.callS S ks_X3_44 (c_X3_isWithin l D cI cJ t f g h τ (nI 2) (nI 6)) hK hP ⟨Nat.le_of_ble_eq_true rfl, Nat.le_of_ble_eq_true rfl⟩ hl.1 rfl rfl (Nat.le_of_ble_eq_true rfl) (Nat.zero_le _) (Nat.zero_le _) dX3_isUnder_13 ?_
  refine q_if_eqB (tgt := 38) hx hb dX3_isUnder_16 (by decide) (fun h => absurd (⟨nI_le (by omega) (by omega), nI_le (by omega) (by omega)⟩) h) (fun _ => ?_)
  refine lv_iload_n hx hb dX3_isUnder_19 rfl (lv_at hl 1 rfl) ?_
  refine lv_iload_n hx hb dX3_isUnder_20 rfl (lv_at hl 3 rfl) ?_
  refine q_icmp_neN (tgt := 26) (a := 2) (b := 5) hx hb dX3_isUnder_21 (by decide) (by omega) (by omega) (fun _ => ?_) (fun h => absurd h (by omega))
  refine va_gets hx hb hZ.2.2.1 va_S.rf hown (hU _ mF_X3_235) (fun _ h => h) dX3_isUnder_26 ?_
  refine lv_iload_n hx hb dX3_isUnder_29 rfl (lv_at hl 1 rfl) ?_
  refine va_ti hx hb hZ.2.2.2 va_S.rf (i := nI 2) (v := .int (kab 2)) (vp_in_nI (by omega) (by decide)) (by rw [nI_clamp (by omega)]) dX3_isUnder_30 ?_
  refine q_eqi (y := nI 0) (rfl) ?_
  refine lv_istore_n (lv' := [(2, .int (nI 0)), (3, .int (nI 2)), (0, .int (nI 4)), (1, .int (nI 5))]) hx hb dX3_isUnder_31 rfl hl (by decide) rfl (fun ls hl => ?_)
  refine lv_iinc (v := nI 3) (lv' := [(3, .int (nI 3)), (2, .int (nI 0)), (0, .int (nI 4)), (1, .int (nI 5))]) hx hb dX3_isUnder_32 hl (k := 1) rfl (by decide) (by decide) rfl (fun ls hl => ?_)
  refine lv_goto (tgt := 4) hx hb dX3_isUnder_35 (by decide) ?_
  refine lv_iload_n hx hb dX3_isUnder_4 rfl (lv_at hl 0 rfl) ?_
  refine lv_bipush (v := nI 7) hx hb dX3_isUnder_5 (by decide) ?_
  refine q_icmp_geN (tgt := 38) (a := 3) (b := 7) hx hb dX3_isUnder_7 (by decide) (by omega) (by omega) (fun h => absurd h (by omega)) (fun _ => ?_)
  refine lv_iload_n hx hb dX3_isUnder_10 rfl (lv_at hl 1 rfl) ?_
  refine lv_bipush (v := nI 6) hx hb dX3_isUnder_11 (by decide) ?_
  refine RO.callS S ks_X3_44 (c_X3_isWithin l D cI cJ t f g h τ (nI 0) (nI 6)) hK hP ⟨Nat.le_of_ble_eq_true rfl, Nat.le_of_ble_eq_true rfl⟩ hl.1 rfl rfl (Nat.le_of_ble_eq_true rfl) (Nat.zero_le _) (Nat.zero_le _) dX3_isUnder_13 ?_
  refine q_if_eqB (tgt := 38) hx hb dX3_isUnder_16 (by decide) (fun h => absurd (⟨nI_le (by omega) (by omega), nI_le (by omega) (by omega)⟩) h) (fun _ => ?_)
  refine lv_iload_n hx hb dX3_isUnder_19 rfl (lv_at hl 1 rfl) ?_
  refine lv_iload_n hx hb dX3_isUnder_20 rfl (lv_at hl 3 rfl) ?_
  refine q_icmp_neN (tgt := 26) (a := 0) (b := 5) hx hb dX3_isUnder_21 (by decide) (by omega) (by omega) (fun _ => ?_) (fun h => absurd h (by omega))
  refine va_gets hx hb hZ.2.2.1 va_S.rf hown (hU _ mF_X3_235) (fun _ h => h) dX3_isUnder_26 ?_
  refine lv_iload_n hx hb dX3_isUnder_29 rfl (lv_at hl 1 rfl) ?_
  refine va_ti hx hb hZ.2.2.2 va_S.rf (i := nI 0) (v := .int (kab 0)) (vp_in_nI (by omega) (by decide)) (by rw [nI_clamp (by omega)]) dX3_isUnder_30 ?_
  refine q_eqi (y := (-1)) (rfl) ?_
  refine lv_istore_n (lv' := [(2, .int (-1)), (3, .int (nI 3)), (0, .int (nI 4)), (1, .int (nI 5))]) hx hb dX3_isUnder_31 rfl hl (by decide) rfl (fun ls hl => ?_)
  refine lv_iinc (v := nI 4) (lv' := [(3, .int (nI 4)), (2, .int (-1)), (0, .int (nI 4)), (1, .int (nI 5))]) hx hb dX3_isUnder_32 hl (k := 1) rfl (by decide) (by decide) rfl (fun ls hl => ?_)
  refine lv_goto (tgt := 4) hx hb dX3_isUnder_35 (by decide) ?_
  refine lv_iload_n hx hb dX3_isUnder_4 rfl (lv_at hl 0 rfl) ?_
  refine lv_bipush (v := nI 7) hx hb dX3_isUnder_5 (by decide) ?_
  refine q_icmp_geN (tgt := 38) (a := 4) (b := 7) hx hb dX3_isUnder_7 (by decide) (by omega) (by omega) (fun h => absurd h (by omega)) (fun _ => ?_)
  refine lv_iload_n hx hb dX3_isUnder_10 rfl (lv_at hl 1 rfl) ?_
  refine lv_bipush (v := nI 6) hx hb dX3_isUnder_11 (by decide) ?_
  refine RO.callS S ks_X3_44 (c_X3_isWithin l D cI cJ t f g h τ (-1) (nI 6)) hK hP ⟨Nat.le_of_ble_eq_true rfl, Nat.le_of_ble_eq_true rfl⟩ hl.1 rfl rfl (Nat.le_of_ble_eq_true rfl) (Nat.zero_le _) (Nat.zero_le _) dX3_isUnder_13 ?_
  refine q_if_eqB (tgt := 38) hx hb dX3_isUnder_16 (by decide) (fun _ => ?_) (fun h => absurd h (by decide))
  refine lv_iconst (v := nI 0) hx hb dX3_isUnder_38 (by decide) ?_
  exact RO.zret S hr hlk (bI_f (by decide)) dX3_isUnder_39
set_option maxRecDepth 100000 in
set_option maxHeartbeats 4000000 in
theorem c_X3_isUnder_4_6 (l : Launch) (D : va_G) (cI cJ : ClassId) (t : Nat → Nat) (f g h : Nat → Int32) (τ : Nat → Nat → Int32) (mt ka : Nat) : RZ mt ka l yX3_isUnder cX3_isUnder 4 (some .boolean) 1 D cI cJ (TW cI cJ t f g h τ) [.int (nI 4), .int (nI 6)] (.int (bI (uU 4 6))) := by
  refine RZ.of (by decide) (Nat.le_of_ble_eq_true rfl) (fun p e s m below meth c ls S hr hlk hK hP hZ hl => ?_)
  obtain ⟨hx, hb, hml, hown, hU⟩ := id S
  have hl : lv_has ls 4 [(0, .int (nI 4)), (1, .int (nI 6))] := hl
  refine lv_iload_n hx hb dX3_isUnder_0 rfl (lv_at hl 0 rfl) ?_
  refine lv_istore_n (lv' := [(2, .int (nI 4)), (0, .int (nI 4)), (1, .int (nI 6))]) hx hb dX3_isUnder_1 rfl hl (by decide) rfl (fun ls hl => ?_)
  refine lv_iconst (v := nI 0) hx hb dX3_isUnder_2 (by decide) ?_
  refine lv_istore_n (lv' := [(3, .int (nI 0)), (2, .int (nI 4)), (0, .int (nI 4)), (1, .int (nI 6))]) hx hb dX3_isUnder_3 rfl hl (by decide) rfl (fun ls hl => ?_)
  refine lv_iload_n hx hb dX3_isUnder_4 rfl (lv_at hl 0 rfl) ?_
  refine lv_bipush (v := nI 7) hx hb dX3_isUnder_5 (by decide) ?_
  refine q_icmp_geN (tgt := 38) (a := 0) (b := 7) hx hb dX3_isUnder_7 (by decide) (by omega) (by omega) (fun h => absurd h (by omega)) (fun _ => ?_)
  refine lv_iload_n hx hb dX3_isUnder_10 rfl (lv_at hl 1 rfl) ?_
  refine lv_bipush (v := nI 6) hx hb dX3_isUnder_11 (by decide) ?_
  refine RO.callS S ks_X3_44 (c_X3_isWithin l D cI cJ t f g h τ (nI 4) (nI 6)) hK hP ⟨Nat.le_of_ble_eq_true rfl, Nat.le_of_ble_eq_true rfl⟩ hl.1 rfl rfl (Nat.le_of_ble_eq_true rfl) (Nat.zero_le _) (Nat.zero_le _) dX3_isUnder_13 ?_
  refine q_if_eqB (tgt := 38) hx hb dX3_isUnder_16 (by decide) (fun h => absurd (⟨nI_le (by omega) (by omega), nI_le (by omega) (by omega)⟩) h) (fun _ => ?_)
  refine lv_iload_n hx hb dX3_isUnder_19 rfl (lv_at hl 1 rfl) ?_
  refine lv_iload_n hx hb dX3_isUnder_20 rfl (lv_at hl 3 rfl) ?_
  refine q_icmp_neN (tgt := 26) (a := 4) (b := 6) hx hb dX3_isUnder_21 (by decide) (by omega) (by omega) (fun _ => ?_) (fun h => absurd h (by omega))
  refine va_gets hx hb hZ.2.2.1 va_S.rf hown (hU _ mF_X3_235) (fun _ h => h) dX3_isUnder_26 ?_
  refine lv_iload_n hx hb dX3_isUnder_29 rfl (lv_at hl 1 rfl) ?_
  refine va_ti hx hb hZ.2.2.2 va_S.rf (i := nI 4) (v := .int (kab 4)) (vp_in_nI (by omega) (by decide)) (by rw [nI_clamp (by omega)]) dX3_isUnder_30 ?_
  refine q_eqi (y := nI 3) (rfl) ?_
  refine lv_istore_n (lv' := [(2, .int (nI 3)), (3, .int (nI 0)), (0, .int (nI 4)), (1, .int (nI 6))]) hx hb dX3_isUnder_31 rfl hl (by decide) rfl (fun ls hl => ?_)
  refine lv_iinc (v := nI 1) (lv' := [(3, .int (nI 1)), (2, .int (nI 3)), (0, .int (nI 4)), (1, .int (nI 6))]) hx hb dX3_isUnder_32 hl (k := 1) rfl (by decide) (by decide) rfl (fun ls hl => ?_)
  refine lv_goto (tgt := 4) hx hb dX3_isUnder_35 (by decide) ?_
  refine lv_iload_n hx hb dX3_isUnder_4 rfl (lv_at hl 0 rfl) ?_
  refine lv_bipush (v := nI 7) hx hb dX3_isUnder_5 (by decide) ?_
  refine q_icmp_geN (tgt := 38) (a := 1) (b := 7) hx hb dX3_isUnder_7 (by decide) (by omega) (by omega) (fun h => absurd h (by omega)) (fun _ => ?_)
  refine lv_iload_n hx hb dX3_isUnder_10 rfl (lv_at hl 1 rfl) ?_
  refine lv_bipush (v := nI 6) hx hb dX3_isUnder_11 (by decide) ?_
  refine RO.callS S ks_X3_44 (c_X3_isWithin l D cI cJ t f g h τ (nI 3) (nI 6)) hK hP ⟨Nat.le_of_ble_eq_true rfl, Nat.le_of_ble_eq_true rfl⟩ hl.1 rfl rfl (Nat.le_of_ble_eq_true rfl) (Nat.zero_le _) (Nat.zero_le _) dX3_isUnder_13 ?_
  refine q_if_eqB (tgt := 38) hx hb dX3_isUnder_16 (by decide) (fun h => absurd (⟨nI_le (by omega) (by omega), nI_le (by omega) (by omega)⟩) h) (fun _ => ?_)
  refine lv_iload_n hx hb dX3_isUnder_19 rfl (lv_at hl 1 rfl) ?_
  refine lv_iload_n hx hb dX3_isUnder_20 rfl (lv_at hl 3 rfl) ?_
  refine q_icmp_neN (tgt := 26) (a := 3) (b := 6) hx hb dX3_isUnder_21 (by decide) (by omega) (by omega) (fun _ => ?_) (fun h => absurd h (by omega))
  refine va_gets hx hb hZ.2.2.1 va_S.rf hown (hU _ mF_X3_235) (fun _ h => h) dX3_isUnder_26 ?_
  refine lv_iload_n hx hb dX3_isUnder_29 rfl (lv_at hl 1 rfl) ?_
  refine va_ti hx hb hZ.2.2.2 va_S.rf (i := nI 3) (v := .int (kab 3)) (vp_in_nI (by omega) (by decide)) (by rw [nI_clamp (by omega)]) dX3_isUnder_30 ?_
  refine q_eqi (y := nI 2) (rfl) ?_
  refine lv_istore_n (lv' := [(2, .int (nI 2)), (3, .int (nI 1)), (0, .int (nI 4)), (1, .int (nI 6))]) hx hb dX3_isUnder_31 rfl hl (by decide) rfl (fun ls hl => ?_)
  refine lv_iinc (v := nI 2) (lv' := [(3, .int (nI 2)), (2, .int (nI 2)), (0, .int (nI 4)), (1, .int (nI 6))]) hx hb dX3_isUnder_32 hl (k := 1) rfl (by decide) (by decide) rfl (fun ls hl => ?_)
  refine lv_goto (tgt := 4) hx hb dX3_isUnder_35 (by decide) ?_
  refine lv_iload_n hx hb dX3_isUnder_4 rfl (lv_at hl 0 rfl) ?_
  refine lv_bipush (v := nI 7) hx hb dX3_isUnder_5 (by decide) ?_
  refine q_icmp_geN (tgt := 38) (a := 2) (b := 7) hx hb dX3_isUnder_7 (by decide) (by omega) (by omega) (fun h => absurd h (by omega)) (fun _ => ?_)
  refine lv_iload_n hx hb dX3_isUnder_10 rfl (lv_at hl 1 rfl) ?_
  refine lv_bipush (v := nI 6) hx hb dX3_isUnder_11 (by decide) ?_
  refine RO.callS S ks_X3_44 (c_X3_isWithin l D cI cJ t f g h τ (nI 2) (nI 6)) hK hP ⟨Nat.le_of_ble_eq_true rfl, Nat.le_of_ble_eq_true rfl⟩ hl.1 rfl rfl (Nat.le_of_ble_eq_true rfl) (Nat.zero_le _) (Nat.zero_le _) dX3_isUnder_13 ?_
  refine q_if_eqB (tgt := 38) hx hb dX3_isUnder_16 (by decide) (fun h => absurd (⟨nI_le (by omega) (by omega), nI_le (by omega) (by omega)⟩) h) (fun _ => ?_)
  refine lv_iload_n hx hb dX3_isUnder_19 rfl (lv_at hl 1 rfl) ?_
  refine lv_iload_n hx hb dX3_isUnder_20 rfl (lv_at hl 3 rfl) ?_
  refine q_icmp_neN (tgt := 26) (a := 2) (b := 6) hx hb dX3_isUnder_21 (by decide) (by omega) (by omega) (fun _ => ?_) (fun h => absurd h (by omega))
  refine va_gets hx hb hZ.2.2.1 va_S.rf hown (hU _ mF_X3_235) (fun _ h => h) dX3_isUnder_26 ?_
  refine lv_iload_n hx hb dX3_isUnder_29 rfl (lv_at hl 1 rfl) ?_
  refine va_ti hx hb hZ.2.2.2 va_S.rf (i := nI 2) (v := .int (kab 2)) (vp_in_nI (by omega) (by decide)) (by rw [nI_clamp (by omega)]) dX3_isUnder_30 ?_
  refine q_eqi (y := nI 0) (rfl) ?_
  refine lv_istore_n (lv' := [(2, .int (nI 0)), (3, .int (nI 2)), (0, .int (nI 4)), (1, .int (nI 6))]) hx hb dX3_isUnder_31 rfl hl (by decide) rfl (fun ls hl => ?_)
  refine lv_iinc (v := nI 3) (lv' := [(3, .int (nI 3)), (2, .int (nI 0)), (0, .int (nI 4)), (1, .int (nI 6))]) hx hb dX3_isUnder_32 hl (k := 1) rfl (by decide) (by decide) rfl (fun ls hl => ?_)
  refine lv_goto (tgt := 4) hx hb dX3_isUnder_35 (by decide) ?_
  refine lv_iload_n hx hb dX3_isUnder_4 rfl (lv_at hl 0 rfl) ?_
  refine lv_bipush (v := nI 7) hx hb dX3_isUnder_5 (by decide) ?_
  refine q_icmp_geN (tgt := 38) (a := 3) (b := 7) hx hb dX3_isUnder_7 (by decide) (by omega) (by omega) (fun h => absurd h (by omega)) (fun _ => ?_)
  refine lv_iload_n hx hb dX3_isUnder_10 rfl (lv_at hl 1 rfl) ?_
  refine lv_bipush (v := nI 6) hx hb dX3_isUnder_11 (by decide) ?_
  refine RO.callS S ks_X3_44 (c_X3_isWithin l D cI cJ t f g h τ (nI 0) (nI 6)) hK hP ⟨Nat.le_of_ble_eq_true rfl, Nat.le_of_ble_eq_true rfl⟩ hl.1 rfl rfl (Nat.le_of_ble_eq_true rfl) (Nat.zero_le _) (Nat.zero_le _) dX3_isUnder_13 ?_
  refine q_if_eqB (tgt := 38) hx hb dX3_isUnder_16 (by decide) (fun h => absurd (⟨nI_le (by omega) (by omega), nI_le (by omega) (by omega)⟩) h) (fun _ => ?_)
  refine lv_iload_n hx hb dX3_isUnder_19 rfl (lv_at hl 1 rfl) ?_
  refine lv_iload_n hx hb dX3_isUnder_20 rfl (lv_at hl 3 rfl) ?_
  refine q_icmp_neN (tgt := 26) (a := 0) (b := 6) hx hb dX3_isUnder_21 (by decide) (by omega) (by omega) (fun _ => ?_) (fun h => absurd h (by omega))
  refine va_gets hx hb hZ.2.2.1 va_S.rf hown (hU _ mF_X3_235) (fun _ h => h) dX3_isUnder_26 ?_
  refine lv_iload_n hx hb dX3_isUnder_29 rfl (lv_at hl 1 rfl) ?_
  refine va_ti hx hb hZ.2.2.2 va_S.rf (i := nI 0) (v := .int (kab 0)) (vp_in_nI (by omega) (by decide)) (by rw [nI_clamp (by omega)]) dX3_isUnder_30 ?_
  refine q_eqi (y := (-1)) (rfl) ?_
  refine lv_istore_n (lv' := [(2, .int (-1)), (3, .int (nI 3)), (0, .int (nI 4)), (1, .int (nI 6))]) hx hb dX3_isUnder_31 rfl hl (by decide) rfl (fun ls hl => ?_)
  refine lv_iinc (v := nI 4) (lv' := [(3, .int (nI 4)), (2, .int (-1)), (0, .int (nI 4)), (1, .int (nI 6))]) hx hb dX3_isUnder_32 hl (k := 1) rfl (by decide) (by decide) rfl (fun ls hl => ?_)
  refine lv_goto (tgt := 4) hx hb dX3_isUnder_35 (by decide) ?_
  refine lv_iload_n hx hb dX3_isUnder_4 rfl (lv_at hl 0 rfl) ?_
  refine lv_bipush (v := nI 7) hx hb dX3_isUnder_5 (by decide) ?_
  refine q_icmp_geN (tgt := 38) (a := 4) (b := 7) hx hb dX3_isUnder_7 (by decide) (by omega) (by omega) (fun h => absurd h (by omega)) (fun _ => ?_)
  refine lv_iload_n hx hb dX3_isUnder_10 rfl (lv_at hl 1 rfl) ?_
  refine lv_bipush (v := nI 6) hx hb dX3_isUnder_11 (by decide) ?_
  refine RO.callS S ks_X3_44 (c_X3_isWithin l D cI cJ t f g h τ (-1) (nI 6)) hK hP ⟨Nat.le_of_ble_eq_true rfl, Nat.le_of_ble_eq_true rfl⟩ hl.1 rfl rfl (Nat.le_of_ble_eq_true rfl) (Nat.zero_le _) (Nat.zero_le _) dX3_isUnder_13 ?_
  refine q_if_eqB (tgt := 38) hx hb dX3_isUnder_16 (by decide) (fun _ => ?_) (fun h => absurd h (by decide))
  refine lv_iconst (v := nI 0) hx hb dX3_isUnder_38 (by decide) ?_
  exact RO.zret S hr hlk (bI_f (by decide)) dX3_isUnder_39
set_option maxRecDepth 100000 in
set_option maxHeartbeats 4000000 in
theorem c_X3_isUnder_5_0 (l : Launch) (D : va_G) (cI cJ : ClassId) (t : Nat → Nat) (f g h : Nat → Int32) (τ : Nat → Nat → Int32) (mt ka : Nat) : RZ mt ka l yX3_isUnder cX3_isUnder 4 (some .boolean) 1 D cI cJ (TW cI cJ t f g h τ) [.int (nI 5), .int (nI 0)] (.int (bI (uU 5 0))) := by
  refine RZ.of (by decide) (Nat.le_of_ble_eq_true rfl) (fun p e s m below meth c ls S hr hlk hK hP hZ hl => ?_)
  obtain ⟨hx, hb, hml, hown, hU⟩ := id S
  have hl : lv_has ls 4 [(0, .int (nI 5)), (1, .int (nI 0))] := hl
  refine lv_iload_n hx hb dX3_isUnder_0 rfl (lv_at hl 0 rfl) ?_
  refine lv_istore_n (lv' := [(2, .int (nI 5)), (0, .int (nI 5)), (1, .int (nI 0))]) hx hb dX3_isUnder_1 rfl hl (by decide) rfl (fun ls hl => ?_)
  refine lv_iconst (v := nI 0) hx hb dX3_isUnder_2 (by decide) ?_
  refine lv_istore_n (lv' := [(3, .int (nI 0)), (2, .int (nI 5)), (0, .int (nI 5)), (1, .int (nI 0))]) hx hb dX3_isUnder_3 rfl hl (by decide) rfl (fun ls hl => ?_)
  refine lv_iload_n hx hb dX3_isUnder_4 rfl (lv_at hl 0 rfl) ?_
  refine lv_bipush (v := nI 7) hx hb dX3_isUnder_5 (by decide) ?_
  refine q_icmp_geN (tgt := 38) (a := 0) (b := 7) hx hb dX3_isUnder_7 (by decide) (by omega) (by omega) (fun h => absurd h (by omega)) (fun _ => ?_)
  refine lv_iload_n hx hb dX3_isUnder_10 rfl (lv_at hl 1 rfl) ?_
  refine lv_bipush (v := nI 6) hx hb dX3_isUnder_11 (by decide) ?_
  refine RO.callS S ks_X3_44 (c_X3_isWithin l D cI cJ t f g h τ (nI 5) (nI 6)) hK hP ⟨Nat.le_of_ble_eq_true rfl, Nat.le_of_ble_eq_true rfl⟩ hl.1 rfl rfl (Nat.le_of_ble_eq_true rfl) (Nat.zero_le _) (Nat.zero_le _) dX3_isUnder_13 ?_
  refine q_if_eqB (tgt := 38) hx hb dX3_isUnder_16 (by decide) (fun h => absurd (⟨nI_le (by omega) (by omega), nI_le (by omega) (by omega)⟩) h) (fun _ => ?_)
  refine lv_iload_n hx hb dX3_isUnder_19 rfl (lv_at hl 1 rfl) ?_
  refine lv_iload_n hx hb dX3_isUnder_20 rfl (lv_at hl 3 rfl) ?_
  refine q_icmp_neN (tgt := 26) (a := 5) (b := 0) hx hb dX3_isUnder_21 (by decide) (by omega) (by omega) (fun _ => ?_) (fun h => absurd h (by omega))
  refine va_gets hx hb hZ.2.2.1 va_S.rf hown (hU _ mF_X3_235) (fun _ h => h) dX3_isUnder_26 ?_
  refine lv_iload_n hx hb dX3_isUnder_29 rfl (lv_at hl 1 rfl) ?_
  refine va_ti hx hb hZ.2.2.2 va_S.rf (i := nI 5) (v := .int (kab 5)) (vp_in_nI (by omega) (by decide)) (by rw [nI_clamp (by omega)]) dX3_isUnder_30 ?_
  refine q_eqi (y := nI 0) (rfl) ?_
  refine lv_istore_n (lv' := [(2, .int (nI 0)), (3, .int (nI 0)), (0, .int (nI 5)), (1, .int (nI 0))]) hx hb dX3_isUnder_31 rfl hl (by decide) rfl (fun ls hl => ?_)
  refine lv_iinc (v := nI 1) (lv' := [(3, .int (nI 1)), (2, .int (nI 0)), (0, .int (nI 5)), (1, .int (nI 0))]) hx hb dX3_isUnder_32 hl (k := 1) rfl (by decide) (by decide) rfl (fun ls hl => ?_)
  refine lv_goto (tgt := 4) hx hb dX3_isUnder_35 (by decide) ?_
  refine lv_iload_n hx hb dX3_isUnder_4 rfl (lv_at hl 0 rfl) ?_
  refine lv_bipush (v := nI 7) hx hb dX3_isUnder_5 (by decide) ?_
  refine q_icmp_geN (tgt := 38) (a := 1) (b := 7) hx hb dX3_isUnder_7 (by decide) (by omega) (by omega) (fun h => absurd h (by omega)) (fun _ => ?_)
  refine lv_iload_n hx hb dX3_isUnder_10 rfl (lv_at hl 1 rfl) ?_
  refine lv_bipush (v := nI 6) hx hb dX3_isUnder_11 (by decide) ?_
  refine RO.callS S ks_X3_44 (c_X3_isWithin l D cI cJ t f g h τ (nI 0) (nI 6)) hK hP ⟨Nat.le_of_ble_eq_true rfl, Nat.le_of_ble_eq_true rfl⟩ hl.1 rfl rfl (Nat.le_of_ble_eq_true rfl) (Nat.zero_le _) (Nat.zero_le _) dX3_isUnder_13 ?_
  refine q_if_eqB (tgt := 38) hx hb dX3_isUnder_16 (by decide) (fun h => absurd (⟨nI_le (by omega) (by omega), nI_le (by omega) (by omega)⟩) h) (fun _ => ?_)
  refine lv_iload_n hx hb dX3_isUnder_19 rfl (lv_at hl 1 rfl) ?_
  refine lv_iload_n hx hb dX3_isUnder_20 rfl (lv_at hl 3 rfl) ?_
  refine q_icmp_neN (tgt := 26) (a := 0) (b := 0) hx hb dX3_isUnder_21 (by decide) (by omega) (by omega) (fun h => absurd h (by omega)) (fun _ => ?_)
  refine lv_iconst (v := nI 1) hx hb dX3_isUnder_24 (by decide) ?_
  exact RO.zret S hr hlk (bI_t (by decide)) dX3_isUnder_25
set_option maxRecDepth 100000 in
set_option maxHeartbeats 4000000 in
theorem c_X3_isUnder_5_1 (l : Launch) (D : va_G) (cI cJ : ClassId) (t : Nat → Nat) (f g h : Nat → Int32) (τ : Nat → Nat → Int32) (mt ka : Nat) : RZ mt ka l yX3_isUnder cX3_isUnder 4 (some .boolean) 1 D cI cJ (TW cI cJ t f g h τ) [.int (nI 5), .int (nI 1)] (.int (bI (uU 5 1))) := by
  refine RZ.of (by decide) (Nat.le_of_ble_eq_true rfl) (fun p e s m below meth c ls S hr hlk hK hP hZ hl => ?_)
  obtain ⟨hx, hb, hml, hown, hU⟩ := id S
  have hl : lv_has ls 4 [(0, .int (nI 5)), (1, .int (nI 1))] := hl
  refine lv_iload_n hx hb dX3_isUnder_0 rfl (lv_at hl 0 rfl) ?_
  refine lv_istore_n (lv' := [(2, .int (nI 5)), (0, .int (nI 5)), (1, .int (nI 1))]) hx hb dX3_isUnder_1 rfl hl (by decide) rfl (fun ls hl => ?_)
  refine lv_iconst (v := nI 0) hx hb dX3_isUnder_2 (by decide) ?_
  refine lv_istore_n (lv' := [(3, .int (nI 0)), (2, .int (nI 5)), (0, .int (nI 5)), (1, .int (nI 1))]) hx hb dX3_isUnder_3 rfl hl (by decide) rfl (fun ls hl => ?_)
  refine lv_iload_n hx hb dX3_isUnder_4 rfl (lv_at hl 0 rfl) ?_
  refine lv_bipush (v := nI 7) hx hb dX3_isUnder_5 (by decide) ?_
  refine q_icmp_geN (tgt := 38) (a := 0) (b := 7) hx hb dX3_isUnder_7 (by decide) (by omega) (by omega) (fun h => absurd h (by omega)) (fun _ => ?_)
  refine lv_iload_n hx hb dX3_isUnder_10 rfl (lv_at hl 1 rfl) ?_
  refine lv_bipush (v := nI 6) hx hb dX3_isUnder_11 (by decide) ?_
  refine RO.callS S ks_X3_44 (c_X3_isWithin l D cI cJ t f g h τ (nI 5) (nI 6)) hK hP ⟨Nat.le_of_ble_eq_true rfl, Nat.le_of_ble_eq_true rfl⟩ hl.1 rfl rfl (Nat.le_of_ble_eq_true rfl) (Nat.zero_le _) (Nat.zero_le _) dX3_isUnder_13 ?_
  refine q_if_eqB (tgt := 38) hx hb dX3_isUnder_16 (by decide) (fun h => absurd (⟨nI_le (by omega) (by omega), nI_le (by omega) (by omega)⟩) h) (fun _ => ?_)
  refine lv_iload_n hx hb dX3_isUnder_19 rfl (lv_at hl 1 rfl) ?_
  refine lv_iload_n hx hb dX3_isUnder_20 rfl (lv_at hl 3 rfl) ?_
  refine q_icmp_neN (tgt := 26) (a := 5) (b := 1) hx hb dX3_isUnder_21 (by decide) (by omega) (by omega) (fun _ => ?_) (fun h => absurd h (by omega))
  refine va_gets hx hb hZ.2.2.1 va_S.rf hown (hU _ mF_X3_235) (fun _ h => h) dX3_isUnder_26 ?_
  refine lv_iload_n hx hb dX3_isUnder_29 rfl (lv_at hl 1 rfl) ?_
  refine va_ti hx hb hZ.2.2.2 va_S.rf (i := nI 5) (v := .int (kab 5)) (vp_in_nI (by omega) (by decide)) (by rw [nI_clamp (by omega)]) dX3_isUnder_30 ?_
  refine q_eqi (y := nI 0) (rfl) ?_
  refine lv_istore_n (lv' := [(2, .int (nI 0)), (3, .int (nI 0)), (0, .int (nI 5)), (1, .int (nI 1))]) hx hb dX3_isUnder_31 rfl hl (by decide) rfl (fun ls hl => ?_)
  refine lv_iinc (v := nI 1) (lv' := [(3, .int (nI 1)), (2, .int (nI 0)), (0, .int (nI 5)), (1, .int (nI 1))]) hx hb dX3_isUnder_32 hl (k := 1) rfl (by decide) (by decide) rfl (fun ls hl => ?_)
  refine lv_goto (tgt := 4) hx hb dX3_isUnder_35 (by decide) ?_
  refine lv_iload_n hx hb dX3_isUnder_4 rfl (lv_at hl 0 rfl) ?_
  refine lv_bipush (v := nI 7) hx hb dX3_isUnder_5 (by decide) ?_
  refine q_icmp_geN (tgt := 38) (a := 1) (b := 7) hx hb dX3_isUnder_7 (by decide) (by omega) (by omega) (fun h => absurd h (by omega)) (fun _ => ?_)
  refine lv_iload_n hx hb dX3_isUnder_10 rfl (lv_at hl 1 rfl) ?_
  refine lv_bipush (v := nI 6) hx hb dX3_isUnder_11 (by decide) ?_
  refine RO.callS S ks_X3_44 (c_X3_isWithin l D cI cJ t f g h τ (nI 0) (nI 6)) hK hP ⟨Nat.le_of_ble_eq_true rfl, Nat.le_of_ble_eq_true rfl⟩ hl.1 rfl rfl (Nat.le_of_ble_eq_true rfl) (Nat.zero_le _) (Nat.zero_le _) dX3_isUnder_13 ?_
  refine q_if_eqB (tgt := 38) hx hb dX3_isUnder_16 (by decide) (fun h => absurd (⟨nI_le (by omega) (by omega), nI_le (by omega) (by omega)⟩) h) (fun _ => ?_)
  refine lv_iload_n hx hb dX3_isUnder_19 rfl (lv_at hl 1 rfl) ?_
  refine lv_iload_n hx hb dX3_isUnder_20 rfl (lv_at hl 3 rfl) ?_
  refine q_icmp_neN (tgt := 26) (a := 0) (b := 1) hx hb dX3_isUnder_21 (by decide) (by omega) (by omega) (fun _ => ?_) (fun h => absurd h (by omega))
  refine va_gets hx hb hZ.2.2.1 va_S.rf hown (hU _ mF_X3_235) (fun _ h => h) dX3_isUnder_26 ?_
  refine lv_iload_n hx hb dX3_isUnder_29 rfl (lv_at hl 1 rfl) ?_
  refine va_ti hx hb hZ.2.2.2 va_S.rf (i := nI 0) (v := .int (kab 0)) (vp_in_nI (by omega) (by decide)) (by rw [nI_clamp (by omega)]) dX3_isUnder_30 ?_
  refine q_eqi (y := (-1)) (rfl) ?_
  refine lv_istore_n (lv' := [(2, .int (-1)), (3, .int (nI 1)), (0, .int (nI 5)), (1, .int (nI 1))]) hx hb dX3_isUnder_31 rfl hl (by decide) rfl (fun ls hl => ?_)
  refine lv_iinc (v := nI 2) (lv' := [(3, .int (nI 2)), (2, .int (-1)), (0, .int (nI 5)), (1, .int (nI 1))]) hx hb dX3_isUnder_32 hl (k := 1) rfl (by decide) (by decide) rfl (fun ls hl => ?_)
  refine lv_goto (tgt := 4) hx hb dX3_isUnder_35 (by decide) ?_
  refine lv_iload_n hx hb dX3_isUnder_4 rfl (lv_at hl 0 rfl) ?_
  refine lv_bipush (v := nI 7) hx hb dX3_isUnder_5 (by decide) ?_
  refine q_icmp_geN (tgt := 38) (a := 2) (b := 7) hx hb dX3_isUnder_7 (by decide) (by omega) (by omega) (fun h => absurd h (by omega)) (fun _ => ?_)
  refine lv_iload_n hx hb dX3_isUnder_10 rfl (lv_at hl 1 rfl) ?_
  refine lv_bipush (v := nI 6) hx hb dX3_isUnder_11 (by decide) ?_
  refine RO.callS S ks_X3_44 (c_X3_isWithin l D cI cJ t f g h τ (-1) (nI 6)) hK hP ⟨Nat.le_of_ble_eq_true rfl, Nat.le_of_ble_eq_true rfl⟩ hl.1 rfl rfl (Nat.le_of_ble_eq_true rfl) (Nat.zero_le _) (Nat.zero_le _) dX3_isUnder_13 ?_
  refine q_if_eqB (tgt := 38) hx hb dX3_isUnder_16 (by decide) (fun _ => ?_) (fun h => absurd h (by decide))
  refine lv_iconst (v := nI 0) hx hb dX3_isUnder_38 (by decide) ?_
  exact RO.zret S hr hlk (bI_f (by decide)) dX3_isUnder_39
set_option maxRecDepth 100000 in
set_option maxHeartbeats 4000000 in
theorem c_X3_isUnder_5_2 (l : Launch) (D : va_G) (cI cJ : ClassId) (t : Nat → Nat) (f g h : Nat → Int32) (τ : Nat → Nat → Int32) (mt ka : Nat) : RZ mt ka l yX3_isUnder cX3_isUnder 4 (some .boolean) 1 D cI cJ (TW cI cJ t f g h τ) [.int (nI 5), .int (nI 2)] (.int (bI (uU 5 2))) := by
  refine RZ.of (by decide) (Nat.le_of_ble_eq_true rfl) (fun p e s m below meth c ls S hr hlk hK hP hZ hl => ?_)
  obtain ⟨hx, hb, hml, hown, hU⟩ := id S
  have hl : lv_has ls 4 [(0, .int (nI 5)), (1, .int (nI 2))] := hl
  refine lv_iload_n hx hb dX3_isUnder_0 rfl (lv_at hl 0 rfl) ?_
  refine lv_istore_n (lv' := [(2, .int (nI 5)), (0, .int (nI 5)), (1, .int (nI 2))]) hx hb dX3_isUnder_1 rfl hl (by decide) rfl (fun ls hl => ?_)
  refine lv_iconst (v := nI 0) hx hb dX3_isUnder_2 (by decide) ?_
  refine lv_istore_n (lv' := [(3, .int (nI 0)), (2, .int (nI 5)), (0, .int (nI 5)), (1, .int (nI 2))]) hx hb dX3_isUnder_3 rfl hl (by decide) rfl (fun ls hl => ?_)
  refine lv_iload_n hx hb dX3_isUnder_4 rfl (lv_at hl 0 rfl) ?_
  refine lv_bipush (v := nI 7) hx hb dX3_isUnder_5 (by decide) ?_
  refine q_icmp_geN (tgt := 38) (a := 0) (b := 7) hx hb dX3_isUnder_7 (by decide) (by omega) (by omega) (fun h => absurd h (by omega)) (fun _ => ?_)
  refine lv_iload_n hx hb dX3_isUnder_10 rfl (lv_at hl 1 rfl) ?_
  refine lv_bipush (v := nI 6) hx hb dX3_isUnder_11 (by decide) ?_
  refine RO.callS S ks_X3_44 (c_X3_isWithin l D cI cJ t f g h τ (nI 5) (nI 6)) hK hP ⟨Nat.le_of_ble_eq_true rfl, Nat.le_of_ble_eq_true rfl⟩ hl.1 rfl rfl (Nat.le_of_ble_eq_true rfl) (Nat.zero_le _) (Nat.zero_le _) dX3_isUnder_13 ?_
  refine q_if_eqB (tgt := 38) hx hb dX3_isUnder_16 (by decide) (fun h => absurd (⟨nI_le (by omega) (by omega), nI_le (by omega) (by omega)⟩) h) (fun _ => ?_)
  refine lv_iload_n hx hb dX3_isUnder_19 rfl (lv_at hl 1 rfl) ?_
  refine lv_iload_n hx hb dX3_isUnder_20 rfl (lv_at hl 3 rfl) ?_
  refine q_icmp_neN (tgt := 26) (a := 5) (b := 2) hx hb dX3_isUnder_21 (by decide) (by omega) (by omega) (fun _ => ?_) (fun h => absurd h (by omega))
  refine va_gets hx hb hZ.2.2.1 va_S.rf hown (hU _ mF_X3_235) (fun _ h => h) dX3_isUnder_26 ?_
  refine lv_iload_n hx hb dX3_isUnder_29 rfl (lv_at hl 1 rfl) ?_
  refine va_ti hx hb hZ.2.2.2 va_S.rf (i := nI 5) (v := .int (kab 5)) (vp_in_nI (by omega) (by decide)) (by rw [nI_clamp (by omega)]) dX3_isUnder_30 ?_
  refine q_eqi (y := nI 0) (rfl) ?_
  refine lv_istore_n (lv' := [(2, .int (nI 0)), (3, .int (nI 0)), (0, .int (nI 5)), (1, .int (nI 2))]) hx hb dX3_isUnder_31 rfl hl (by decide) rfl (fun ls hl => ?_)
  refine lv_iinc (v := nI 1) (lv' := [(3, .int (nI 1)), (2, .int (nI 0)), (0, .int (nI 5)), (1, .int (nI 2))]) hx hb dX3_isUnder_32 hl (k := 1) rfl (by decide) (by decide) rfl (fun ls hl => ?_)
  refine lv_goto (tgt := 4) hx hb dX3_isUnder_35 (by decide) ?_
  refine lv_iload_n hx hb dX3_isUnder_4 rfl (lv_at hl 0 rfl) ?_
  refine lv_bipush (v := nI 7) hx hb dX3_isUnder_5 (by decide) ?_
  refine q_icmp_geN (tgt := 38) (a := 1) (b := 7) hx hb dX3_isUnder_7 (by decide) (by omega) (by omega) (fun h => absurd h (by omega)) (fun _ => ?_)
  refine lv_iload_n hx hb dX3_isUnder_10 rfl (lv_at hl 1 rfl) ?_
  refine lv_bipush (v := nI 6) hx hb dX3_isUnder_11 (by decide) ?_
  refine RO.callS S ks_X3_44 (c_X3_isWithin l D cI cJ t f g h τ (nI 0) (nI 6)) hK hP ⟨Nat.le_of_ble_eq_true rfl, Nat.le_of_ble_eq_true rfl⟩ hl.1 rfl rfl (Nat.le_of_ble_eq_true rfl) (Nat.zero_le _) (Nat.zero_le _) dX3_isUnder_13 ?_
  refine q_if_eqB (tgt := 38) hx hb dX3_isUnder_16 (by decide) (fun h => absurd (⟨nI_le (by omega) (by omega), nI_le (by omega) (by omega)⟩) h) (fun _ => ?_)
  refine lv_iload_n hx hb dX3_isUnder_19 rfl (lv_at hl 1 rfl) ?_
  refine lv_iload_n hx hb dX3_isUnder_20 rfl (lv_at hl 3 rfl) ?_
  refine q_icmp_neN (tgt := 26) (a := 0) (b := 2) hx hb dX3_isUnder_21 (by decide) (by omega) (by omega) (fun _ => ?_) (fun h => absurd h (by omega))
  refine va_gets hx hb hZ.2.2.1 va_S.rf hown (hU _ mF_X3_235) (fun _ h => h) dX3_isUnder_26 ?_
  refine lv_iload_n hx hb dX3_isUnder_29 rfl (lv_at hl 1 rfl) ?_
  refine va_ti hx hb hZ.2.2.2 va_S.rf (i := nI 0) (v := .int (kab 0)) (vp_in_nI (by omega) (by decide)) (by rw [nI_clamp (by omega)]) dX3_isUnder_30 ?_
  refine q_eqi (y := (-1)) (rfl) ?_
  refine lv_istore_n (lv' := [(2, .int (-1)), (3, .int (nI 1)), (0, .int (nI 5)), (1, .int (nI 2))]) hx hb dX3_isUnder_31 rfl hl (by decide) rfl (fun ls hl => ?_)
  refine lv_iinc (v := nI 2) (lv' := [(3, .int (nI 2)), (2, .int (-1)), (0, .int (nI 5)), (1, .int (nI 2))]) hx hb dX3_isUnder_32 hl (k := 1) rfl (by decide) (by decide) rfl (fun ls hl => ?_)
  refine lv_goto (tgt := 4) hx hb dX3_isUnder_35 (by decide) ?_
  refine lv_iload_n hx hb dX3_isUnder_4 rfl (lv_at hl 0 rfl) ?_
  refine lv_bipush (v := nI 7) hx hb dX3_isUnder_5 (by decide) ?_
  refine q_icmp_geN (tgt := 38) (a := 2) (b := 7) hx hb dX3_isUnder_7 (by decide) (by omega) (by omega) (fun h => absurd h (by omega)) (fun _ => ?_)
  refine lv_iload_n hx hb dX3_isUnder_10 rfl (lv_at hl 1 rfl) ?_
  refine lv_bipush (v := nI 6) hx hb dX3_isUnder_11 (by decide) ?_
  refine RO.callS S ks_X3_44 (c_X3_isWithin l D cI cJ t f g h τ (-1) (nI 6)) hK hP ⟨Nat.le_of_ble_eq_true rfl, Nat.le_of_ble_eq_true rfl⟩ hl.1 rfl rfl (Nat.le_of_ble_eq_true rfl) (Nat.zero_le _) (Nat.zero_le _) dX3_isUnder_13 ?_
  refine q_if_eqB (tgt := 38) hx hb dX3_isUnder_16 (by decide) (fun _ => ?_) (fun h => absurd h (by decide))
  refine lv_iconst (v := nI 0) hx hb dX3_isUnder_38 (by decide) ?_
  exact RO.zret S hr hlk (bI_f (by decide)) dX3_isUnder_39
set_option maxRecDepth 100000 in
set_option maxHeartbeats 4000000 in
theorem c_X3_isUnder_5_3 (l : Launch) (D : va_G) (cI cJ : ClassId) (t : Nat → Nat) (f g h : Nat → Int32) (τ : Nat → Nat → Int32) (mt ka : Nat) : RZ mt ka l yX3_isUnder cX3_isUnder 4 (some .boolean) 1 D cI cJ (TW cI cJ t f g h τ) [.int (nI 5), .int (nI 3)] (.int (bI (uU 5 3))) := by
  refine RZ.of (by decide) (Nat.le_of_ble_eq_true rfl) (fun p e s m below meth c ls S hr hlk hK hP hZ hl => ?_)
  obtain ⟨hx, hb, hml, hown, hU⟩ := id S
  have hl : lv_has ls 4 [(0, .int (nI 5)), (1, .int (nI 3))] := hl
  refine lv_iload_n hx hb dX3_isUnder_0 rfl (lv_at hl 0 rfl) ?_
  refine lv_istore_n (lv' := [(2, .int (nI 5)), (0, .int (nI 5)), (1, .int (nI 3))]) hx hb dX3_isUnder_1 rfl hl (by decide) rfl (fun ls hl => ?_)
  refine lv_iconst (v := nI 0) hx hb dX3_isUnder_2 (by decide) ?_
  refine lv_istore_n (lv' := [(3, .int (nI 0)), (2, .int (nI 5)), (0, .int (nI 5)), (1, .int (nI 3))]) hx hb dX3_isUnder_3 rfl hl (by decide) rfl (fun ls hl => ?_)
  refine lv_iload_n hx hb dX3_isUnder_4 rfl (lv_at hl 0 rfl) ?_
  refine lv_bipush (v := nI 7) hx hb dX3_isUnder_5 (by decide) ?_
  refine q_icmp_geN (tgt := 38) (a := 0) (b := 7) hx hb dX3_isUnder_7 (by decide) (by omega) (by omega) (fun h => absurd h (by omega)) (fun _ => ?_)
  refine lv_iload_n hx hb dX3_isUnder_10 rfl (lv_at hl 1 rfl) ?_
  refine lv_bipush (v := nI 6) hx hb dX3_isUnder_11 (by decide) ?_
  refine RO.callS S ks_X3_44 (c_X3_isWithin l D cI cJ t f g h τ (nI 5) (nI 6)) hK hP ⟨Nat.le_of_ble_eq_true rfl, Nat.le_of_ble_eq_true rfl⟩ hl.1 rfl rfl (Nat.le_of_ble_eq_true rfl) (Nat.zero_le _) (Nat.zero_le _) dX3_isUnder_13 ?_
  refine q_if_eqB (tgt := 38) hx hb dX3_isUnder_16 (by decide) (fun h => absurd (⟨nI_le (by omega) (by omega), nI_le (by omega) (by omega)⟩) h) (fun _ => ?_)
  refine lv_iload_n hx hb dX3_isUnder_19 rfl (lv_at hl 1 rfl) ?_
  refine lv_iload_n hx hb dX3_isUnder_20 rfl (lv_at hl 3 rfl) ?_
  refine q_icmp_neN (tgt := 26) (a := 5) (b := 3) hx hb dX3_isUnder_21 (by decide) (by omega) (by omega) (fun _ => ?_) (fun h => absurd h (by omega))
  refine va_gets hx hb hZ.2.2.1 va_S.rf hown (hU _ mF_X3_235) (fun _ h => h) dX3_isUnder_26 ?_
  refine lv_iload_n hx hb dX3_isUnder_29 rfl (lv_at hl 1 rfl) ?_
  refine va_ti hx hb hZ.2.2.2 va_S.rf (i := nI 5) (v := .int (kab 5)) (vp_in_nI (by omega) (by decide)) (by rw [nI_clamp (by omega)]) dX3_isUnder_30 ?_
  refine q_eqi (y := nI 0) (rfl) ?_
  refine lv_istore_n (lv' := [(2, .int (nI 0)), (3, .int (nI 0)), (0, .int (nI 5)), (1, .int (nI 3))]) hx hb dX3_isUnder_31 rfl hl (by decide) rfl (fun ls hl => ?_)
  refine lv_iinc (v := nI 1) (lv' := [(3, .int (nI 1)), (2, .int (nI 0)), (0, .int (nI 5)), (1, .int (nI 3))]) hx hb dX3_isUnder_32 hl (k := 1) rfl (by decide) (by decide) rfl (fun ls hl => ?_)
  refine lv_goto (tgt := 4) hx hb dX3_isUnder_35 (by decide) ?_
  refine lv_iload_n hx hb dX3_isUnder_4 rfl (lv_at hl 0 rfl) ?_
  refine lv_bipush (v := nI 7) hx hb dX3_isUnder_5 (by decide) ?_
  refine q_icmp_geN (tgt := 38) (a := 1) (b := 7) hx hb dX3_isUnder_7 (by decide) (by omega) (by omega) (fun h => absurd h (by omega)) (fun _ => ?_)
  refine lv_iload_n hx hb dX3_isUnder_10 rfl (lv_at hl 1 rfl) ?_
  refine lv_bipush (v := nI 6) hx hb dX3_isUnder_11 (by decide) ?_
  refine RO.callS S ks_X3_44 (c_X3_isWithin l D cI cJ t f g h τ (nI 0) (nI 6)) hK hP ⟨Nat.le_of_ble_eq_true rfl, Nat.le_of_ble_eq_true rfl⟩ hl.1 rfl rfl (Nat.le_of_ble_eq_true rfl) (Nat.zero_le _) (Nat.zero_le _) dX3_isUnder_13 ?_
  refine q_if_eqB (tgt := 38) hx hb dX3_isUnder_16 (by decide) (fun h => absurd (⟨nI_le (by omega) (by omega), nI_le (by omega) (by omega)⟩) h) (fun _ => ?_)
  refine lv_iload_n hx hb dX3_isUnder_19 rfl (lv_at hl 1 rfl) ?_
  refine lv_iload_n hx hb dX3_isUnder_20 rfl (lv_at hl 3 rfl) ?_
  refine q_icmp_neN (tgt := 26) (a := 0) (b := 3) hx hb dX3_isUnder_21 (by decide) (by omega) (by omega) (fun _ => ?_) (fun h => absurd h (by omega))
  refine va_gets hx hb hZ.2.2.1 va_S.rf hown (hU _ mF_X3_235) (fun _ h => h) dX3_isUnder_26 ?_
  refine lv_iload_n hx hb dX3_isUnder_29 rfl (lv_at hl 1 rfl) ?_
  refine va_ti hx hb hZ.2.2.2 va_S.rf (i := nI 0) (v := .int (kab 0)) (vp_in_nI (by omega) (by decide)) (by rw [nI_clamp (by omega)]) dX3_isUnder_30 ?_
  refine q_eqi (y := (-1)) (rfl) ?_
  refine lv_istore_n (lv' := [(2, .int (-1)), (3, .int (nI 1)), (0, .int (nI 5)), (1, .int (nI 3))]) hx hb dX3_isUnder_31 rfl hl (by decide) rfl (fun ls hl => ?_)
  refine lv_iinc (v := nI 2) (lv' := [(3, .int (nI 2)), (2, .int (-1)), (0, .int (nI 5)), (1, .int (nI 3))]) hx hb dX3_isUnder_32 hl (k := 1) rfl (by decide) (by decide) rfl (fun ls hl => ?_)
  refine lv_goto (tgt := 4) hx hb dX3_isUnder_35 (by decide) ?_
  refine lv_iload_n hx hb dX3_isUnder_4 rfl (lv_at hl 0 rfl) ?_
  refine lv_bipush (v := nI 7) hx hb dX3_isUnder_5 (by decide) ?_
  refine q_icmp_geN (tgt := 38) (a := 2) (b := 7) hx hb dX3_isUnder_7 (by decide) (by omega) (by omega) (fun h => absurd h (by omega)) (fun _ => ?_)
  refine lv_iload_n hx hb dX3_isUnder_10 rfl (lv_at hl 1 rfl) ?_
  refine lv_bipush (v := nI 6) hx hb dX3_isUnder_11 (by decide) ?_
  refine RO.callS S ks_X3_44 (c_X3_isWithin l D cI cJ t f g h τ (-1) (nI 6)) hK hP ⟨Nat.le_of_ble_eq_true rfl, Nat.le_of_ble_eq_true rfl⟩ hl.1 rfl rfl (Nat.le_of_ble_eq_true rfl) (Nat.zero_le _) (Nat.zero_le _) dX3_isUnder_13 ?_
  refine q_if_eqB (tgt := 38) hx hb dX3_isUnder_16 (by decide) (fun _ => ?_) (fun h => absurd h (by decide))
  refine lv_iconst (v := nI 0) hx hb dX3_isUnder_38 (by decide) ?_
  exact RO.zret S hr hlk (bI_f (by decide)) dX3_isUnder_39
set_option maxRecDepth 100000 in
set_option maxHeartbeats 4000000 in
theorem c_X3_isUnder_5_4 (l : Launch) (D : va_G) (cI cJ : ClassId) (t : Nat → Nat) (f g h : Nat → Int32) (τ : Nat → Nat → Int32) (mt ka : Nat) : RZ mt ka l yX3_isUnder cX3_isUnder 4 (some .boolean) 1 D cI cJ (TW cI cJ t f g h τ) [.int (nI 5), .int (nI 4)] (.int (bI (uU 5 4))) := by
  refine RZ.of (by decide) (Nat.le_of_ble_eq_true rfl) (fun p e s m below meth c ls S hr hlk hK hP hZ hl => ?_)
  obtain ⟨hx, hb, hml, hown, hU⟩ := id S
  have hl : lv_has ls 4 [(0, .int (nI 5)), (1, .int (nI 4))] := hl
  refine lv_iload_n hx hb dX3_isUnder_0 rfl (lv_at hl 0 rfl) ?_
  refine lv_istore_n (lv' := [(2, .int (nI 5)), (0, .int (nI 5)), (1, .int (nI 4))]) hx hb dX3_isUnder_1 rfl hl (by decide) rfl (fun ls hl => ?_)
  refine lv_iconst (v := nI 0) hx hb dX3_isUnder_2 (by decide) ?_
  refine lv_istore_n (lv' := [(3, .int (nI 0)), (2, .int (nI 5)), (0, .int (nI 5)), (1, .int (nI 4))]) hx hb dX3_isUnder_3 rfl hl (by decide) rfl (fun ls hl => ?_)
  refine lv_iload_n hx hb dX3_isUnder_4 rfl (lv_at hl 0 rfl) ?_
  refine lv_bipush (v := nI 7) hx hb dX3_isUnder_5 (by decide) ?_
  refine q_icmp_geN (tgt := 38) (a := 0) (b := 7) hx hb dX3_isUnder_7 (by decide) (by omega) (by omega) (fun h => absurd h (by omega)) (fun _ => ?_)
  refine lv_iload_n hx hb dX3_isUnder_10 rfl (lv_at hl 1 rfl) ?_
  refine lv_bipush (v := nI 6) hx hb dX3_isUnder_11 (by decide) ?_
  refine RO.callS S ks_X3_44 (c_X3_isWithin l D cI cJ t f g h τ (nI 5) (nI 6)) hK hP ⟨Nat.le_of_ble_eq_true rfl, Nat.le_of_ble_eq_true rfl⟩ hl.1 rfl rfl (Nat.le_of_ble_eq_true rfl) (Nat.zero_le _) (Nat.zero_le _) dX3_isUnder_13 ?_
  refine q_if_eqB (tgt := 38) hx hb dX3_isUnder_16 (by decide) (fun h => absurd (⟨nI_le (by omega) (by omega), nI_le (by omega) (by omega)⟩) h) (fun _ => ?_)
  refine lv_iload_n hx hb dX3_isUnder_19 rfl (lv_at hl 1 rfl) ?_
  refine lv_iload_n hx hb dX3_isUnder_20 rfl (lv_at hl 3 rfl) ?_
  refine q_icmp_neN (tgt := 26) (a := 5) (b := 4) hx hb dX3_isUnder_21 (by decide) (by omega) (by omega) (fun _ => ?_) (fun h => absurd h (by omega))
  refine va_gets hx hb hZ.2.2.1 va_S.rf hown (hU _ mF_X3_235) (fun _ h => h) dX3_isUnder_26 ?_
  refine lv_iload_n hx hb dX3_isUnder_29 rfl (lv_at hl 1 rfl) ?_
  refine va_ti hx hb hZ.2.2.2 va_S.rf (i := nI 5) (v := .int (kab 5)) (vp_in_nI (by omega) (by decide)) (by rw [nI_clamp (by omega)]) dX3_isUnder_30 ?_
  refine q_eqi (y := nI 0) (rfl) ?_
  refine lv_istore_n (lv' := [(2, .int (nI 0)), (3, .int (nI 0)), (0, .int (nI 5)), (1, .int (nI 4))]) hx hb dX3_isUnder_31 rfl hl (by decide) rfl (fun ls hl => ?_)
  refine lv_iinc (v := nI 1) (lv' := [(3, .int (nI 1)), (2, .int (nI 0)), (0, .int (nI 5)), (1, .int (nI 4))]) hx hb dX3_isUnder_32 hl (k := 1) rfl (by decide) (by decide) rfl (fun ls hl => ?_)
  refine lv_goto (tgt := 4) hx hb dX3_isUnder_35 (by decide) ?_
  refine lv_iload_n hx hb dX3_isUnder_4 rfl (lv_at hl 0 rfl) ?_
  refine lv_bipush (v := nI 7) hx hb dX3_isUnder_5 (by decide) ?_
  refine q_icmp_geN (tgt := 38) (a := 1) (b := 7) hx hb dX3_isUnder_7 (by decide) (by omega) (by omega) (fun h => absurd h (by omega)) (fun _ => ?_)
  refine lv_iload_n hx hb dX3_isUnder_10 rfl (lv_at hl 1 rfl) ?_
  refine lv_bipush (v := nI 6) hx hb dX3_isUnder_11 (by decide) ?_
  refine RO.callS S ks_X3_44 (c_X3_isWithin l D cI cJ t f g h τ (nI 0) (nI 6)) hK hP ⟨Nat.le_of_ble_eq_true rfl, Nat.le_of_ble_eq_true rfl⟩ hl.1 rfl rfl (Nat.le_of_ble_eq_true rfl) (Nat.zero_le _) (Nat.zero_le _) dX3_isUnder_13 ?_
  refine q_if_eqB (tgt := 38) hx hb dX3_isUnder_16 (by decide) (fun h => absurd (⟨nI_le (by omega) (by omega), nI_le (by omega) (by omega)⟩) h) (fun _ => ?_)
  refine lv_iload_n hx hb dX3_isUnder_19 rfl (lv_at hl 1 rfl) ?_
  refine lv_iload_n hx hb dX3_isUnder_20 rfl (lv_at hl 3 rfl) ?_
  refine q_icmp_neN (tgt := 26) (a := 0) (b := 4) hx hb dX3_isUnder_21 (by decide) (by omega) (by omega) (fun _ => ?_) (fun h => absurd h (by omega))
  refine va_gets hx hb hZ.2.2.1 va_S.rf hown (hU _ mF_X3_235) (fun _ h => h) dX3_isUnder_26 ?_
  refine lv_iload_n hx hb dX3_isUnder_29 rfl (lv_at hl 1 rfl) ?_
  refine va_ti hx hb hZ.2.2.2 va_S.rf (i := nI 0) (v := .int (kab 0)) (vp_in_nI (by omega) (by decide)) (by rw [nI_clamp (by omega)]) dX3_isUnder_30 ?_
  refine q_eqi (y := (-1)) (rfl) ?_
  refine lv_istore_n (lv' := [(2, .int (-1)), (3, .int (nI 1)), (0, .int (nI 5)), (1, .int (nI 4))]) hx hb dX3_isUnder_31 rfl hl (by decide) rfl (fun ls hl => ?_)
  refine lv_iinc (v := nI 2) (lv' := [(3, .int (nI 2)), (2, .int (-1)), (0, .int (nI 5)), (1, .int (nI 4))]) hx hb dX3_isUnder_32 hl (k := 1) rfl (by decide) (by decide) rfl (fun ls hl => ?_)
  refine lv_goto (tgt := 4) hx hb dX3_isUnder_35 (by decide) ?_
  refine lv_iload_n hx hb dX3_isUnder_4 rfl (lv_at hl 0 rfl) ?_
  refine lv_bipush (v := nI 7) hx hb dX3_isUnder_5 (by decide) ?_
  refine q_icmp_geN (tgt := 38) (a := 2) (b := 7) hx hb dX3_isUnder_7 (by decide) (by omega) (by omega) (fun h => absurd h (by omega)) (fun _ => ?_)
  refine lv_iload_n hx hb dX3_isUnder_10 rfl (lv_at hl 1 rfl) ?_
  refine lv_bipush (v := nI 6) hx hb dX3_isUnder_11 (by decide) ?_
  refine RO.callS S ks_X3_44 (c_X3_isWithin l D cI cJ t f g h τ (-1) (nI 6)) hK hP ⟨Nat.le_of_ble_eq_true rfl, Nat.le_of_ble_eq_true rfl⟩ hl.1 rfl rfl (Nat.le_of_ble_eq_true rfl) (Nat.zero_le _) (Nat.zero_le _) dX3_isUnder_13 ?_
  refine q_if_eqB (tgt := 38) hx hb dX3_isUnder_16 (by decide) (fun _ => ?_) (fun h => absurd h (by decide))
  refine lv_iconst (v := nI 0) hx hb dX3_isUnder_38 (by decide) ?_
  exact RO.zret S hr hlk (bI_f (by decide)) dX3_isUnder_39
set_option maxRecDepth 100000 in
set_option maxHeartbeats 4000000 in
theorem c_X3_isUnder_5_5 (l : Launch) (D : va_G) (cI cJ : ClassId) (t : Nat → Nat) (f g h : Nat → Int32) (τ : Nat → Nat → Int32) (mt ka : Nat) : RZ mt ka l yX3_isUnder cX3_isUnder 4 (some .boolean) 1 D cI cJ (TW cI cJ t f g h τ) [.int (nI 5), .int (nI 5)] (.int (bI (uU 5 5))) := by
  refine RZ.of (by decide) (Nat.le_of_ble_eq_true rfl) (fun p e s m below meth c ls S hr hlk hK hP hZ hl => ?_)
  obtain ⟨hx, hb, hml, hown, hU⟩ := id S
  have hl : lv_has ls 4 [(0, .int (nI 5)), (1, .int (nI 5))] := hl
  refine lv_iload_n hx hb dX3_isUnder_0 rfl (lv_at hl 0 rfl) ?_
  refine lv_istore_n (lv' := [(2, .int (nI 5)), (0, .int (nI 5)), (1, .int (nI 5))]) hx hb dX3_isUnder_1 rfl hl (by decide) rfl (fun ls hl => ?_)
  refine lv_iconst (v := nI 0) hx hb dX3_isUnder_2 (by decide) ?_
  refine lv_istore_n (lv' := [(3, .int (nI 0)), (2, .int (nI 5)), (0, .int (nI 5)), (1, .int (nI 5))]) hx hb dX3_isUnder_3 rfl hl (by decide) rfl (fun ls hl => ?_)
  refine lv_iload_n hx hb dX3_isUnder_4 rfl (lv_at hl 0 rfl) ?_
  refine lv_bipush (v := nI 7) hx hb dX3_isUnder_5 (by decide) ?_
  refine q_icmp_geN (tgt := 38) (a := 0) (b := 7) hx hb dX3_isUnder_7 (by decide) (by omega) (by omega) (fun h => absurd h (by omega)) (fun _ => ?_)
  refine lv_iload_n hx hb dX3_isUnder_10 rfl (lv_at hl 1 rfl) ?_
  refine lv_bipush (v := nI 6) hx hb dX3_isUnder_11 (by decide) ?_
  refine RO.callS S ks_X3_44 (c_X3_isWithin l D cI cJ t f g h τ (nI 5) (nI 6)) hK hP ⟨Nat.le_of_ble_eq_true rfl, Nat.le_of_ble_eq_true rfl⟩ hl.1 rfl rfl (Nat.le_of_ble_eq_true rfl) (Nat.zero_le _) (Nat.zero_le _) dX3_isUnder_13 ?_
  refine q_if_eqB (tgt := 38) hx hb dX3_isUnder_16 (by decide) (fun h => absurd (⟨nI_le (by omega) (by omega), nI_le (by omega) (by omega)⟩) h) (fun _ => ?_)
  refine lv_iload_n hx hb dX3_isUnder_19 rfl (lv_at hl 1 rfl) ?_
  refine lv_iload_n hx hb dX3_isUnder_20 rfl (lv_at hl 3 rfl) ?_
  refine q_icmp_neN (tgt := 26) (a := 5) (b := 5) hx hb dX3_isUnder_21 (by decide) (by omega) (by omega) (fun h => absurd h (by omega)) (fun _ => ?_)
  refine lv_iconst (v := nI 1) hx hb dX3_isUnder_24 (by decide) ?_
  exact RO.zret S hr hlk (bI_t (by decide)) dX3_isUnder_25
set_option maxRecDepth 100000 in
set_option maxHeartbeats 4000000 in
theorem c_X3_isUnder_5_6 (l : Launch) (D : va_G) (cI cJ : ClassId) (t : Nat → Nat) (f g h : Nat → Int32) (τ : Nat → Nat → Int32) (mt ka : Nat) : RZ mt ka l yX3_isUnder cX3_isUnder 4 (some .boolean) 1 D cI cJ (TW cI cJ t f g h τ) [.int (nI 5), .int (nI 6)] (.int (bI (uU 5 6))) := by
  refine RZ.of (by decide) (Nat.le_of_ble_eq_true rfl) (fun p e s m below meth c ls S hr hlk hK hP hZ hl => ?_)
  obtain ⟨hx, hb, hml, hown, hU⟩ := id S
  have hl : lv_has ls 4 [(0, .int (nI 5)), (1, .int (nI 6))] := hl
  refine lv_iload_n hx hb dX3_isUnder_0 rfl (lv_at hl 0 rfl) ?_
  refine lv_istore_n (lv' := [(2, .int (nI 5)), (0, .int (nI 5)), (1, .int (nI 6))]) hx hb dX3_isUnder_1 rfl hl (by decide) rfl (fun ls hl => ?_)
  refine lv_iconst (v := nI 0) hx hb dX3_isUnder_2 (by decide) ?_
  refine lv_istore_n (lv' := [(3, .int (nI 0)), (2, .int (nI 5)), (0, .int (nI 5)), (1, .int (nI 6))]) hx hb dX3_isUnder_3 rfl hl (by decide) rfl (fun ls hl => ?_)
  refine lv_iload_n hx hb dX3_isUnder_4 rfl (lv_at hl 0 rfl) ?_
  refine lv_bipush (v := nI 7) hx hb dX3_isUnder_5 (by decide) ?_
  refine q_icmp_geN (tgt := 38) (a := 0) (b := 7) hx hb dX3_isUnder_7 (by decide) (by omega) (by omega) (fun h => absurd h (by omega)) (fun _ => ?_)
  refine lv_iload_n hx hb dX3_isUnder_10 rfl (lv_at hl 1 rfl) ?_
  refine lv_bipush (v := nI 6) hx hb dX3_isUnder_11 (by decide) ?_
  refine RO.callS S ks_X3_44 (c_X3_isWithin l D cI cJ t f g h τ (nI 5) (nI 6)) hK hP ⟨Nat.le_of_ble_eq_true rfl, Nat.le_of_ble_eq_true rfl⟩ hl.1 rfl rfl (Nat.le_of_ble_eq_true rfl) (Nat.zero_le _) (Nat.zero_le _) dX3_isUnder_13 ?_
  refine q_if_eqB (tgt := 38) hx hb dX3_isUnder_16 (by decide) (fun h => absurd (⟨nI_le (by omega) (by omega), nI_le (by omega) (by omega)⟩) h) (fun _ => ?_)
  refine lv_iload_n hx hb dX3_isUnder_19 rfl (lv_at hl 1 rfl) ?_
  refine lv_iload_n hx hb dX3_isUnder_20 rfl (lv_at hl 3 rfl) ?_
  refine q_icmp_neN (tgt := 26) (a := 5) (b := 6) hx hb dX3_isUnder_21 (by decide) (by omega) (by omega) (fun _ => ?_) (fun h => absurd h (by omega))
  refine va_gets hx hb hZ.2.2.1 va_S.rf hown (hU _ mF_X3_235) (fun _ h => h) dX3_isUnder_26 ?_
  refine lv_iload_n hx hb dX3_isUnder_29 rfl (lv_at hl 1 rfl) ?_
  refine va_ti hx hb hZ.2.2.2 va_S.rf (i := nI 5) (v := .int (kab 5)) (vp_in_nI (by omega) (by decide)) (by rw [nI_clamp (by omega)]) dX3_isUnder_30 ?_
  refine q_eqi (y := nI 0) (rfl) ?_
  refine lv_istore_n (lv' := [(2, .int (nI 0)), (3, .int (nI 0)), (0, .int (nI 5)), (1, .int (nI 6))]) hx hb dX3_isUnder_31 rfl hl (by decide) rfl (fun ls hl => ?_)
  refine lv_iinc (v := nI 1) (lv' := [(3, .int (nI 1)), (2, .int (nI 0)), (0, .int (nI 5)), (1, .int (nI 6))]) hx hb dX3_isUnder_32 hl (k := 1) rfl (by decide) (by decide) rfl (fun ls hl => ?_)
  refine lv_goto (tgt := 4) hx hb dX3_isUnder_35 (by decide) ?_
  refine lv_iload_n hx hb dX3_isUnder_4 rfl (lv_at hl 0 rfl) ?_
  refine lv_bipush (v := nI 7) hx hb dX3_isUnder_5 (by decide) ?_
  refine q_icmp_geN (tgt := 38) (a := 1) (b := 7) hx hb dX3_isUnder_7 (by decide) (by omega) (by omega) (fun h => absurd h (by omega)) (fun _ => ?_)
  refine lv_iload_n hx hb dX3_isUnder_10 rfl (lv_at hl 1 rfl) ?_
  refine lv_bipush (v := nI 6) hx hb dX3_isUnder_11 (by decide) ?_
  refine RO.callS S ks_X3_44 (c_X3_isWithin l D cI cJ t f g h τ (nI 0) (nI 6)) hK hP ⟨Nat.le_of_ble_eq_true rfl, Nat.le_of_ble_eq_true rfl⟩ hl.1 rfl rfl (Nat.le_of_ble_eq_true rfl) (Nat.zero_le _) (Nat.zero_le _) dX3_isUnder_13 ?_
  refine q_if_eqB (tgt := 38) hx hb dX3_isUnder_16 (by decide) (fun h => absurd (⟨nI_le (by omega) (by omega), nI_le (by omega) (by omega)⟩) h) (fun _ => ?_)
  refine lv_iload_n hx hb dX3_isUnder_19 rfl (lv_at hl 1 rfl) ?_
  refine lv_iload_n hx hb dX3_isUnder_20 rfl (lv_at hl 3 rfl) ?_
  refine q_icmp_neN (tgt := 26) (a := 0) (b := 6) hx hb dX3_isUnder_21 (by decide) (by omega) (by omega) (fun _ => ?_) (fun h => absurd h (by omega))
  refine va_gets hx hb hZ.2.2.1 va_S.rf hown (hU _ mF_X3_235) (fun _ h => h) dX3_isUnder_26 ?_
  refine lv_iload_n hx hb dX3_isUnder_29 rfl (lv_at hl 1 rfl) ?_
  refine va_ti hx hb hZ.2.2.2 va_S.rf (i := nI 0) (v := .int (kab 0)) (vp_in_nI (by omega) (by decide)) (by rw [nI_clamp (by omega)]) dX3_isUnder_30 ?_
  refine q_eqi (y := (-1)) (rfl) ?_
  refine lv_istore_n (lv' := [(2, .int (-1)), (3, .int (nI 1)), (0, .int (nI 5)), (1, .int (nI 6))]) hx hb dX3_isUnder_31 rfl hl (by decide) rfl (fun ls hl => ?_)
  refine lv_iinc (v := nI 2) (lv' := [(3, .int (nI 2)), (2, .int (-1)), (0, .int (nI 5)), (1, .int (nI 6))]) hx hb dX3_isUnder_32 hl (k := 1) rfl (by decide) (by decide) rfl (fun ls hl => ?_)
  refine lv_goto (tgt := 4) hx hb dX3_isUnder_35 (by decide) ?_
  refine lv_iload_n hx hb dX3_isUnder_4 rfl (lv_at hl 0 rfl) ?_
  refine lv_bipush (v := nI 7) hx hb dX3_isUnder_5 (by decide) ?_
  refine q_icmp_geN (tgt := 38) (a := 2) (b := 7) hx hb dX3_isUnder_7 (by decide) (by omega) (by omega) (fun h => absurd h (by omega)) (fun _ => ?_)
  refine lv_iload_n hx hb dX3_isUnder_10 rfl (lv_at hl 1 rfl) ?_
  refine lv_bipush (v := nI 6) hx hb dX3_isUnder_11 (by decide) ?_
  refine RO.callS S ks_X3_44 (c_X3_isWithin l D cI cJ t f g h τ (-1) (nI 6)) hK hP ⟨Nat.le_of_ble_eq_true rfl, Nat.le_of_ble_eq_true rfl⟩ hl.1 rfl rfl (Nat.le_of_ble_eq_true rfl) (Nat.zero_le _) (Nat.zero_le _) dX3_isUnder_13 ?_
  refine q_if_eqB (tgt := 38) hx hb dX3_isUnder_16 (by decide) (fun _ => ?_) (fun h => absurd h (by decide))
  refine lv_iconst (v := nI 0) hx hb dX3_isUnder_38 (by decide) ?_
  exact RO.zret S hr hlk (bI_f (by decide)) dX3_isUnder_39
set_option maxRecDepth 100000 in
set_option maxHeartbeats 4000000 in
theorem c_X3_isUnder_6_0 (l : Launch) (D : va_G) (cI cJ : ClassId) (t : Nat → Nat) (f g h : Nat → Int32) (τ : Nat → Nat → Int32) (mt ka : Nat) : RZ mt ka l yX3_isUnder cX3_isUnder 4 (some .boolean) 1 D cI cJ (TW cI cJ t f g h τ) [.int (nI 6), .int (nI 0)] (.int (bI (uU 6 0))) := by
  refine RZ.of (by decide) (Nat.le_of_ble_eq_true rfl) (fun p e s m below meth c ls S hr hlk hK hP hZ hl => ?_)
  obtain ⟨hx, hb, hml, hown, hU⟩ := id S
  have hl : lv_has ls 4 [(0, .int (nI 6)), (1, .int (nI 0))] := hl
  refine lv_iload_n hx hb dX3_isUnder_0 rfl (lv_at hl 0 rfl) ?_
  refine lv_istore_n (lv' := [(2, .int (nI 6)), (0, .int (nI 6)), (1, .int (nI 0))]) hx hb dX3_isUnder_1 rfl hl (by decide) rfl (fun ls hl => ?_)
  refine lv_iconst (v := nI 0) hx hb dX3_isUnder_2 (by decide) ?_
  refine lv_istore_n (lv' := [(3, .int (nI 0)), (2, .int (nI 6)), (0, .int (nI 6)), (1, .int (nI 0))]) hx hb dX3_isUnder_3 rfl hl (by decide) rfl (fun ls hl => ?_)
  refine lv_iload_n hx hb dX3_isUnder_4 rfl (lv_at hl 0 rfl) ?_
  refine lv_bipush (v := nI 7) hx hb dX3_isUnder_5 (by decide) ?_
  refine q_icmp_geN (tgt := 38) (a := 0) (b := 7) hx hb dX3_isUnder_7 (by decide) (by omega) (by omega) (fun h => absurd h (by omega)) (fun _ => ?_)
  refine lv_iload_n hx hb dX3_isUnder_10 rfl (lv_at hl 1 rfl) ?_
  refine lv_bipush (v := nI 6) hx hb dX3_isUnder_11 (by decide) ?_
  refine RO.callS S ks_X3_44 (c_X3_isWithin l D cI cJ t f g h τ (nI 6) (nI 6)) hK hP ⟨Nat.le_of_ble_eq_true rfl, Nat.le_of_ble_eq_true rfl⟩ hl.1 rfl rfl (Nat.le_of_ble_eq_true rfl) (Nat.zero_le _) (Nat.zero_le _) dX3_isUnder_13 ?_
  refine q_if_eqB (tgt := 38) hx hb dX3_isUnder_16 (by decide) (fun h => absurd (⟨nI_le (by omega) (by omega), nI_le (by omega) (by omega)⟩) h) (fun _ => ?_)
  refine lv_iload_n hx hb dX3_isUnder_19 rfl (lv_at hl 1 rfl) ?_
  refine lv_iload_n hx hb dX3_isUnder_20 rfl (lv_at hl 3 rfl) ?_
  refine q_icmp_neN (tgt := 26) (a := 6) (b := 0) hx hb dX3_isUnder_21 (by decide) (by omega) (by omega) (fun _ => ?_) (fun h => absurd h (by omega))
  refine va_gets hx hb hZ.2.2.1 va_S.rf hown (hU _ mF_X3_235) (fun _ h => h) dX3_isUnder_26 ?_
  refine lv_iload_n hx hb dX3_isUnder_29 rfl (lv_at hl 1 rfl) ?_
  refine va_ti hx hb hZ.2.2.2 va_S.rf (i := nI 6) (v := .int (kab 6)) (vp_in_nI (by omega) (by decide)) (by rw [nI_clamp (by omega)]) dX3_isUnder_30 ?_
  refine q_eqi (y := nI 1) (rfl) ?_
  refine lv_istore_n (lv' := [(2, .int (nI 1)), (3, .int (nI 0)), (0, .int (nI 6)), (1, .int (nI 0))]) hx hb dX3_isUnder_31 rfl hl (by decide) rfl (fun ls hl => ?_)
  refine lv_iinc (v := nI 1) (lv' := [(3, .int (nI 1)), (2, .int (nI 1)), (0, .int (nI 6)), (1, .int (nI 0))]) hx hb dX3_isUnder_32 hl (k := 1) rfl (by decide) (by decide) rfl (fun ls hl => ?_)
  refine lv_goto (tgt := 4) hx hb dX3_isUnder_35 (by decide) ?_
  refine lv_iload_n hx hb dX3_isUnder_4 rfl (lv_at hl 0 rfl) ?_
  refine lv_bipush (v := nI 7) hx hb dX3_isUnder_5 (by decide) ?_
  refine q_icmp_geN (tgt := 38) (a := 1) (b := 7) hx hb dX3_isUnder_7 (by decide) (by omega) (by omega) (fun h => absurd h (by omega)) (fun _ => ?_)
  refine lv_iload_n hx hb dX3_isUnder_10 rfl (lv_at hl 1 rfl) ?_
  refine lv_bipush (v := nI 6) hx hb dX3_isUnder_11 (by decide) ?_
  refine RO.callS S ks_X3_44 (c_X3_isWithin l D cI cJ t f g h τ (nI 1) (nI 6)) hK hP ⟨Nat.le_of_ble_eq_true rfl, Nat.le_of_ble_eq_true rfl⟩ hl.1 rfl rfl (Nat.le_of_ble_eq_true rfl) (Nat.zero_le _) (Nat.zero_le _) dX3_isUnder_13 ?_
  refine q_if_eqB (tgt := 38) hx hb dX3_isUnder_16 (by decide) (fun h => absurd (⟨nI_le (by omega) (by omega), nI_le (by omega) (by omega)⟩) h) (fun _ => ?_)
  refine lv_iload_n hx hb dX3_isUnder_19 rfl (lv_at hl 1 rfl) ?_
  refine lv_iload_n hx hb dX3_isUnder_20 rfl (lv_at hl 3 rfl) ?_
  refine q_icmp_neN (tgt := 26) (a := 1) (b := 0) hx hb dX3_isUnder_21 (by decide) (by omega) (by omega) (fun _ => ?_) (fun h => absurd h (by omega))
  refine va_gets hx hb hZ.2.2.1 va_S.rf hown (hU _ mF_X3_235) (fun _ h => h) dX3_isUnder_26 ?_
  refine lv_iload_n hx hb dX3_isUnder_29 rfl (lv_at hl 1 rfl) ?_
  refine va_ti hx hb hZ.2.2.2 va_S.rf (i := nI 1) (v := .int (kab 1)) (vp_in_nI (by omega) (by decide)) (by rw [nI_clamp (by omega)]) dX3_isUnder_30 ?_
  refine q_eqi (y := nI 0) (rfl) ?_
  refine lv_istore_n (lv' := [(2, .int (nI 0)), (3, .int (nI 1)), (0, .int (nI 6)), (1, .int (nI 0))]) hx hb dX3_isUnder_31 rfl hl (by decide) rfl (fun ls hl => ?_)
  refine lv_iinc (v := nI 2) (lv' := [(3, .int (nI 2)), (2, .int (nI 0)), (0, .int (nI 6)), (1, .int (nI 0))]) hx hb dX3_isUnder_32 hl (k := 1) rfl (by decide) (by decide) rfl (fun ls hl => ?_)
  refine lv_goto (tgt := 4) hx hb dX3_isUnder_35 (by decide) ?_
  refine lv_iload_n hx hb dX3_isUnder_4 rfl (lv_at hl 0 rfl) ?_
  refine lv_bipush (v := nI 7) hx hb dX3_isUnder_5 (by decide) ?_
  refine q_icmp_geN (tgt := 38) (a := 2) (b := 7) hx hb dX3_isUnder_7 (by decide) (by omega) (by omega) (fun h => absurd h (by omega)) (fun _ => ?_)
  refine lv_iload_n hx hb dX3_isUnder_10 rfl (lv_at hl 1 rfl) ?_
  refine lv_bipush (v := nI 6) hx hb dX3_isUnder_11 (by decide) ?_
  refine RO.callS S ks_X3_44 (c_X3_isWithin l D cI cJ t f g h τ (nI 0) (nI 6)) hK hP ⟨Nat.le_of_ble_eq_true rfl, Nat.le_of_ble_eq_true rfl⟩ hl.1 rfl rfl (Nat.le_of_ble_eq_true rfl) (Nat.zero_le _) (Nat.zero_le _) dX3_isUnder_13 ?_
  refine q_if_eqB (tgt := 38) hx hb dX3_isUnder_16 (by decide) (fun h => absurd (⟨nI_le (by omega) (by omega), nI_le (by omega) (by omega)⟩) h) (fun _ => ?_)
  refine lv_iload_n hx hb dX3_isUnder_19 rfl (lv_at hl 1 rfl) ?_
  refine lv_iload_n hx hb dX3_isUnder_20 rfl (lv_at hl 3 rfl) ?_
  refine q_icmp_neN (tgt := 26) (a := 0) (b := 0) hx hb dX3_isUnder_21 (by decide) (by omega) (by omega) (fun h => absurd h (by omega)) (fun _ => ?_)
  refine lv_iconst (v := nI 1) hx hb dX3_isUnder_24 (by decide) ?_
  exact RO.zret S hr hlk (bI_t (by decide)) dX3_isUnder_25
set_option maxRecDepth 100000 in
set_option maxHeartbeats 4000000 in
theorem c_X3_isUnder_6_1 (l : Launch) (D : va_G) (cI cJ : ClassId) (t : Nat → Nat) (f g h : Nat → Int32) (τ : Nat → Nat → Int32) (mt ka : Nat) : RZ mt ka l yX3_isUnder cX3_isUnder 4 (some .boolean) 1 D cI cJ (TW cI cJ t f g h τ) [.int (nI 6), .int (nI 1)] (.int (bI (uU 6 1))) := by
  refine RZ.of (by decide) (Nat.le_of_ble_eq_true rfl) (fun p e s m below meth c ls S hr hlk hK hP hZ hl => ?_)
  obtain ⟨hx, hb, hml, hown, hU⟩ := id S
  have hl : lv_has ls 4 [(0, .int (nI 6)), (1, .int (nI 1))] := hl
  refine lv_iload_n hx hb dX3_isUnder_0 rfl (lv_at hl 0 rfl) ?_
  refine lv_istore_n (lv' := [(2, .int (nI 6)), (0, .int (nI 6)), (1, .int (nI 1))]) hx hb dX3_isUnder_1 rfl hl (by decide) rfl (fun ls hl => ?_)
  refine lv_iconst (v := nI 0) hx hb dX3_isUnder_2 (by decide) ?_
  refine lv_istore_n (lv' := [(3, .int (nI 0)), (2, .int (nI 6)), (0, .int (nI 6)), (1, .int (nI 1))]) hx hb dX3_isUnder_3 rfl hl (by decide) rfl (fun ls hl => ?_)
  refine lv_iload_n hx hb dX3_isUnder_4 rfl (lv_at hl 0 rfl) ?_
  refine lv_bipush (v := nI 7) hx hb dX3_isUnder_5 (by decide) ?_
  refine q_icmp_geN (tgt := 38) (a := 0) (b := 7) hx hb dX3_isUnder_7 (by decide) (by omega) (by omega) (fun h => absurd h (by omega)) (fun _ => ?_)
  refine lv_iload_n hx hb dX3_isUnder_10 rfl (lv_at hl 1 rfl) ?_
  refine lv_bipush (v := nI 6) hx hb dX3_isUnder_11 (by decide) ?_
  refine RO.callS S ks_X3_44 (c_X3_isWithin l D cI cJ t f g h τ (nI 6) (nI 6)) hK hP ⟨Nat.le_of_ble_eq_true rfl, Nat.le_of_ble_eq_true rfl⟩ hl.1 rfl rfl (Nat.le_of_ble_eq_true rfl) (Nat.zero_le _) (Nat.zero_le _) dX3_isUnder_13 ?_
  refine q_if_eqB (tgt := 38) hx hb dX3_isUnder_16 (by decide) (fun h => absurd (⟨nI_le (by omega) (by omega), nI_le (by omega) (by omega)⟩) h) (fun _ => ?_)
  refine lv_iload_n hx hb dX3_isUnder_19 rfl (lv_at hl 1 rfl) ?_
  refine lv_iload_n hx hb dX3_isUnder_20 rfl (lv_at hl 3 rfl) ?_
  refine q_icmp_neN (tgt := 26) (a := 6) (b := 1) hx hb dX3_isUnder_21 (by decide) (by omega) (by omega) (fun _ => ?_) (fun h => absurd h (by omega))
  refine va_gets hx hb hZ.2.2.1 va_S.rf hown (hU _ mF_X3_235) (fun _ h => h) dX3_isUnder_26 ?_
  refine lv_iload_n hx hb dX3_isUnder_29 rfl (lv_at hl 1 rfl) ?_
  refine va_ti hx hb hZ.2.2.2 va_S.rf (i := nI 6) (v := .int (kab 6)) (vp_in_nI (by omega) (by decide)) (by rw [nI_clamp (by omega)]) dX3_isUnder_30 ?_
  refine q_eqi (y := nI 1) (rfl) ?_
  refine lv_istore_n (lv' := [(2, .int (nI 1)), (3, .int (nI 0)), (0, .int (nI 6)), (1, .int (nI 1))]) hx hb dX3_isUnder_31 rfl hl (by decide) rfl (fun ls hl => ?_)
  refine lv_iinc (v := nI 1) (lv' := [(3, .int (nI 1)), (2, .int (nI 1)), (0, .int (nI 6)), (1, .int (nI 1))]) hx hb dX3_isUnder_32 hl (k := 1) rfl (by decide) (by decide) rfl (fun ls hl => ?_)
  refine lv_goto (tgt := 4) hx hb dX3_isUnder_35 (by decide) ?_
  refine lv_iload_n hx hb dX3_isUnder_4 rfl (lv_at hl 0 rfl) ?_
  refine lv_bipush (v := nI 7) hx hb dX3_isUnder_5 (by decide) ?_
  refine q_icmp_geN (tgt := 38) (a := 1) (b := 7) hx hb dX3_isUnder_7 (by decide) (by omega) (by omega) (fun h => absurd h (by omega)) (fun _ => ?_)
  refine lv_iload_n hx hb dX3_isUnder_10 rfl (lv_at hl 1 rfl) ?_
  refine lv_bipush (v := nI 6) hx hb dX3_isUnder_11 (by decide) ?_
  refine RO.callS S ks_X3_44 (c_X3_isWithin l D cI cJ t f g h τ (nI 1) (nI 6)) hK hP ⟨Nat.le_of_ble_eq_true rfl, Nat.le_of_ble_eq_true rfl⟩ hl.1 rfl rfl (Nat.le_of_ble_eq_true rfl) (Nat.zero_le _) (Nat.zero_le _) dX3_isUnder_13 ?_
  refine q_if_eqB (tgt := 38) hx hb dX3_isUnder_16 (by decide) (fun h => absurd (⟨nI_le (by omega) (by omega), nI_le (by omega) (by omega)⟩) h) (fun _ => ?_)
  refine lv_iload_n hx hb dX3_isUnder_19 rfl (lv_at hl 1 rfl) ?_
  refine lv_iload_n hx hb dX3_isUnder_20 rfl (lv_at hl 3 rfl) ?_
  refine q_icmp_neN (tgt := 26) (a := 1) (b := 1) hx hb dX3_isUnder_21 (by decide) (by omega) (by omega) (fun h => absurd h (by omega)) (fun _ => ?_)
  refine lv_iconst (v := nI 1) hx hb dX3_isUnder_24 (by decide) ?_
  exact RO.zret S hr hlk (bI_t (by decide)) dX3_isUnder_25
set_option maxRecDepth 100000 in
set_option maxHeartbeats 4000000 in
theorem c_X3_isUnder_6_2 (l : Launch) (D : va_G) (cI cJ : ClassId) (t : Nat → Nat) (f g h : Nat → Int32) (τ : Nat → Nat → Int32) (mt ka : Nat) : RZ mt ka l yX3_isUnder cX3_isUnder 4 (some .boolean) 1 D cI cJ (TW cI cJ t f g h τ) [.int (nI 6), .int (nI 2)] (.int (bI (uU 6 2))) := by
  refine RZ.of (by decide) (Nat.le_of_ble_eq_true rfl) (fun p e s m below meth c ls S hr hlk hK hP hZ hl => ?_)
  obtain ⟨hx, hb, hml, hown, hU⟩ := id S
  have hl : lv_has ls 4 [(0, .int (nI 6)), (1, .int (nI 2))] := hl
  refine lv_iload_n hx hb dX3_isUnder_0 rfl (lv_at hl 0 rfl) ?_
  refine lv_istore_n (lv' := [(2, .int (nI 6)), (0, .int (nI 6)), (1, .int (nI 2))]) hx hb dX3_isUnder_1 rfl hl (by decide) rfl (fun ls hl => ?_)
  refine lv_iconst (v := nI 0) hx hb dX3_isUnder_2 (by decide) ?_
  refine lv_istore_n (lv' := [(3, .int (nI 0)), (2, .int (nI 6)), (0, .int (nI 6)), (1, .int (nI 2))]) hx hb dX3_isUnder_3 rfl hl (by decide) rfl (fun ls hl => ?_)
  refine lv_iload_n hx hb dX3_isUnder_4 rfl (lv_at hl 0 rfl) ?_
  refine lv_bipush (v := nI 7) hx hb dX3_isUnder_5 (by decide) ?_
  refine q_icmp_geN (tgt := 38) (a := 0) (b := 7) hx hb dX3_isUnder_7 (by decide) (by omega) (by omega) (fun h => absurd h (by omega)) (fun _ => ?_)
  refine lv_iload_n hx hb dX3_isUnder_10 rfl (lv_at hl 1 rfl) ?_
  refine lv_bipush (v := nI 6) hx hb dX3_isUnder_11 (by decide) ?_
  refine RO.callS S ks_X3_44 (c_X3_isWithin l D cI cJ t f g h τ (nI 6) (nI 6)) hK hP ⟨Nat.le_of_ble_eq_true rfl, Nat.le_of_ble_eq_true rfl⟩ hl.1 rfl rfl (Nat.le_of_ble_eq_true rfl) (Nat.zero_le _) (Nat.zero_le _) dX3_isUnder_13 ?_
  refine q_if_eqB (tgt := 38) hx hb dX3_isUnder_16 (by decide) (fun h => absurd (⟨nI_le (by omega) (by omega), nI_le (by omega) (by omega)⟩) h) (fun _ => ?_)
  refine lv_iload_n hx hb dX3_isUnder_19 rfl (lv_at hl 1 rfl) ?_
  refine lv_iload_n hx hb dX3_isUnder_20 rfl (lv_at hl 3 rfl) ?_
  refine q_icmp_neN (tgt := 26) (a := 6) (b := 2) hx hb dX3_isUnder_21 (by decide) (by omega) (by omega) (fun _ => ?_) (fun h => absurd h (by omega))
  refine va_gets hx hb hZ.2.2.1 va_S.rf hown (hU _ mF_X3_235) (fun _ h => h) dX3_isUnder_26 ?_
  refine lv_iload_n hx hb dX3_isUnder_29 rfl (lv_at hl 1 rfl) ?_
  refine va_ti hx hb hZ.2.2.2 va_S.rf (i := nI 6) (v := .int (kab 6)) (vp_in_nI (by omega) (by decide)) (by rw [nI_clamp (by omega)]) dX3_isUnder_30 ?_
  refine q_eqi (y := nI 1) (rfl) ?_
  refine lv_istore_n (lv' := [(2, .int (nI 1)), (3, .int (nI 0)), (0, .int (nI 6)), (1, .int (nI 2))]) hx hb dX3_isUnder_31 rfl hl (by decide) rfl (fun ls hl => ?_)
  refine lv_iinc (v := nI 1) (lv' := [(3, .int (nI 1)), (2, .int (nI 1)), (0, .int (nI 6)), (1, .int (nI 2))]) hx hb dX3_isUnder_32 hl (k := 1) rfl (by decide) (by decide) rfl (fun ls hl => ?_)
  refine lv_goto (tgt := 4) hx hb dX3_isUnder_35 (by decide) ?_
  refine lv_iload_n hx hb dX3_isUnder_4 rfl (lv_at hl 0 rfl) ?_
  refine lv_bipush (v := nI 7) hx hb dX3_isUnder_5 (by decide) ?_
  refine q_icmp_geN (tgt := 38) (a := 1) (b := 7) hx hb dX3_isUnder_7 (by decide) (by omega) (by omega) (fun h => absurd h (by omega)) (fun _ => ?_)
  refine lv_iload_n hx hb dX3_isUnder_10 rfl (lv_at hl 1 rfl) ?_
  refine lv_bipush (v := nI 6) hx hb dX3_isUnder_11 (by decide) ?_
  refine RO.callS S ks_X3_44 (c_X3_isWithin l D cI cJ t f g h τ (nI 1) (nI 6)) hK hP ⟨Nat.le_of_ble_eq_true rfl, Nat.le_of_ble_eq_true rfl⟩ hl.1 rfl rfl (Nat.le_of_ble_eq_true rfl) (Nat.zero_le _) (Nat.zero_le _) dX3_isUnder_13 ?_
  refine q_if_eqB (tgt := 38) hx hb dX3_isUnder_16 (by decide) (fun h => absurd (⟨nI_le (by omega) (by omega), nI_le (by omega) (by omega)⟩) h) (fun _ => ?_)
  refine lv_iload_n hx hb dX3_isUnder_19 rfl (lv_at hl 1 rfl) ?_
  refine lv_iload_n hx hb dX3_isUnder_20 rfl (lv_at hl 3 rfl) ?_
  refine q_icmp_neN (tgt := 26) (a := 1) (b := 2) hx hb dX3_isUnder_21 (by decide) (by omega) (by omega) (fun _ => ?_) (fun h => absurd h (by omega))
  refine va_gets hx hb hZ.2.2.1 va_S.rf hown (hU _ mF_X3_235) (fun _ h => h) dX3_isUnder_26 ?_
  refine lv_iload_n hx hb dX3_isUnder_29 rfl (lv_at hl 1 rfl) ?_
  refine va_ti hx hb hZ.2.2.2 va_S.rf (i := nI 1) (v := .int (kab 1)) (vp_in_nI (by omega) (by decide)) (by rw [nI_clamp (by omega)]) dX3_isUnder_30 ?_
  refine q_eqi (y := nI 0) (rfl) ?_
  refine lv_istore_n (lv' := [(2, .int (nI 0)), (3, .int (nI 1)), (0, .int (nI 6)), (1, .int (nI 2))]) hx hb dX3_isUnder_31 rfl hl (by decide) rfl (fun ls hl => ?_)
  refine lv_iinc (v := nI 2) (lv' := [(3, .int (nI 2)), (2, .int (nI 0)), (0, .int (nI 6)), (1, .int (nI 2))]) hx hb dX3_isUnder_32 hl (k := 1) rfl (by decide) (by decide) rfl (fun ls hl => ?_)
  refine lv_goto (tgt := 4) hx hb dX3_isUnder_35 (by decide) ?_
  refine lv_iload_n hx hb dX3_isUnder_4 rfl (lv_at hl 0 rfl) ?_
  refine lv_bipush (v := nI 7) hx hb dX3_isUnder_5 (by decide) ?_
  refine q_icmp_geN (tgt := 38) (a := 2) (b := 7) hx hb dX3_isUnder_7 (by decide) (by omega) (by omega) (fun h => absurd h (by omega)) (fun _ => ?_)
  refine lv_iload_n hx hb dX3_isUnder_10 rfl (lv_at hl 1 rfl) ?_
  refine lv_bipush (v := nI 6) hx hb dX3_isUnder_11 (by decide) ?_
  refine RO.callS S ks_X3_44 (c_X3_isWithin l D cI cJ t f g h τ (nI 0) (nI 6)) hK hP ⟨Nat.le_of_ble_eq_true rfl, Nat.le_of_ble_eq_true rfl⟩ hl.1 rfl rfl (Nat.le_of_ble_eq_true rfl) (Nat.zero_le _) (Nat.zero_le _) dX3_isUnder_13 ?_
  refine q_if_eqB (tgt := 38) hx hb dX3_isUnder_16 (by decide) (fun h => absurd (⟨nI_le (by omega) (by omega), nI_le (by omega) (by omega)⟩) h) (fun _ => ?_)
  refine lv_iload_n hx hb dX3_isUnder_19 rfl (lv_at hl 1 rfl) ?_
  refine lv_iload_n hx hb dX3_isUnder_20 rfl (lv_at hl 3 rfl) ?_
  refine q_icmp_neN (tgt := 26) (a := 0) (b := 2) hx hb dX3_isUnder_21 (by decide) (by omega) (by omega) (fun _ => ?_) (fun h => absurd h (by omega))
  refine va_gets hx hb hZ.2.2.1 va_S.rf hown (hU _ mF_X3_235) (fun _ h => h) dX3_isUnder_26 ?_
  refine lv_iload_n hx hb dX3_isUnder_29 rfl (lv_at hl 1 rfl) ?_
  refine va_ti hx hb hZ.2.2.2 va_S.rf (i := nI 0) (v := .int (kab 0)) (vp_in_nI (by omega) (by decide)) (by rw [nI_clamp (by omega)]) dX3_isUnder_30 ?_
  refine q_eqi (y := (-1)) (rfl) ?_
  refine lv_istore_n (lv' := [(2, .int (-1)), (3, .int (nI 2)), (0, .int (nI 6)), (1, .int (nI 2))]) hx hb dX3_isUnder_31 rfl hl (by decide) rfl (fun ls hl => ?_)
  refine lv_iinc (v := nI 3) (lv' := [(3, .int (nI 3)), (2, .int (-1)), (0, .int (nI 6)), (1, .int (nI 2))]) hx hb dX3_isUnder_32 hl (k := 1) rfl (by decide) (by decide) rfl (fun ls hl => ?_)
  refine lv_goto (tgt := 4) hx hb dX3_isUnder_35 (by decide) ?_
  refine lv_iload_n hx hb dX3_isUnder_4 rfl (lv_at hl 0 rfl) ?_
  refine lv_bipush (v := nI 7) hx hb dX3_isUnder_5 (by decide) ?_
  refine q_icmp_geN (tgt := 38) (a := 3) (b := 7) hx hb dX3_isUnder_7 (by decide) (by omega) (by omega) (fun h => absurd h (by omega)) (fun _ => ?_)
  refine lv_iload_n hx hb dX3_isUnder_10 rfl (lv_at hl 1 rfl) ?_
  refine lv_bipush (v := nI 6) hx hb dX3_isUnder_11 (by decide) ?_
  refine RO.callS S ks_X3_44 (c_X3_isWithin l D cI cJ t f g h τ (-1) (nI 6)) hK hP ⟨Nat.le_of_ble_eq_true rfl, Nat.le_of_ble_eq_true rfl⟩ hl.1 rfl rfl (Nat.le_of_ble_eq_true rfl) (Nat.zero_le _) (Nat.zero_le _) dX3_isUnder_13 ?_
  refine q_if_eqB (tgt := 38) hx hb dX3_isUnder_16 (by decide) (fun _ => ?_) (fun h => absurd h (by decide))
  refine lv_iconst (v := nI 0) hx hb dX3_isUnder_38 (by decide) ?_
  exact RO.zret S hr hlk (bI_f (by decide)) dX3_isUnder_39
set_option maxRecDepth 100000 in
set_option maxHeartbeats 4000000 in
theorem c_X3_isUnder_6_3 (l : Launch) (D : va_G) (cI cJ : ClassId) (t : Nat → Nat) (f g h : Nat → Int32) (τ : Nat → Nat → Int32) (mt ka : Nat) : RZ mt ka l yX3_isUnder cX3_isUnder 4 (some .boolean) 1 D cI cJ (TW cI cJ t f g h τ) [.int (nI 6), .int (nI 3)] (.int (bI (uU 6 3))) := by
  refine RZ.of (by decide) (Nat.le_of_ble_eq_true rfl) (fun p e s m below meth c ls S hr hlk hK hP hZ hl => ?_)
  obtain ⟨hx, hb, hml, hown, hU⟩ := id S
  have hl : lv_has ls 4 [(0, .int (nI 6)), (1, .int (nI 3))] := hl
  refine lv_iload_n hx hb dX3_isUnder_0 rfl (lv_at hl 0 rfl) ?_
  refine lv_istore_n (lv' := [(2, .int (nI 6)), (0, .int (nI 6)), (1, .int (nI 3))]) hx hb dX3_isUnder_1 rfl hl (by decide) rfl (fun ls hl => ?_)
  refine lv_iconst (v := nI 0) hx hb dX3_isUnder_2 (by decide) ?_
  refine lv_istore_n (lv' := [(3, .int (nI 0)), (2, .int (nI 6)), (0, .int (nI 6)), (1, .int (nI 3))]) hx hb dX3_isUnder_3 rfl hl (by decide) rfl (fun ls hl => ?_)
  refine lv_iload_n hx hb dX3_isUnder_4 rfl (lv_at hl 0 rfl) ?_
  refine lv_bipush (v := nI 7) hx hb dX3_isUnder_5 (by decide) ?_
  refine q_icmp_geN (tgt := 38) (a := 0) (b := 7) hx hb dX3_isUnder_7 (by decide) (by omega) (by omega) (fun h => absurd h (by omega)) (fun _ => ?_)
  refine lv_iload_n hx hb dX3_isUnder_10 rfl (lv_at hl 1 rfl) ?_
  refine lv_bipush (v := nI 6) hx hb dX3_isUnder_11 (by decide) ?_
  refine RO.callS S ks_X3_44 (c_X3_isWithin l D cI cJ t f g h τ (nI 6) (nI 6)) hK hP ⟨Nat.le_of_ble_eq_true rfl, Nat.le_of_ble_eq_true rfl⟩ hl.1 rfl rfl (Nat.le_of_ble_eq_true rfl) (Nat.zero_le _) (Nat.zero_le _) dX3_isUnder_13 ?_
  refine q_if_eqB (tgt := 38) hx hb dX3_isUnder_16 (by decide) (fun h => absurd (⟨nI_le (by omega) (by omega), nI_le (by omega) (by omega)⟩) h) (fun _ => ?_)
  refine lv_iload_n hx hb dX3_isUnder_19 rfl (lv_at hl 1 rfl) ?_
  refine lv_iload_n hx hb dX3_isUnder_20 rfl (lv_at hl 3 rfl) ?_
  refine q_icmp_neN (tgt := 26) (a := 6) (b := 3) hx hb dX3_isUnder_21 (by decide) (by omega) (by omega) (fun _ => ?_) (fun h => absurd h (by omega))
  refine va_gets hx hb hZ.2.2.1 va_S.rf hown (hU _ mF_X3_235) (fun _ h => h) dX3_isUnder_26 ?_
  refine lv_iload_n hx hb dX3_isUnder_29 rfl (lv_at hl 1 rfl) ?_
  refine va_ti hx hb hZ.2.2.2 va_S.rf (i := nI 6) (v := .int (kab 6)) (vp_in_nI (by omega) (by decide)) (by rw [nI_clamp (by omega)]) dX3_isUnder_30 ?_
  refine q_eqi (y := nI 1) (rfl) ?_
  refine lv_istore_n (lv' := [(2, .int (nI 1)), (3, .int (nI 0)), (0, .int (nI 6)), (1, .int (nI 3))]) hx hb dX3_isUnder_31 rfl hl (by decide) rfl (fun ls hl => ?_)
  refine lv_iinc (v := nI 1) (lv' := [(3, .int (nI 1)), (2, .int (nI 1)), (0, .int (nI 6)), (1, .int (nI 3))]) hx hb dX3_isUnder_32 hl (k := 1) rfl (by decide) (by decide) rfl (fun ls hl => ?_)
  refine lv_goto (tgt := 4) hx hb dX3_isUnder_35 (by decide) ?_
  refine lv_iload_n hx hb dX3_isUnder_4 rfl (lv_at hl 0 rfl) ?_
  refine lv_bipush (v := nI 7) hx hb dX3_isUnder_5 (by decide) ?_
  refine q_icmp_geN (tgt := 38) (a := 1) (b := 7) hx hb dX3_isUnder_7 (by decide) (by omega) (by omega) (fun h => absurd h (by omega)) (fun _ => ?_)
  refine lv_iload_n hx hb dX3_isUnder_10 rfl (lv_at hl 1 rfl) ?_
  refine lv_bipush (v := nI 6) hx hb dX3_isUnder_11 (by decide) ?_
  refine RO.callS S ks_X3_44 (c_X3_isWithin l D cI cJ t f g h τ (nI 1) (nI 6)) hK hP ⟨Nat.le_of_ble_eq_true rfl, Nat.le_of_ble_eq_true rfl⟩ hl.1 rfl rfl (Nat.le_of_ble_eq_true rfl) (Nat.zero_le _) (Nat.zero_le _) dX3_isUnder_13 ?_
  refine q_if_eqB (tgt := 38) hx hb dX3_isUnder_16 (by decide) (fun h => absurd (⟨nI_le (by omega) (by omega), nI_le (by omega) (by omega)⟩) h) (fun _ => ?_)
  refine lv_iload_n hx hb dX3_isUnder_19 rfl (lv_at hl 1 rfl) ?_
  refine lv_iload_n hx hb dX3_isUnder_20 rfl (lv_at hl 3 rfl) ?_
  refine q_icmp_neN (tgt := 26) (a := 1) (b := 3) hx hb dX3_isUnder_21 (by decide) (by omega) (by omega) (fun _ => ?_) (fun h => absurd h (by omega))
  refine va_gets hx hb hZ.2.2.1 va_S.rf hown (hU _ mF_X3_235) (fun _ h => h) dX3_isUnder_26 ?_
  refine lv_iload_n hx hb dX3_isUnder_29 rfl (lv_at hl 1 rfl) ?_
  refine va_ti hx hb hZ.2.2.2 va_S.rf (i := nI 1) (v := .int (kab 1)) (vp_in_nI (by omega) (by decide)) (by rw [nI_clamp (by omega)]) dX3_isUnder_30 ?_
  refine q_eqi (y := nI 0) (rfl) ?_
  refine lv_istore_n (lv' := [(2, .int (nI 0)), (3, .int (nI 1)), (0, .int (nI 6)), (1, .int (nI 3))]) hx hb dX3_isUnder_31 rfl hl (by decide) rfl (fun ls hl => ?_)
  refine lv_iinc (v := nI 2) (lv' := [(3, .int (nI 2)), (2, .int (nI 0)), (0, .int (nI 6)), (1, .int (nI 3))]) hx hb dX3_isUnder_32 hl (k := 1) rfl (by decide) (by decide) rfl (fun ls hl => ?_)
  refine lv_goto (tgt := 4) hx hb dX3_isUnder_35 (by decide) ?_
  refine lv_iload_n hx hb dX3_isUnder_4 rfl (lv_at hl 0 rfl) ?_
  refine lv_bipush (v := nI 7) hx hb dX3_isUnder_5 (by decide) ?_
  refine q_icmp_geN (tgt := 38) (a := 2) (b := 7) hx hb dX3_isUnder_7 (by decide) (by omega) (by omega) (fun h => absurd h (by omega)) (fun _ => ?_)
  refine lv_iload_n hx hb dX3_isUnder_10 rfl (lv_at hl 1 rfl) ?_
  refine lv_bipush (v := nI 6) hx hb dX3_isUnder_11 (by decide) ?_
  refine RO.callS S ks_X3_44 (c_X3_isWithin l D cI cJ t f g h τ (nI 0) (nI 6)) hK hP ⟨Nat.le_of_ble_eq_true rfl, Nat.le_of_ble_eq_true rfl⟩ hl.1 rfl rfl (Nat.le_of_ble_eq_true rfl) (Nat.zero_le _) (Nat.zero_le _) dX3_isUnder_13 ?_
  refine q_if_eqB (tgt := 38) hx hb dX3_isUnder_16 (by decide) (fun h => absurd (⟨nI_le (by omega) (by omega), nI_le (by omega) (by omega)⟩) h) (fun _ => ?_)
  refine lv_iload_n hx hb dX3_isUnder_19 rfl (lv_at hl 1 rfl) ?_
  refine lv_iload_n hx hb dX3_isUnder_20 rfl (lv_at hl 3 rfl) ?_
  refine q_icmp_neN (tgt := 26) (a := 0) (b := 3) hx hb dX3_isUnder_21 (by decide) (by omega) (by omega) (fun _ => ?_) (fun h => absurd h (by omega))
  refine va_gets hx hb hZ.2.2.1 va_S.rf hown (hU _ mF_X3_235) (fun _ h => h) dX3_isUnder_26 ?_
  refine lv_iload_n hx hb dX3_isUnder_29 rfl (lv_at hl 1 rfl) ?_
  refine va_ti hx hb hZ.2.2.2 va_S.rf (i := nI 0) (v := .int (kab 0)) (vp_in_nI (by omega) (by decide)) (by rw [nI_clamp (by omega)]) dX3_isUnder_30 ?_
  refine q_eqi (y := (-1)) (rfl) ?_
  refine lv_istore_n (lv' := [(2, .int (-1)), (3, .int (nI 2)), (0, .int (nI 6)), (1, .int (nI 3))]) hx hb dX3_isUnder_31 rfl hl (by decide) rfl (fun ls hl => ?_)
  refine lv_iinc (v := nI 3) (lv' := [(3, .int (nI 3)), (2, .int (-1)), (0, .int (nI 6)), (1, .int (nI 3))]) hx hb dX3_isUnder_32 hl (k := 1) rfl (by decide) (by decide) rfl (fun ls hl => ?_)
  refine lv_goto (tgt := 4) hx hb dX3_isUnder_35 (by decide) ?_
  refine lv_iload_n hx hb dX3_isUnder_4 rfl (lv_at hl 0 rfl) ?_
  refine lv_bipush (v := nI 7) hx hb dX3_isUnder_5 (by decide) ?_
  refine q_icmp_geN (tgt := 38) (a := 3) (b := 7) hx hb dX3_isUnder_7 (by decide) (by omega) (by omega) (fun h => absurd h (by omega)) (fun _ => ?_)
  refine lv_iload_n hx hb dX3_isUnder_10 rfl (lv_at hl 1 rfl) ?_
  refine lv_bipush (v := nI 6) hx hb dX3_isUnder_11 (by decide) ?_
  refine RO.callS S ks_X3_44 (c_X3_isWithin l D cI cJ t f g h τ (-1) (nI 6)) hK hP ⟨Nat.le_of_ble_eq_true rfl, Nat.le_of_ble_eq_true rfl⟩ hl.1 rfl rfl (Nat.le_of_ble_eq_true rfl) (Nat.zero_le _) (Nat.zero_le _) dX3_isUnder_13 ?_
  refine q_if_eqB (tgt := 38) hx hb dX3_isUnder_16 (by decide) (fun _ => ?_) (fun h => absurd h (by decide))
  refine lv_iconst (v := nI 0) hx hb dX3_isUnder_38 (by decide) ?_
  exact RO.zret S hr hlk (bI_f (by decide)) dX3_isUnder_39
set_option maxRecDepth 100000 in
set_option maxHeartbeats 4000000 in
theorem c_X3_isUnder_6_4 (l : Launch) (D : va_G) (cI cJ : ClassId) (t : Nat → Nat) (f g h : Nat → Int32) (τ : Nat → Nat → Int32) (mt ka : Nat) : RZ mt ka l yX3_isUnder cX3_isUnder 4 (some .boolean) 1 D cI cJ (TW cI cJ t f g h τ) [.int (nI 6), .int (nI 4)] (.int (bI (uU 6 4))) := by
  refine RZ.of (by decide) (Nat.le_of_ble_eq_true rfl) (fun p e s m below meth c ls S hr hlk hK hP hZ hl => ?_)
  obtain ⟨hx, hb, hml, hown, hU⟩ := id S
  have hl : lv_has ls 4 [(0, .int (nI 6)), (1, .int (nI 4))] := hl
  refine lv_iload_n hx hb dX3_isUnder_0 rfl (lv_at hl 0 rfl) ?_
  refine lv_istore_n (lv' := [(2, .int (nI 6)), (0, .int (nI 6)), (1, .int (nI 4))]) hx hb dX3_isUnder_1 rfl hl (by decide) rfl (fun ls hl => ?_)
  refine lv_iconst (v := nI 0) hx hb dX3_isUnder_2 (by decide) ?_
  refine lv_istore_n (lv' := [(3, .int (nI 0)), (2, .int (nI 6)), (0, .int (nI 6)), (1, .int (nI 4))]) hx hb dX3_isUnder_3 rfl hl (by decide) rfl (fun ls hl => ?_)
  refine lv_iload_n hx hb dX3_isUnder_4 rfl (lv_at hl 0 rfl) ?_
  refine lv_bipush (v := nI 7) hx hb dX3_isUnder_5 (by decide) ?_
  refine q_icmp_geN (tgt := 38) (a := 0) (b := 7) hx hb dX3_isUnder_7 (by decide) (by omega) (by omega) (fun h => absurd h (by omega)) (fun _ => ?_)
  refine lv_iload_n hx hb dX3_isUnder_10 rfl (lv_at hl 1 rfl) ?_
  refine lv_bipush (v := nI 6) hx hb dX3_isUnder_11 (by decide) ?_
  refine RO.callS S ks_X3_44 (c_X3_isWithin l D cI cJ t f g h τ (nI 6) (nI 6)) hK hP ⟨Nat.le_of_ble_eq_true rfl, Nat.le_of_ble_eq_true rfl⟩ hl.1 rfl rfl (Nat.le_of_ble_eq_true rfl) (Nat.zero_le _) (Nat.zero_le _) dX3_isUnder_13 ?_
  refine q_if_eqB (tgt := 38) hx hb dX3_isUnder_16 (by decide) (fun h => absurd (⟨nI_le (by omega) (by omega), nI_le (by omega) (by omega)⟩) h) (fun _ => ?_)
  refine lv_iload_n hx hb dX3_isUnder_19 rfl (lv_at hl 1 rfl) ?_
  refine lv_iload_n hx hb dX3_isUnder_20 rfl (lv_at hl 3 rfl) ?_
  refine q_icmp_neN (tgt := 26) (a := 6) (b := 4) hx hb dX3_isUnder_21 (by decide) (by omega) (by omega) (fun _ => ?_) (fun h => absurd h (by omega))
  refine va_gets hx hb hZ.2.2.1 va_S.rf hown (hU _ mF_X3_235) (fun _ h => h) dX3_isUnder_26 ?_
  refine lv_iload_n hx hb dX3_isUnder_29 rfl (lv_at hl 1 rfl) ?_
  refine va_ti hx hb hZ.2.2.2 va_S.rf (i := nI 6) (v := .int (kab 6)) (vp_in_nI (by omega) (by decide)) (by rw [nI_clamp (by omega)]) dX3_isUnder_30 ?_
  refine q_eqi (y := nI 1) (rfl) ?_
  refine lv_istore_n (lv' := [(2, .int (nI 1)), (3, .int (nI 0)), (0, .int (nI 6)), (1, .int (nI 4))]) hx hb dX3_isUnder_31 rfl hl (by decide) rfl (fun ls hl => ?_)
  refine lv_iinc (v := nI 1) (lv' := [(3, .int (nI 1)), (2, .int (nI 1)), (0, .int (nI 6)), (1, .int (nI 4))]) hx hb dX3_isUnder_32 hl (k := 1) rfl (by decide) (by decide) rfl (fun ls hl => ?_)
  refine lv_goto (tgt := 4) hx hb dX3_isUnder_35 (by decide) ?_
  refine lv_iload_n hx hb dX3_isUnder_4 rfl (lv_at hl 0 rfl) ?_
  refine lv_bipush (v := nI 7) hx hb dX3_isUnder_5 (by decide) ?_
  refine q_icmp_geN (tgt := 38) (a := 1) (b := 7) hx hb dX3_isUnder_7 (by decide) (by omega) (by omega) (fun h => absurd h (by omega)) (fun _ => ?_)
  refine lv_iload_n hx hb dX3_isUnder_10 rfl (lv_at hl 1 rfl) ?_
  refine lv_bipush (v := nI 6) hx hb dX3_isUnder_11 (by decide) ?_
  refine RO.callS S ks_X3_44 (c_X3_isWithin l D cI cJ t f g h τ (nI 1) (nI 6)) hK hP ⟨Nat.le_of_ble_eq_true rfl, Nat.le_of_ble_eq_true rfl⟩ hl.1 rfl rfl (Nat.le_of_ble_eq_true rfl) (Nat.zero_le _) (Nat.zero_le _) dX3_isUnder_13 ?_
  refine q_if_eqB (tgt := 38) hx hb dX3_isUnder_16 (by decide) (fun h => absurd (⟨nI_le (by omega) (by omega), nI_le (by omega) (by omega)⟩) h) (fun _ => ?_)
  refine lv_iload_n hx hb dX3_isUnder_19 rfl (lv_at hl 1 rfl) ?_
  refine lv_iload_n hx hb dX3_isUnder_20 rfl (lv_at hl 3 rfl) ?_
  refine q_icmp_neN (tgt := 26) (a := 1) (b := 4) hx hb dX3_isUnder_21 (by decide) (by omega) (by omega) (fun _ => ?_) (fun h => absurd h (by omega))
  refine va_gets hx hb hZ.2.2.1 va_S.rf hown (hU _ mF_X3_235) (fun _ h => h) dX3_isUnder_26 ?_
  refine lv_iload_n hx hb dX3_isUnder_29 rfl (lv_at hl 1 rfl) ?_
  refine va_ti hx hb hZ.2.2.2 va_S.rf (i := nI 1) (v := .int (kab 1)) (vp_in_nI (by omega) (by decide)) (by rw [nI_clamp (by omega)]) dX3_isUnder_30 ?_
  refine q_eqi (y := nI 0) (rfl) ?_
  refine lv_istore_n (lv' := [(2, .int (nI 0)), (3, .int (nI 1)), (0, .int (nI 6)), (1, .int (nI 4))]) hx hb dX3_isUnder_31 rfl hl (by decide) rfl (fun ls hl => ?_)
  refine lv_iinc (v := nI 2) (lv' := [(3, .int (nI 2)), (2, .int (nI 0)), (0, .int (nI 6)), (1, .int (nI 4))]) hx hb dX3_isUnder_32 hl (k := 1) rfl (by decide) (by decide) rfl (fun ls hl => ?_)
  refine lv_goto (tgt := 4) hx hb dX3_isUnder_35 (by decide) ?_
  refine lv_iload_n hx hb dX3_isUnder_4 rfl (lv_at hl 0 rfl) ?_
  refine lv_bipush (v := nI 7) hx hb dX3_isUnder_5 (by decide) ?_
  refine q_icmp_geN (tgt := 38) (a := 2) (b := 7) hx hb dX3_isUnder_7 (by decide) (by omega) (by omega) (fun h => absurd h (by omega)) (fun _ => ?_)
  refine lv_iload_n hx hb dX3_isUnder_10 rfl (lv_at hl 1 rfl) ?_
  refine lv_bipush (v := nI 6) hx hb dX3_isUnder_11 (by decide) ?_
  refine RO.callS S ks_X3_44 (c_X3_isWithin l D cI cJ t f g h τ (nI 0) (nI 6)) hK hP ⟨Nat.le_of_ble_eq_true rfl, Nat.le_of_ble_eq_true rfl⟩ hl.1 rfl rfl (Nat.le_of_ble_eq_true rfl) (Nat.zero_le _) (Nat.zero_le _) dX3_isUnder_13 ?_
  refine q_if_eqB (tgt := 38) hx hb dX3_isUnder_16 (by decide) (fun h => absurd (⟨nI_le (by omega) (by omega), nI_le (by omega) (by omega)⟩) h) (fun _ => ?_)
  refine lv_iload_n hx hb dX3_isUnder_19 rfl (lv_at hl 1 rfl) ?_
  refine lv_iload_n hx hb dX3_isUnder_20 rfl (lv_at hl 3 rfl) ?_
  refine q_icmp_neN (tgt := 26) (a := 0) (b := 4) hx hb dX3_isUnder_21 (by decide) (by omega) (by omega) (fun _ => ?_) (fun h => absurd h (by omega))
  refine va_gets hx hb hZ.2.2.1 va_S.rf hown (hU _ mF_X3_235) (fun _ h => h) dX3_isUnder_26 ?_
  refine lv_iload_n hx hb dX3_isUnder_29 rfl (lv_at hl 1 rfl) ?_
  refine va_ti hx hb hZ.2.2.2 va_S.rf (i := nI 0) (v := .int (kab 0)) (vp_in_nI (by omega) (by decide)) (by rw [nI_clamp (by omega)]) dX3_isUnder_30 ?_
  refine q_eqi (y := (-1)) (rfl) ?_
  refine lv_istore_n (lv' := [(2, .int (-1)), (3, .int (nI 2)), (0, .int (nI 6)), (1, .int (nI 4))]) hx hb dX3_isUnder_31 rfl hl (by decide) rfl (fun ls hl => ?_)
  refine lv_iinc (v := nI 3) (lv' := [(3, .int (nI 3)), (2, .int (-1)), (0, .int (nI 6)), (1, .int (nI 4))]) hx hb dX3_isUnder_32 hl (k := 1) rfl (by decide) (by decide) rfl (fun ls hl => ?_)
  refine lv_goto (tgt := 4) hx hb dX3_isUnder_35 (by decide) ?_
  refine lv_iload_n hx hb dX3_isUnder_4 rfl (lv_at hl 0 rfl) ?_
  refine lv_bipush (v := nI 7) hx hb dX3_isUnder_5 (by decide) ?_
  refine q_icmp_geN (tgt := 38) (a := 3) (b := 7) hx hb dX3_isUnder_7 (by decide) (by omega) (by omega) (fun h => absurd h (by omega)) (fun _ => ?_)
  refine lv_iload_n hx hb dX3_isUnder_10 rfl (lv_at hl 1 rfl) ?_
  refine lv_bipush (v := nI 6) hx hb dX3_isUnder_11 (by decide) ?_
  refine RO.callS S ks_X3_44 (c_X3_isWithin l D cI cJ t f g h τ (-1) (nI 6)) hK hP ⟨Nat.le_of_ble_eq_true rfl, Nat.le_of_ble_eq_true rfl⟩ hl.1 rfl rfl (Nat.le_of_ble_eq_true rfl) (Nat.zero_le _) (Nat.zero_le _) dX3_isUnder_13 ?_
  refine q_if_eqB (tgt := 38) hx hb dX3_isUnder_16 (by decide) (fun _ => ?_) (fun h => absurd h (by decide))
  refine lv_iconst (v := nI 0) hx hb dX3_isUnder_38 (by decide) ?_
  exact RO.zret S hr hlk (bI_f (by decide)) dX3_isUnder_39
set_option maxRecDepth 100000 in
set_option maxHeartbeats 4000000 in
theorem c_X3_isUnder_6_5 (l : Launch) (D : va_G) (cI cJ : ClassId) (t : Nat → Nat) (f g h : Nat → Int32) (τ : Nat → Nat → Int32) (mt ka : Nat) : RZ mt ka l yX3_isUnder cX3_isUnder 4 (some .boolean) 1 D cI cJ (TW cI cJ t f g h τ) [.int (nI 6), .int (nI 5)] (.int (bI (uU 6 5))) := by
  refine RZ.of (by decide) (Nat.le_of_ble_eq_true rfl) (fun p e s m below meth c ls S hr hlk hK hP hZ hl => ?_)
  obtain ⟨hx, hb, hml, hown, hU⟩ := id S
  have hl : lv_has ls 4 [(0, .int (nI 6)), (1, .int (nI 5))] := hl
  refine lv_iload_n hx hb dX3_isUnder_0 rfl (lv_at hl 0 rfl) ?_
  refine lv_istore_n (lv' := [(2, .int (nI 6)), (0, .int (nI 6)), (1, .int (nI 5))]) hx hb dX3_isUnder_1 rfl hl (by decide) rfl (fun ls hl => ?_)
  refine lv_iconst (v := nI 0) hx hb dX3_isUnder_2 (by decide) ?_
  refine lv_istore_n (lv' := [(3, .int (nI 0)), (2, .int (nI 6)), (0, .int (nI 6)), (1, .int (nI 5))]) hx hb dX3_isUnder_3 rfl hl (by decide) rfl (fun ls hl => ?_)
  refine lv_iload_n hx hb dX3_isUnder_4 rfl (lv_at hl 0 rfl) ?_
  refine lv_bipush (v := nI 7) hx hb dX3_isUnder_5 (by decide) ?_
  refine q_icmp_geN (tgt := 38) (a := 0) (b := 7) hx hb dX3_isUnder_7 (by decide) (by omega) (by omega) (fun h => absurd h (by omega)) (fun _ => ?_)
  refine lv_iload_n hx hb dX3_isUnder_10 rfl (lv_at hl 1 rfl) ?_
  refine lv_bipush (v := nI 6) hx hb dX3_isUnder_11 (by decide) ?_
  refine RO.callS S ks_X3_44 (c_X3_isWithin l D cI cJ t f g h τ (nI 6) (nI 6)) hK hP ⟨Nat.le_of_ble_eq_true rfl, Nat.le_of_ble_eq_true rfl⟩ hl.1 rfl rfl (Nat.le_of_ble_eq_true rfl) (Nat.zero_le _) (Nat.zero_le _) dX3_isUnder_13 ?_
  refine q_if_eqB (tgt := 38) hx hb dX3_isUnder_16 (by decide) (fun h => absurd (⟨nI_le (by omega) (by omega), nI_le (by omega) (by omega)⟩) h) (fun _ => ?_)
  refine lv_iload_n hx hb dX3_isUnder_19 rfl (lv_at hl 1 rfl) ?_
  refine lv_iload_n hx hb dX3_isUnder_20 rfl (lv_at hl 3 rfl) ?_
  refine q_icmp_neN (tgt := 26) (a := 6) (b := 5) hx hb dX3_isUnder_21 (by decide) (by omega) (by omega) (fun _ => ?_) (fun h => absurd h (by omega))
  refine va_gets hx hb hZ.2.2.1 va_S.rf hown (hU _ mF_X3_235) (fun _ h => h) dX3_isUnder_26 ?_
  refine lv_iload_n hx hb dX3_isUnder_29 rfl (lv_at hl 1 rfl) ?_
  refine va_ti hx hb hZ.2.2.2 va_S.rf (i := nI 6) (v := .int (kab 6)) (vp_in_nI (by omega) (by decide)) (by rw [nI_clamp (by omega)]) dX3_isUnder_30 ?_
  refine q_eqi (y := nI 1) (rfl) ?_
  refine lv_istore_n (lv' := [(2, .int (nI 1)), (3, .int (nI 0)), (0, .int (nI 6)), (1, .int (nI 5))]) hx hb dX3_isUnder_31 rfl hl (by decide) rfl (fun ls hl => ?_)
  refine lv_iinc (v := nI 1) (lv' := [(3, .int (nI 1)), (2, .int (nI 1)), (0, .int (nI 6)), (1, .int (nI 5))]) hx hb dX3_isUnder_32 hl (k := 1) rfl (by decide) (by decide) rfl (fun ls hl => ?_)
  refine lv_goto (tgt := 4) hx hb dX3_isUnder_35 (by decide) ?_
  refine lv_iload_n hx hb dX3_isUnder_4 rfl (lv_at hl 0 rfl) ?_
  refine lv_bipush (v := nI 7) hx hb dX3_isUnder_5 (by decide) ?_
  refine q_icmp_geN (tgt := 38) (a := 1) (b := 7) hx hb dX3_isUnder_7 (by decide) (by omega) (by omega) (fun h => absurd h (by omega)) (fun _ => ?_)
  refine lv_iload_n hx hb dX3_isUnder_10 rfl (lv_at hl 1 rfl) ?_
  refine lv_bipush (v := nI 6) hx hb dX3_isUnder_11 (by decide) ?_
  refine RO.callS S ks_X3_44 (c_X3_isWithin l D cI cJ t f g h τ (nI 1) (nI 6)) hK hP ⟨Nat.le_of_ble_eq_true rfl, Nat.le_of_ble_eq_true rfl⟩ hl.1 rfl rfl (Nat.le_of_ble_eq_true rfl) (Nat.zero_le _) (Nat.zero_le _) dX3_isUnder_13 ?_
  refine q_if_eqB (tgt := 38) hx hb dX3_isUnder_16 (by decide) (fun h => absurd (⟨nI_le (by omega) (by omega), nI_le (by omega) (by omega)⟩) h) (fun _ => ?_)
  refine lv_iload_n hx hb dX3_isUnder_19 rfl (lv_at hl 1 rfl) ?_
  refine lv_iload_n hx hb dX3_isUnder_20 rfl (lv_at hl 3 rfl) ?_
  refine q_icmp_neN (tgt := 26) (a := 1) (b := 5) hx hb dX3_isUnder_21 (by decide) (by omega) (by omega) (fun _ => ?_) (fun h => absurd h (by omega))
  refine va_gets hx hb hZ.2.2.1 va_S.rf hown (hU _ mF_X3_235) (fun _ h => h) dX3_isUnder_26 ?_
  refine lv_iload_n hx hb dX3_isUnder_29 rfl (lv_at hl 1 rfl) ?_
  refine va_ti hx hb hZ.2.2.2 va_S.rf (i := nI 1) (v := .int (kab 1)) (vp_in_nI (by omega) (by decide)) (by rw [nI_clamp (by omega)]) dX3_isUnder_30 ?_
  refine q_eqi (y := nI 0) (rfl) ?_
  refine lv_istore_n (lv' := [(2, .int (nI 0)), (3, .int (nI 1)), (0, .int (nI 6)), (1, .int (nI 5))]) hx hb dX3_isUnder_31 rfl hl (by decide) rfl (fun ls hl => ?_)
  refine lv_iinc (v := nI 2) (lv' := [(3, .int (nI 2)), (2, .int (nI 0)), (0, .int (nI 6)), (1, .int (nI 5))]) hx hb dX3_isUnder_32 hl (k := 1) rfl (by decide) (by decide) rfl (fun ls hl => ?_)
  refine lv_goto (tgt := 4) hx hb dX3_isUnder_35 (by decide) ?_
  refine lv_iload_n hx hb dX3_isUnder_4 rfl (lv_at hl 0 rfl) ?_
  refine lv_bipush (v := nI 7) hx hb dX3_isUnder_5 (by decide) ?_
  refine q_icmp_geN (tgt := 38) (a := 2) (b := 7) hx hb dX3_isUnder_7 (by decide) (by omega) (by omega) (fun h => absurd h (by omega)) (fun _ => ?_)
  refine lv_iload_n hx hb dX3_isUnder_10 rfl (lv_at hl 1 rfl) ?_
  refine lv_bipush (v := nI 6) hx hb dX3_isUnder_11 (by decide) ?_
  refine RO.callS S ks_X3_44 (c_X3_isWithin l D cI cJ t f g h τ (nI 0) (nI 6)) hK hP ⟨Nat.le_of_ble_eq_true rfl, Nat.le_of_ble_eq_true rfl⟩ hl.1 rfl rfl (Nat.le_of_ble_eq_true rfl) (Nat.zero_le _) (Nat.zero_le _) dX3_isUnder_13 ?_
  refine q_if_eqB (tgt := 38) hx hb dX3_isUnder_16 (by decide) (fun h => absurd (⟨nI_le (by omega) (by omega), nI_le (by omega) (by omega)⟩) h) (fun _ => ?_)
  refine lv_iload_n hx hb dX3_isUnder_19 rfl (lv_at hl 1 rfl) ?_
  refine lv_iload_n hx hb dX3_isUnder_20 rfl (lv_at hl 3 rfl) ?_
  refine q_icmp_neN (tgt := 26) (a := 0) (b := 5) hx hb dX3_isUnder_21 (by decide) (by omega) (by omega) (fun _ => ?_) (fun h => absurd h (by omega))
  refine va_gets hx hb hZ.2.2.1 va_S.rf hown (hU _ mF_X3_235) (fun _ h => h) dX3_isUnder_26 ?_
  refine lv_iload_n hx hb dX3_isUnder_29 rfl (lv_at hl 1 rfl) ?_
  refine va_ti hx hb hZ.2.2.2 va_S.rf (i := nI 0) (v := .int (kab 0)) (vp_in_nI (by omega) (by decide)) (by rw [nI_clamp (by omega)]) dX3_isUnder_30 ?_
  refine q_eqi (y := (-1)) (rfl) ?_
  refine lv_istore_n (lv' := [(2, .int (-1)), (3, .int (nI 2)), (0, .int (nI 6)), (1, .int (nI 5))]) hx hb dX3_isUnder_31 rfl hl (by decide) rfl (fun ls hl => ?_)
  refine lv_iinc (v := nI 3) (lv' := [(3, .int (nI 3)), (2, .int (-1)), (0, .int (nI 6)), (1, .int (nI 5))]) hx hb dX3_isUnder_32 hl (k := 1) rfl (by decide) (by decide) rfl (fun ls hl => ?_)
  refine lv_goto (tgt := 4) hx hb dX3_isUnder_35 (by decide) ?_
  refine lv_iload_n hx hb dX3_isUnder_4 rfl (lv_at hl 0 rfl) ?_
  refine lv_bipush (v := nI 7) hx hb dX3_isUnder_5 (by decide) ?_
  refine q_icmp_geN (tgt := 38) (a := 3) (b := 7) hx hb dX3_isUnder_7 (by decide) (by omega) (by omega) (fun h => absurd h (by omega)) (fun _ => ?_)
  refine lv_iload_n hx hb dX3_isUnder_10 rfl (lv_at hl 1 rfl) ?_
  refine lv_bipush (v := nI 6) hx hb dX3_isUnder_11 (by decide) ?_
  refine RO.callS S ks_X3_44 (c_X3_isWithin l D cI cJ t f g h τ (-1) (nI 6)) hK hP ⟨Nat.le_of_ble_eq_true rfl, Nat.le_of_ble_eq_true rfl⟩ hl.1 rfl rfl (Nat.le_of_ble_eq_true rfl) (Nat.zero_le _) (Nat.zero_le _) dX3_isUnder_13 ?_
  refine q_if_eqB (tgt := 38) hx hb dX3_isUnder_16 (by decide) (fun _ => ?_) (fun h => absurd h (by decide))
  refine lv_iconst (v := nI 0) hx hb dX3_isUnder_38 (by decide) ?_
  exact RO.zret S hr hlk (bI_f (by decide)) dX3_isUnder_39
set_option maxRecDepth 100000 in
set_option maxHeartbeats 4000000 in
theorem c_X3_isUnder_6_6 (l : Launch) (D : va_G) (cI cJ : ClassId) (t : Nat → Nat) (f g h : Nat → Int32) (τ : Nat → Nat → Int32) (mt ka : Nat) : RZ mt ka l yX3_isUnder cX3_isUnder 4 (some .boolean) 1 D cI cJ (TW cI cJ t f g h τ) [.int (nI 6), .int (nI 6)] (.int (bI (uU 6 6))) := by
  refine RZ.of (by decide) (Nat.le_of_ble_eq_true rfl) (fun p e s m below meth c ls S hr hlk hK hP hZ hl => ?_)
  obtain ⟨hx, hb, hml, hown, hU⟩ := id S
  have hl : lv_has ls 4 [(0, .int (nI 6)), (1, .int (nI 6))] := hl
  refine lv_iload_n hx hb dX3_isUnder_0 rfl (lv_at hl 0 rfl) ?_
  refine lv_istore_n (lv' := [(2, .int (nI 6)), (0, .int (nI 6)), (1, .int (nI 6))]) hx hb dX3_isUnder_1 rfl hl (by decide) rfl (fun ls hl => ?_)
  refine lv_iconst (v := nI 0) hx hb dX3_isUnder_2 (by decide) ?_
  refine lv_istore_n (lv' := [(3, .int (nI 0)), (2, .int (nI 6)), (0, .int (nI 6)), (1, .int (nI 6))]) hx hb dX3_isUnder_3 rfl hl (by decide) rfl (fun ls hl => ?_)
  refine lv_iload_n hx hb dX3_isUnder_4 rfl (lv_at hl 0 rfl) ?_
  refine lv_bipush (v := nI 7) hx hb dX3_isUnder_5 (by decide) ?_
  refine q_icmp_geN (tgt := 38) (a := 0) (b := 7) hx hb dX3_isUnder_7 (by decide) (by omega) (by omega) (fun h => absurd h (by omega)) (fun _ => ?_)
  refine lv_iload_n hx hb dX3_isUnder_10 rfl (lv_at hl 1 rfl) ?_
  refine lv_bipush (v := nI 6) hx hb dX3_isUnder_11 (by decide) ?_
  refine RO.callS S ks_X3_44 (c_X3_isWithin l D cI cJ t f g h τ (nI 6) (nI 6)) hK hP ⟨Nat.le_of_ble_eq_true rfl, Nat.le_of_ble_eq_true rfl⟩ hl.1 rfl rfl (Nat.le_of_ble_eq_true rfl) (Nat.zero_le _) (Nat.zero_le _) dX3_isUnder_13 ?_
  refine q_if_eqB (tgt := 38) hx hb dX3_isUnder_16 (by decide) (fun h => absurd (⟨nI_le (by omega) (by omega), nI_le (by omega) (by omega)⟩) h) (fun _ => ?_)
  refine lv_iload_n hx hb dX3_isUnder_19 rfl (lv_at hl 1 rfl) ?_
  refine lv_iload_n hx hb dX3_isUnder_20 rfl (lv_at hl 3 rfl) ?_
  refine q_icmp_neN (tgt := 26) (a := 6) (b := 6) hx hb dX3_isUnder_21 (by decide) (by omega) (by omega) (fun h => absurd h (by omega)) (fun _ => ?_)
  refine lv_iconst (v := nI 1) hx hb dX3_isUnder_24 (by decide) ?_
  exact RO.zret S hr hlk (bI_t (by decide)) dX3_isUnder_25
theorem c_X3_isUnder_all (l : Launch) (D : va_G) (cI cJ : ClassId) (t : Nat → Nat) (f g h : Nat → Int32) (τ : Nat → Nat → Int32) (mt ka : Nat) (q w : Nat) (hq : q ≤ 6) (hw6 : w ≤ 6) : RZ mt ka l yX3_isUnder cX3_isUnder 4 (some .boolean) 1 D cI cJ (TW cI cJ t f g h τ) [.int (nI q), .int (nI w)] (.int (bI (uU q w))) := by
  match q, w, hq, hw6 with
  | 0, 0, _, _ => exact c_X3_isUnder_0_0 l D cI cJ t f g h τ mt ka
  | 0, 1, _, _ => exact c_X3_isUnder_0_1 l D cI cJ t f g h τ mt ka
  | 0, 2, _, _ => exact c_X3_isUnder_0_2 l D cI cJ t f g h τ mt ka
  | 0, 3, _, _ => exact c_X3_isUnder_0_3 l D cI cJ t f g h τ mt ka
  | 0, 4, _, _ => exact c_X3_isUnder_0_4 l D cI cJ t f g h τ mt ka
  | 0, 5, _, _ => exact c_X3_isUnder_0_5 l D cI cJ t f g h τ mt ka
  | 0, 6, _, _ => exact c_X3_isUnder_0_6 l D cI cJ t f g h τ mt ka
  | 1, 0, _, _ => exact c_X3_isUnder_1_0 l D cI cJ t f g h τ mt ka
  | 1, 1, _, _ => exact c_X3_isUnder_1_1 l D cI cJ t f g h τ mt ka
  | 1, 2, _, _ => exact c_X3_isUnder_1_2 l D cI cJ t f g h τ mt ka
  | 1, 3, _, _ => exact c_X3_isUnder_1_3 l D cI cJ t f g h τ mt ka
  | 1, 4, _, _ => exact c_X3_isUnder_1_4 l D cI cJ t f g h τ mt ka
  | 1, 5, _, _ => exact c_X3_isUnder_1_5 l D cI cJ t f g h τ mt ka
  | 1, 6, _, _ => exact c_X3_isUnder_1_6 l D cI cJ t f g h τ mt ka
  | 2, 0, _, _ => exact c_X3_isUnder_2_0 l D cI cJ t f g h τ mt ka
  | 2, 1, _, _ => exact c_X3_isUnder_2_1 l D cI cJ t f g h τ mt ka
  | 2, 2, _, _ => exact c_X3_isUnder_2_2 l D cI cJ t f g h τ mt ka
  | 2, 3, _, _ => exact c_X3_isUnder_2_3 l D cI cJ t f g h τ mt ka
  | 2, 4, _, _ => exact c_X3_isUnder_2_4 l D cI cJ t f g h τ mt ka
  | 2, 5, _, _ => exact c_X3_isUnder_2_5 l D cI cJ t f g h τ mt ka
  | 2, 6, _, _ => exact c_X3_isUnder_2_6 l D cI cJ t f g h τ mt ka
  | 3, 0, _, _ => exact c_X3_isUnder_3_0 l D cI cJ t f g h τ mt ka
  | 3, 1, _, _ => exact c_X3_isUnder_3_1 l D cI cJ t f g h τ mt ka
  | 3, 2, _, _ => exact c_X3_isUnder_3_2 l D cI cJ t f g h τ mt ka
  | 3, 3, _, _ => exact c_X3_isUnder_3_3 l D cI cJ t f g h τ mt ka
  | 3, 4, _, _ => exact c_X3_isUnder_3_4 l D cI cJ t f g h τ mt ka
  | 3, 5, _, _ => exact c_X3_isUnder_3_5 l D cI cJ t f g h τ mt ka
  | 3, 6, _, _ => exact c_X3_isUnder_3_6 l D cI cJ t f g h τ mt ka
  | 4, 0, _, _ => exact c_X3_isUnder_4_0 l D cI cJ t f g h τ mt ka
  | 4, 1, _, _ => exact c_X3_isUnder_4_1 l D cI cJ t f g h τ mt ka
  | 4, 2, _, _ => exact c_X3_isUnder_4_2 l D cI cJ t f g h τ mt ka
  | 4, 3, _, _ => exact c_X3_isUnder_4_3 l D cI cJ t f g h τ mt ka
  | 4, 4, _, _ => exact c_X3_isUnder_4_4 l D cI cJ t f g h τ mt ka
  | 4, 5, _, _ => exact c_X3_isUnder_4_5 l D cI cJ t f g h τ mt ka
  | 4, 6, _, _ => exact c_X3_isUnder_4_6 l D cI cJ t f g h τ mt ka
  | 5, 0, _, _ => exact c_X3_isUnder_5_0 l D cI cJ t f g h τ mt ka
  | 5, 1, _, _ => exact c_X3_isUnder_5_1 l D cI cJ t f g h τ mt ka
  | 5, 2, _, _ => exact c_X3_isUnder_5_2 l D cI cJ t f g h τ mt ka
  | 5, 3, _, _ => exact c_X3_isUnder_5_3 l D cI cJ t f g h τ mt ka
  | 5, 4, _, _ => exact c_X3_isUnder_5_4 l D cI cJ t f g h τ mt ka
  | 5, 5, _, _ => exact c_X3_isUnder_5_5 l D cI cJ t f g h τ mt ka
  | 5, 6, _, _ => exact c_X3_isUnder_5_6 l D cI cJ t f g h τ mt ka
  | 6, 0, _, _ => exact c_X3_isUnder_6_0 l D cI cJ t f g h τ mt ka
  | 6, 1, _, _ => exact c_X3_isUnder_6_1 l D cI cJ t f g h τ mt ka
  | 6, 2, _, _ => exact c_X3_isUnder_6_2 l D cI cJ t f g h τ mt ka
  | 6, 3, _, _ => exact c_X3_isUnder_6_3 l D cI cJ t f g h τ mt ka
  | 6, 4, _, _ => exact c_X3_isUnder_6_4 l D cI cJ t f g h τ mt ka
  | 6, 5, _, _ => exact c_X3_isUnder_6_5 l D cI cJ t f g h τ mt ka
  | 6, 6, _, _ => exact c_X3_isUnder_6_6 l D cI cJ t f g h τ mt ka
set_option maxRecDepth 100000 in
set_option maxHeartbeats 4000000 in
theorem c_X3_as_bad (l : Launch) (D : va_G) (cI cJ : ClassId) (t : Nat → Nat) (f g h : Nat → Int32) (τ : Nat → Nat → Int32) (mt ka : Nat) (x : Int32) (y : Int32) (hb0 : ¬ ((nI 0 ≤ x ∧ x ≤ nI 9) ∧ (nI 0 ≤ y ∧ y ≤ nI 6))) : WZ mt ka l yX3_as cX3_as 4 (some .int) 2 D cI cJ (TW cI cJ t f g h τ) [.ref (t 0), .int x, .int y] (some (.int (-1000001))) (TW cI cJ t f g h (va_up τ 9 (cFi (τ 9) 0))) := by
  refine WZ.of (by decide) (Nat.le_of_ble_eq_true rfl) (fun p e s m below meth c ls A S hr hlk hK hP hD hS hA hZ hl => ?_)
  obtain ⟨hx, hb, hml, hown, hU⟩ := id S
  have hl : lv_has ls 4 [(0, .ref (t 0)), (1, .int x), (2, .int y)] := hl
  refine lv_iload_n hx hb dX3_as_0 rfl (lv_at hl 1 rfl) ?_
  refine lv_bipush (v := nI 9) hx hb dX3_as_1 (by decide) ?_
  refine RO.callS S ks_X3_44 (c_X3_isWithin l D cI cJ t f g h τ x (nI 9)) hK hP ⟨Nat.le_of_ble_eq_true rfl, Nat.le_of_ble_eq_true rfl⟩ hl.1 rfl rfl (Nat.le_of_ble_eq_true rfl) (Nat.zero_le _) (Nat.zero_le _) dX3_as_3 ?_
  refine q_if_eqB (tgt := 18) hx hb dX3_as_6 (by decide) (fun c_6 => ?_) (fun c_6 => ?_)
  · refine lv_aload_n hx hb dX3_as_18 rfl (lv_at hl 0 rfl) ?_
    refine lv_iconst (v := nI 0) hx hb dX3_as_19 (by decide) ?_
    refine WR.callV (w1 := TW cI cJ t f g h (va_up τ 9 (cFi (τ 9) 0))) S kv_X3_48 (c_X3_fd0 l D cI cJ t f g h τ) hK hP hD hS hA ([]) ([]) (List.append_nil _).symm (List.append_nil _).symm TW_fst rfl ⟨Nat.le_of_ble_eq_true rfl, Nat.le_of_ble_eq_true rfl⟩ hl.1 rfl rfl (Nat.le_of_ble_eq_true rfl) (Nat.zero_le _) (Nat.zero_le _) dX3_as_20 (fun H locs hP hD hS => ?_)
    exact WR.iret S hr hlk hP hS (rfl) rfl dX3_as_23
  · refine lv_iload_n hx hb dX3_as_9 rfl (lv_at hl 2 rfl) ?_
    refine lv_bipush (v := nI 6) hx hb dX3_as_10 (by decide) ?_
    refine RO.callS S ks_X3_44 (c_X3_isWithin l D cI cJ t f g h τ y (nI 6)) hK hP ⟨Nat.le_of_ble_eq_true rfl, Nat.le_of_ble_eq_true rfl⟩ hl.1 rfl rfl (Nat.le_of_ble_eq_true rfl) (Nat.zero_le _) (Nat.zero_le _) dX3_as_12 ?_
    refine q_if_neB (tgt := 24) hx hb dX3_as_15 (by decide) (fun c_15 => ?_) (fun c_15 => ?_)
    · exact absurd (⟨c_6, c_15⟩) hb0
    · refine lv_aload_n hx hb dX3_as_18 rfl (lv_at hl 0 rfl) ?_
      refine lv_iconst (v := nI 0) hx hb dX3_as_19 (by decide) ?_
      refine WR.callV (w1 := TW cI cJ t f g h (va_up τ 9 (cFi (τ 9) 0))) S kv_X3_48 (c_X3_fd0 l D cI cJ t f g h τ) hK hP hD hS hA ([]) ([]) (List.append_nil _).symm (List.append_nil _).symm TW_fst rfl ⟨Nat.le_of_ble_eq_true rfl, Nat.le_of_ble_eq_true rfl⟩ hl.1 rfl rfl (Nat.le_of_ble_eq_true rfl) (Nat.zero_le _) (Nat.zero_le _) dX3_as_20 (fun H locs hP hD hS => ?_)
      exact WR.iret S hr hlk hP hS (rfl) rfl dX3_as_23
set_option maxRecDepth 100000 in
set_option maxHeartbeats 4000000 in
theorem c_X3_as_miss (l : Launch) (D : va_G) (cI cJ : ClassId) (t : Nat → Nat) (f g h : Nat → Int32) (τ : Nat → Nat → Int32) (mt ka : Nat) (p9 : Nat) (w : Nat) (n : Nat) (hw : Wk f n) (hp9 : p9 < 10) (hw6 : w ≤ 6) (hv : f (72 + p9) = -1) : WZ mt ka l yX3_as cX3_as 4 (some .int) 2 D cI cJ (TW cI cJ t f g h τ) [.ref (t 0), .int (nI p9), .int (nI w)] (some (.int (-1000006))) (TW cI cJ t f g h (va_up τ 9 (cFi (τ 9) 5))) := by
  have h8 := hw.2.1
  refine WZ.of (by decide) (Nat.le_of_ble_eq_true rfl) (fun p e s m below meth c ls A S hr hlk hK hP hD hS hA hZ hl => ?_)
  obtain ⟨hx, hb, hml, hown, hU⟩ := id S
  have hl : lv_has ls 4 [(0, .ref (t 0)), (1, .int (nI p9)), (2, .int (nI w))] := hl
  refine lv_iload_n hx hb dX3_as_0 rfl (lv_at hl 1 rfl) ?_
  refine lv_bipush (v := nI 9) hx hb dX3_as_1 (by decide) ?_
  refine RO.callS S ks_X3_44 (c_X3_isWithin l D cI cJ t f g h τ (nI p9) (nI 9)) hK hP ⟨Nat.le_of_ble_eq_true rfl, Nat.le_of_ble_eq_true rfl⟩ hl.1 rfl rfl (Nat.le_of_ble_eq_true rfl) (Nat.zero_le _) (Nat.zero_le _) dX3_as_3 ?_
  refine q_if_eqB (tgt := 18) hx hb dX3_as_6 (by decide) (fun h => absurd (⟨nI_le (by omega) (by omega), nI_le (by omega) (by omega)⟩) h) (fun _ => ?_)
  refine lv_iload_n hx hb dX3_as_9 rfl (lv_at hl 2 rfl) ?_
  refine lv_bipush (v := nI 6) hx hb dX3_as_10 (by decide) ?_
  refine RO.callS S ks_X3_44 (c_X3_isWithin l D cI cJ t f g h τ (nI w) (nI 6)) hK hP ⟨Nat.le_of_ble_eq_true rfl, Nat.le_of_ble_eq_true rfl⟩ hl.1 rfl rfl (Nat.le_of_ble_eq_true rfl) (Nat.zero_le _) (Nat.zero_le _) dX3_as_12 ?_
  refine q_if_neB (tgt := 24) hx hb dX3_as_15 (by decide) (fun _ => ?_) (fun h => absurd (⟨nI_le (by omega) (by omega), nI_le (by omega) (by omega)⟩) h)
  refine lv_aload_n hx hb dX3_as_24 rfl (lv_at hl 0 rfl) ?_
  refine g3_live S hK hP dX3_as_25 ?_
  refine g30_spots S hK (TW_live hP) dX3_as_28 ?_
  refine lv_iload_n hx hb dX3_as_31 rfl (lv_at hl 1 rfl) ?_
  refine l0_spots S hK (TW_live hP) (j := p9) (by omega) dX3_as_32 ?_
  refine q_eqi (y := (-1)) (hv) ?_
  refine lv_istore_n (lv' := [(3, .int (-1)), (0, .ref (t 0)), (1, .int (nI p9)), (2, .int (nI w))]) hx hb dX3_as_33 rfl hl (by decide) rfl (fun ls hl => ?_)
  refine lv_aload_n hx hb dX3_as_34 rfl (lv_at hl 1 rfl) ?_
  refine lv_iload_n hx hb dX3_as_35 rfl (lv_at hl 0 rfl) ?_
  refine RO.callV S kv_X3_72 (c_X3_isCask l D cI cJ t f g h τ (-1) n (hw)) hK hP rfl ⟨Nat.le_of_ble_eq_true rfl, Nat.le_of_ble_eq_true rfl⟩ hl.1 rfl rfl (Nat.le_of_ble_eq_true rfl) (Nat.zero_le _) (Nat.zero_le _) dX3_as_36 ?_
  refine q_if_neB (tgt := 48) hx hb dX3_as_39 (by decide) (fun h => absurd h (fun q => absurd q.1 (by decide))) (fun _ => ?_)
  refine lv_aload_n hx hb dX3_as_42 rfl (lv_at hl 1 rfl) ?_
  refine lv_iconst (v := nI 5) hx hb dX3_as_43 (by decide) ?_
  refine WR.callV (w1 := TW cI cJ t f g h (va_up τ 9 (cFi (τ 9) 5))) S kv_X3_48 (c_X3_fd5 l D cI cJ t f g h τ) hK hP hD hS hA ([]) ([]) (List.append_nil _).symm (List.append_nil _).symm TW_fst rfl ⟨Nat.le_of_ble_eq_true rfl, Nat.le_of_ble_eq_true rfl⟩ hl.1 rfl rfl (Nat.le_of_ble_eq_true rfl) (Nat.zero_le _) (Nat.zero_le _) dX3_as_44 (fun H locs hP hD hS => ?_)
  exact WR.iret S hr hlk hP hS (rfl) rfl dX3_as_47
set_option maxRecDepth 100000 in
set_option maxHeartbeats 4000000 in
theorem c_X3_as_ok (l : Launch) (D : va_G) (cI cJ : ClassId) (t : Nat → Nat) (f g h : Nat → Int32) (τ : Nat → Nat → Int32) (mt ka : Nat) (p9 : Nat) (w : Nat) (n : Nat) (hw : Wk f n) (hp9 : p9 < 10) (hw6 : w ≤ 6) (k : Nat) (hk : k < n) (hv : f (72 + p9) = nI k) (q : Nat) (hq9 : fi f k 0 = nI q) (hq : q ≤ 6) (huu : uU q w) : WZ mt ka l yX3_as cX3_as 4 (some .int) 2 D cI cJ (TW cI cJ t f g h τ) [.ref (t 0), .int (nI p9), .int (nI w)] (some (.int (nI k))) (TW cI cJ t f g h τ) := by
  have h8 := hw.2.1
  refine WZ.of (by decide) (Nat.le_of_ble_eq_true rfl) (fun p e s m below meth c ls A S hr hlk hK hP hD hS hA hZ hl => ?_)
  obtain ⟨hx, hb, hml, hown, hU⟩ := id S
  have hl : lv_has ls 4 [(0, .ref (t 0)), (1, .int (nI p9)), (2, .int (nI w))] := hl
  refine lv_iload_n hx hb dX3_as_0 rfl (lv_at hl 1 rfl) ?_
  refine lv_bipush (v := nI 9) hx hb dX3_as_1 (by decide) ?_
  refine RO.callS S ks_X3_44 (c_X3_isWithin l D cI cJ t f g h τ (nI p9) (nI 9)) hK hP ⟨Nat.le_of_ble_eq_true rfl, Nat.le_of_ble_eq_true rfl⟩ hl.1 rfl rfl (Nat.le_of_ble_eq_true rfl) (Nat.zero_le _) (Nat.zero_le _) dX3_as_3 ?_
  refine q_if_eqB (tgt := 18) hx hb dX3_as_6 (by decide) (fun h => absurd (⟨nI_le (by omega) (by omega), nI_le (by omega) (by omega)⟩) h) (fun _ => ?_)
  refine lv_iload_n hx hb dX3_as_9 rfl (lv_at hl 2 rfl) ?_
  refine lv_bipush (v := nI 6) hx hb dX3_as_10 (by decide) ?_
  refine RO.callS S ks_X3_44 (c_X3_isWithin l D cI cJ t f g h τ (nI w) (nI 6)) hK hP ⟨Nat.le_of_ble_eq_true rfl, Nat.le_of_ble_eq_true rfl⟩ hl.1 rfl rfl (Nat.le_of_ble_eq_true rfl) (Nat.zero_le _) (Nat.zero_le _) dX3_as_12 ?_
  refine q_if_neB (tgt := 24) hx hb dX3_as_15 (by decide) (fun _ => ?_) (fun h => absurd (⟨nI_le (by omega) (by omega), nI_le (by omega) (by omega)⟩) h)
  refine lv_aload_n hx hb dX3_as_24 rfl (lv_at hl 0 rfl) ?_
  refine g3_live S hK hP dX3_as_25 ?_
  refine g30_spots S hK (TW_live hP) dX3_as_28 ?_
  refine lv_iload_n hx hb dX3_as_31 rfl (lv_at hl 1 rfl) ?_
  refine l0_spots S hK (TW_live hP) (j := p9) (by omega) dX3_as_32 ?_
  refine q_eqi (y := nI k) (hv) ?_
  refine lv_istore_n (lv' := [(3, .int (nI k)), (0, .ref (t 0)), (1, .int (nI p9)), (2, .int (nI w))]) hx hb dX3_as_33 rfl hl (by decide) rfl (fun ls hl => ?_)
  refine lv_aload_n hx hb dX3_as_34 rfl (lv_at hl 1 rfl) ?_
  refine lv_iload_n hx hb dX3_as_35 rfl (lv_at hl 0 rfl) ?_
  refine RO.callV S kv_X3_72 (c_X3_isCask l D cI cJ t f g h τ (nI k) n (hw)) hK hP rfl ⟨Nat.le_of_ble_eq_true rfl, Nat.le_of_ble_eq_true rfl⟩ hl.1 rfl rfl (Nat.le_of_ble_eq_true rfl) (Nat.zero_le _) (Nat.zero_le _) dX3_as_36 ?_
  refine q_if_neB (tgt := 48) hx hb dX3_as_39 (by decide) (fun _ => ?_) (fun h => absurd (⟨nI_pos' (by omega), nI_lt (by omega) (by omega)⟩) h)
  refine lv_aload_n hx hb dX3_as_48 rfl (lv_at hl 1 rfl) ?_
  refine g3_live S hK hP dX3_as_49 ?_
  refine g30_kind S hK (TW_live hP) dX3_as_52 ?_
  refine lv_iload_n hx hb dX3_as_55 rfl (lv_at hl 0 rfl) ?_
  refine l0_kind S hK (TW_live hP) (j := k) (by omega) dX3_as_56 ?_
  refine q_eqi (y := nI q) (hq9) ?_
  refine lv_iload_n hx hb dX3_as_57 rfl (lv_at hl 3 rfl) ?_
  refine RZ.callS hZ hS S ks_X3_188 (c_X3_isUnder_all l D cI cJ t f g h τ mt ka q w (by omega) (by omega)) hK hP ⟨Nat.le_of_ble_eq_true rfl, Nat.le_of_ble_eq_true rfl⟩ hl.1 rfl rfl (Nat.le_of_ble_eq_true rfl) (Nat.zero_le _) (Nat.zero_le _) dX3_as_58 ?_
  refine q_if_neB (tgt := 70) hx hb dX3_as_61 (by decide) (fun _ => ?_) (fun h => absurd (huu) h)
  refine lv_iload_n hx hb dX3_as_70 rfl (lv_at hl 0 rfl) ?_
  exact WR.iret S hr hlk hP hS (rfl) rfl dX3_as_71
set_option maxRecDepth 100000 in
set_option maxHeartbeats 4000000 in
theorem c_X3_as_kind (l : Launch) (D : va_G) (cI cJ : ClassId) (t : Nat → Nat) (f g h : Nat → Int32) (τ : Nat → Nat → Int32) (mt ka : Nat) (p9 : Nat) (w : Nat) (n : Nat) (hw : Wk f n) (hp9 : p9 < 10) (hw6 : w ≤ 6) (k : Nat) (hk : k < n) (hv : f (72 + p9) = nI k) (q : Nat) (hq9 : fi f k 0 = nI q) (hq : q ≤ 6) (huu : ¬ uU q w) : WZ mt ka l yX3_as cX3_as 4 (some .int) 2 D cI cJ (TW cI cJ t f g h τ) [.ref (t 0), .int (nI p9), .int (nI w)] (some (.int (-1000003))) (TW cI cJ t f g h (va_up τ 9 (cFi (τ 9) 2))) := by
  have h8 := hw.2.1
  refine WZ.of (by decide) (Nat.le_of_ble_eq_true rfl) (fun p e s m below meth c ls A S hr hlk hK hP hD hS hA hZ hl => ?_)
  obtain ⟨hx, hb, hml, hown, hU⟩ := id S
  have hl : lv_has ls 4 [(0, .ref (t 0)), (1, .int (nI p9)), (2, .int (nI w))] := hl
  refine lv_iload_n hx hb dX3_as_0 rfl (lv_at hl 1 rfl) ?_
  refine lv_bipush (v := nI 9) hx hb dX3_as_1 (by decide) ?_
  refine RO.callS S ks_X3_44 (c_X3_isWithin l D cI cJ t f g h τ (nI p9) (nI 9)) hK hP ⟨Nat.le_of_ble_eq_true rfl, Nat.le_of_ble_eq_true rfl⟩ hl.1 rfl rfl (Nat.le_of_ble_eq_true rfl) (Nat.zero_le _) (Nat.zero_le _) dX3_as_3 ?_
  refine q_if_eqB (tgt := 18) hx hb dX3_as_6 (by decide) (fun h => absurd (⟨nI_le (by omega) (by omega), nI_le (by omega) (by omega)⟩) h) (fun _ => ?_)
  refine lv_iload_n hx hb dX3_as_9 rfl (lv_at hl 2 rfl) ?_
  refine lv_bipush (v := nI 6) hx hb dX3_as_10 (by decide) ?_
  refine RO.callS S ks_X3_44 (c_X3_isWithin l D cI cJ t f g h τ (nI w) (nI 6)) hK hP ⟨Nat.le_of_ble_eq_true rfl, Nat.le_of_ble_eq_true rfl⟩ hl.1 rfl rfl (Nat.le_of_ble_eq_true rfl) (Nat.zero_le _) (Nat.zero_le _) dX3_as_12 ?_
  refine q_if_neB (tgt := 24) hx hb dX3_as_15 (by decide) (fun _ => ?_) (fun h => absurd (⟨nI_le (by omega) (by omega), nI_le (by omega) (by omega)⟩) h)
  refine lv_aload_n hx hb dX3_as_24 rfl (lv_at hl 0 rfl) ?_
  refine g3_live S hK hP dX3_as_25 ?_
  refine g30_spots S hK (TW_live hP) dX3_as_28 ?_
  refine lv_iload_n hx hb dX3_as_31 rfl (lv_at hl 1 rfl) ?_
  refine l0_spots S hK (TW_live hP) (j := p9) (by omega) dX3_as_32 ?_
  refine q_eqi (y := nI k) (hv) ?_
  refine lv_istore_n (lv' := [(3, .int (nI k)), (0, .ref (t 0)), (1, .int (nI p9)), (2, .int (nI w))]) hx hb dX3_as_33 rfl hl (by decide) rfl (fun ls hl => ?_)
  refine lv_aload_n hx hb dX3_as_34 rfl (lv_at hl 1 rfl) ?_
  refine lv_iload_n hx hb dX3_as_35 rfl (lv_at hl 0 rfl) ?_
  refine RO.callV S kv_X3_72 (c_X3_isCask l D cI cJ t f g h τ (nI k) n (hw)) hK hP rfl ⟨Nat.le_of_ble_eq_true rfl, Nat.le_of_ble_eq_true rfl⟩ hl.1 rfl rfl (Nat.le_of_ble_eq_true rfl) (Nat.zero_le _) (Nat.zero_le _) dX3_as_36 ?_
  refine q_if_neB (tgt := 48) hx hb dX3_as_39 (by decide) (fun _ => ?_) (fun h => absurd (⟨nI_pos' (by omega), nI_lt (by omega) (by omega)⟩) h)
  refine lv_aload_n hx hb dX3_as_48 rfl (lv_at hl 1 rfl) ?_
  refine g3_live S hK hP dX3_as_49 ?_
  refine g30_kind S hK (TW_live hP) dX3_as_52 ?_
  refine lv_iload_n hx hb dX3_as_55 rfl (lv_at hl 0 rfl) ?_
  refine l0_kind S hK (TW_live hP) (j := k) (by omega) dX3_as_56 ?_
  refine q_eqi (y := nI q) (hq9) ?_
  refine lv_iload_n hx hb dX3_as_57 rfl (lv_at hl 3 rfl) ?_
  refine RZ.callS hZ hS S ks_X3_188 (c_X3_isUnder_all l D cI cJ t f g h τ mt ka q w (by omega) (by omega)) hK hP ⟨Nat.le_of_ble_eq_true rfl, Nat.le_of_ble_eq_true rfl⟩ hl.1 rfl rfl (Nat.le_of_ble_eq_true rfl) (Nat.zero_le _) (Nat.zero_le _) dX3_as_58 ?_
  refine q_if_neB (tgt := 70) hx hb dX3_as_61 (by decide) (fun h => absurd h (huu)) (fun _ => ?_)
  refine lv_aload_n hx hb dX3_as_64 rfl (lv_at hl 1 rfl) ?_
  refine lv_iconst (v := nI 2) hx hb dX3_as_65 (by decide) ?_
  refine WR.callV (w1 := TW cI cJ t f g h (va_up τ 9 (cFi (τ 9) 2))) S kv_X3_48 (c_X3_fd2 l D cI cJ t f g h τ) hK hP hD hS hA ([]) ([]) (List.append_nil _).symm (List.append_nil _).symm TW_fst rfl ⟨Nat.le_of_ble_eq_true rfl, Nat.le_of_ble_eq_true rfl⟩ hl.1 rfl rfl (Nat.le_of_ble_eq_true rfl) (Nat.zero_le _) (Nat.zero_le _) dX3_as_66 (fun H locs hP hD hS => ?_)
  exact WR.iret S hr hlk hP hS (rfl) rfl dX3_as_69

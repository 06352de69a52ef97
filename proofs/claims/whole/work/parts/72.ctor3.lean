set_option maxRecDepth 100000 in
set_option maxHeartbeats 4000000 in
theorem c_X3_init (l : Launch) (D : va_G) (cI cJ : ClassId) (b : Nat) : CT l yX3_init cX3_init 1 2 44 584 D cI cJ 3 [.null, .null, .null, .int 0, .null, .null, .null] b (fun q => TW cI cJ q nF nF nF (fun _ => zF)) := by
  refine CT.of (by decide) rfl (Nat.le_of_ble_eq_true rfl) (fun p e s m below meth c ls A S hr hlk hnm hK hE hP hD hS hA hl => ?_)
  obtain ⟨hx, hb, hml, hown, hU⟩ := id S
  have hl : lv_has ls 1 [(0, .ref b)] := hl
  refine lv_aload_n hx hb dX3_init_0 rfl (lv_at hl 0 rfl) ?_
  refine ct_obj S mL_X3_1 hl.1 (Nat.le_of_ble_eq_true rfl) (Nat.le_of_ble_eq_true rfl) dX3_init_1 ?_
  refine lv_aload_n hx hb dX3_init_4 rfl (lv_at hl 0 rfl) ?_
  refine va_new (ci := 0) (fs := [.null, .null, .null, .null, .null, .null, .null, .null, .null, .null, .int 0, .int 0, .int 0, .int 0]) (C := RX0) (T := TX0) (N := 14) hx hb hU mD_X0 tyX0 tyX0_ok hown (hU _ mW_X3_7) (hU _ mM_X0) (hU _ mN_X0) hK hP hD hS hA rfl (fun j hj => by rcases (show j = 0 ∨ j = 1 ∨ j = 2 ∨ j = 3 ∨ j = 4 ∨ j = 5 ∨ j = 6 ∨ j = 7 ∨ j = 8 ∨ j = 9 ∨ j = 10 ∨ j = 11 ∨ j = 12 ∨ j = 13 by omega) with rfl | rfl | rfl | rfl | rfl | rfl | rfl | rfl | rfl | rfl | rfl | rfl | rfl | rfl <;> rfl) (Nat.le_of_ble_eq_true rfl) (Nat.le_of_ble_eq_true rfl) dX3_init_5 (fun q5 H hP hD hS => ?_)
  refine lv_dup hx hb dX3_init_8 rfl ?_
  refine CT.callI S ⟨mL_X3_9, mN_X0, mI_X0_init, mC_X0_init⟩ rfl ⟨by decide +kernel, by decide +kernel, by decide +kernel⟩ (c_X0_init l D cI cJ q5) hK hE hP hD hS hA ([(b, .inr (3, [.null, .null, .null, .int 0, .null, .null, .null]))]) rfl ⟨(Nat.le_of_ble_eq_true rfl), (Nat.le_of_ble_eq_true rfl)⟩ hl.1 (rest := [.ref q5, .ref b]) (Nat.le_of_ble_eq_true rfl) (Nat.le_of_ble_eq_true rfl) (Nat.le_of_ble_eq_true rfl) dX3_init_9 (fun o5 H9 locs9 h9 hP9 hD9 hS9 => ?_)
  subst h9
  have hP : va_P D vwCl (([(b, .inr (3, [.null, .null, .null, .int 0, .null, .null, .null]))] ++ PW cI o5 nF)) H9 := hP9
  have hD : va_D A (([(b, .inr (3, [.null, .null, .null, .int 0, .null, .null, .null]))] ++ PW cI o5 nF)) := hD9
  have hS := hS9
  refine va_putF (D := D) (ci := 3) (v := .ref (o5 0)) (ty := .object "ThunderCasks$Pass") (C := RX3) (T := TX3) (N := 7) hx hb hU mD_X3 tyX3 tyX3_ok nmX3 hown hK hP hD hS 0 rfl rfl 0 (by decide) (hU _ mF_X3_10) (fun _ h9 => h9) rfl hnm rfl (by decide +kernel) rfl rfl (Nat.le_of_ble_eq_true rfl) dX3_init_12 (fun H locs hP hD hS => ?_)
  have hP : va_P D vwCl (([(b, .inr (3, [.ref (o5 0), .null, .null, .int 0, .null, .null, .null]))] ++ PW cI o5 nF)) H := hP
  have hD : va_D A (([(b, .inr (3, [.ref (o5 0), .null, .null, .int 0, .null, .null, .null]))] ++ PW cI o5 nF)) := hD
  refine lv_aload_n hx hb dX3_init_15 rfl (lv_at hl 0 rfl) ?_
  refine va_new (ci := 0) (fs := [.null, .null, .null, .null, .null, .null, .null, .null, .null, .null, .int 0, .int 0, .int 0, .int 0]) (C := RX0) (T := TX0) (N := 14) hx hb hU mD_X0 tyX0 tyX0_ok hown (hU _ mW_X3_7) (hU _ mM_X0) (hU _ mN_X0) hK hP hD hS hA rfl (fun j hj => by rcases (show j = 0 ∨ j = 1 ∨ j = 2 ∨ j = 3 ∨ j = 4 ∨ j = 5 ∨ j = 6 ∨ j = 7 ∨ j = 8 ∨ j = 9 ∨ j = 10 ∨ j = 11 ∨ j = 12 ∨ j = 13 by omega) with rfl | rfl | rfl | rfl | rfl | rfl | rfl | rfl | rfl | rfl | rfl | rfl | rfl | rfl <;> rfl) (Nat.le_of_ble_eq_true rfl) (Nat.le_of_ble_eq_true rfl) dX3_init_16 (fun q16 H hP hD hS => ?_)
  refine lv_dup hx hb dX3_init_19 rfl ?_
  refine CT.callI S ⟨mL_X3_9, mN_X0, mI_X0_init, mC_X0_init⟩ rfl ⟨by decide +kernel, by decide +kernel, by decide +kernel⟩ (c_X0_init l D cI cJ q16) hK hE hP hD hS hA (([(b, .inr (3, [.ref (o5 0), .null, .null, .int 0, .null, .null, .null]))] ++ PW cI o5 nF)) rfl ⟨(Nat.le_of_ble_eq_true rfl), (Nat.le_of_ble_eq_true rfl)⟩ hl.1 (rest := [.ref q16, .ref b]) (Nat.le_of_ble_eq_true rfl) (Nat.le_of_ble_eq_true rfl) (Nat.le_of_ble_eq_true rfl) dX3_init_20 (fun o16 H9 locs9 h9 hP9 hD9 hS9 => ?_)
  subst h9
  have hP : va_P D vwCl ((([(b, .inr (3, [.ref (o5 0), .null, .null, .int 0, .null, .null, .null]))] ++ PW cI o5 nF) ++ PW cI o16 nF)) H9 := hP9
  have hD : va_D A ((([(b, .inr (3, [.ref (o5 0), .null, .null, .int 0, .null, .null, .null]))] ++ PW cI o5 nF) ++ PW cI o16 nF)) := hD9
  have hS := hS9
  refine va_putF (D := D) (ci := 3) (v := .ref (o16 0)) (ty := .object "ThunderCasks$Pass") (C := RX3) (T := TX3) (N := 7) hx hb hU mD_X3 tyX3 tyX3_ok nmX3 hown hK hP hD hS 0 rfl rfl 1 (by decide) (hU _ mF_X3_16) (fun _ h9 => h9) rfl hnm rfl (by decide +kernel) rfl rfl (Nat.le_of_ble_eq_true rfl) dX3_init_23 (fun H locs hP hD hS => ?_)
  have hP : va_P D vwCl ((([(b, .inr (3, [.ref (o5 0), .ref (o16 0), .null, .int 0, .null, .null, .null]))] ++ PW cI o5 nF) ++ PW cI o16 nF)) H := hP
  have hD : va_D A ((([(b, .inr (3, [.ref (o5 0), .ref (o16 0), .null, .int 0, .null, .null, .null]))] ++ PW cI o5 nF) ++ PW cI o16 nF)) := hD
  refine lv_aload_n hx hb dX3_init_26 rfl (lv_at hl 0 rfl) ?_
  refine va_new (ci := 0) (fs := [.null, .null, .null, .null, .null, .null, .null, .null, .null, .null, .int 0, .int 0, .int 0, .int 0]) (C := RX0) (T := TX0) (N := 14) hx hb hU mD_X0 tyX0 tyX0_ok hown (hU _ mW_X3_7) (hU _ mM_X0) (hU _ mN_X0) hK hP hD hS hA rfl (fun j hj => by rcases (show j = 0 ∨ j = 1 ∨ j = 2 ∨ j = 3 ∨ j = 4 ∨ j = 5 ∨ j = 6 ∨ j = 7 ∨ j = 8 ∨ j = 9 ∨ j = 10 ∨ j = 11 ∨ j = 12 ∨ j = 13 by omega) with rfl | rfl | rfl | rfl | rfl | rfl | rfl | rfl | rfl | rfl | rfl | rfl | rfl | rfl <;> rfl) (Nat.le_of_ble_eq_true rfl) (Nat.le_of_ble_eq_true rfl) dX3_init_27 (fun q27 H hP hD hS => ?_)
  refine lv_dup hx hb dX3_init_30 rfl ?_
  refine CT.callI S ⟨mL_X3_9, mN_X0, mI_X0_init, mC_X0_init⟩ rfl ⟨by decide +kernel, by decide +kernel, by decide +kernel⟩ (c_X0_init l D cI cJ q27) hK hE hP hD hS hA ((([(b, .inr (3, [.ref (o5 0), .ref (o16 0), .null, .int 0, .null, .null, .null]))] ++ PW cI o5 nF) ++ PW cI o16 nF)) rfl ⟨(Nat.le_of_ble_eq_true rfl), (Nat.le_of_ble_eq_true rfl)⟩ hl.1 (rest := [.ref q27, .ref b]) (Nat.le_of_ble_eq_true rfl) (Nat.le_of_ble_eq_true rfl) (Nat.le_of_ble_eq_true rfl) dX3_init_31 (fun o27 H9 locs9 h9 hP9 hD9 hS9 => ?_)
  subst h9
  have hP : va_P D vwCl (((([(b, .inr (3, [.ref (o5 0), .ref (o16 0), .null, .int 0, .null, .null, .null]))] ++ PW cI o5 nF) ++ PW cI o16 nF) ++ PW cI o27 nF)) H9 := hP9
  have hD : va_D A (((([(b, .inr (3, [.ref (o5 0), .ref (o16 0), .null, .int 0, .null, .null, .null]))] ++ PW cI o5 nF) ++ PW cI o16 nF) ++ PW cI o27 nF)) := hD9
  have hS := hS9
  refine va_putF (D := D) (ci := 3) (v := .ref (o27 0)) (ty := .object "ThunderCasks$Pass") (C := RX3) (T := TX3) (N := 7) hx hb hU mD_X3 tyX3 tyX3_ok nmX3 hown hK hP hD hS 0 rfl rfl 2 (by decide) (hU _ mF_X3_19) (fun _ h9 => h9) rfl hnm rfl (by decide +kernel) rfl rfl (Nat.le_of_ble_eq_true rfl) dX3_init_34 (fun H locs hP hD hS => ?_)
  have hP : va_P D vwCl (((([(b, .inr (3, [.ref (o5 0), .ref (o16 0), .ref (o27 0), .int 0, .null, .null, .null]))] ++ PW cI o5 nF) ++ PW cI o16 nF) ++ PW cI o27 nF)) H := hP
  have hD : va_D A (((([(b, .inr (3, [.ref (o5 0), .ref (o16 0), .ref (o27 0), .int 0, .null, .null, .null]))] ++ PW cI o5 nF) ++ PW cI o16 nF) ++ PW cI o27 nF)) := hD
  refine lv_aload_n hx hb dX3_init_37 rfl (lv_at hl 0 rfl) ?_
  refine lv_iconst (v := nI 0) hx hb dX3_init_38 (by decide) ?_
  refine va_put (D := D) (ci := 3) (v := .int (nI 0)) (ty := .boolean) (C := RX3) (T := TX3) (N := 7) hx hb hU mD_X3 tyX3 tyX3_ok nmX3 hown hK hP hD hS 0 rfl rfl 3 (by decide) (hU _ mF_X3_22) (fun _ h9 => h9) rfl (by decide +kernel) rfl rfl (Nat.le_of_ble_eq_true rfl) dX3_init_39 (fun H locs hP hD hS => ?_)
  have hP : va_P D vwCl (((([(b, .inr (3, [.ref (o5 0), .ref (o16 0), .ref (o27 0), .int (nI 0), .null, .null, .null]))] ++ PW cI o5 nF) ++ PW cI o16 nF) ++ PW cI o27 nF)) H := hP
  have hD : va_D A (((([(b, .inr (3, [.ref (o5 0), .ref (o16 0), .ref (o27 0), .int (nI 0), .null, .null, .null]))] ++ PW cI o5 nF) ++ PW cI o16 nF) ++ PW cI o27 nF)) := hD
  refine lv_aload_n hx hb dX3_init_42 rfl (lv_at hl 0 rfl) ?_
  refine va_new (ci := 2) (fs := [.null, .int 0, .int 0, .int 0, .int 0, .int 0]) (C := RX2) (T := TX2) (N := 6) hx hb hU mD_X2 tyX2 tyX2_ok hown (hU _ mW_X3_26) (hU _ mM_X2) (hU _ mN_X2) hK hP hD hS hA rfl (fun j hj => by rcases (show j = 0 ∨ j = 1 ∨ j = 2 ∨ j = 3 ∨ j = 4 ∨ j = 5 by omega) with rfl | rfl | rfl | rfl | rfl | rfl <;> rfl) (Nat.le_of_ble_eq_true rfl) (Nat.le_of_ble_eq_true rfl) dX3_init_43 (fun q43 H hP hD hS => ?_)
  refine lv_dup hx hb dX3_init_46 rfl ?_
  refine CT.callN S hE.1 ⟨mN_X2, mI_X2_init, mC_X2_init⟩ rfl ⟨by decide +kernel, by decide +kernel, by decide +kernel⟩ (c_X2_init l D cI cJ q43) hK hE hP hD hS hA (((([(b, .inr (3, [.ref (o5 0), .ref (o16 0), .ref (o27 0), .int (nI 0), .null, .null, .null]))] ++ PW cI o5 nF) ++ PW cI o16 nF) ++ PW cI o27 nF)) rfl ⟨(Nat.le_of_ble_eq_true rfl), (Nat.le_of_ble_eq_true rfl)⟩ hl.1 (rest := [.ref q43, .ref b]) (Nat.le_of_ble_eq_true rfl) (Nat.le_of_ble_eq_true rfl) (Nat.le_of_ble_eq_true rfl) dX3_init_47 (fun o43 H9 locs9 h9 hP9 hD9 hS9 => ?_)
  subst h9
  have hP : va_P D vwCl ((((([(b, .inr (3, [.ref (o5 0), .ref (o16 0), .ref (o27 0), .int (nI 0), .null, .null, .null]))] ++ PW cI o5 nF) ++ PW cI o16 nF) ++ PW cI o27 nF) ++ TT cI o43 (fun _ => zF))) H9 := hP9
  have hD : va_D A ((((([(b, .inr (3, [.ref (o5 0), .ref (o16 0), .ref (o27 0), .int (nI 0), .null, .null, .null]))] ++ PW cI o5 nF) ++ PW cI o16 nF) ++ PW cI o27 nF) ++ TT cI o43 (fun _ => zF))) := hD9
  have hS := hS9
  refine va_putF (D := D) (ci := 3) (v := .ref (o43 0)) (ty := .object "ThunderCasks$Tape") (C := RX3) (T := TX3) (N := 7) hx hb hU mD_X3 tyX3 tyX3_ok nmX3 hown hK hP hD hS 0 rfl rfl 4 (by decide) (hU _ mF_X3_29) (fun _ h9 => h9) rfl hnm rfl (by decide +kernel) rfl rfl (Nat.le_of_ble_eq_true rfl) dX3_init_50 (fun H locs hP hD hS => ?_)
  have hP : va_P D vwCl ((((([(b, .inr (3, [.ref (o5 0), .ref (o16 0), .ref (o27 0), .int (nI 0), .ref (o43 0), .null, .null]))] ++ PW cI o5 nF) ++ PW cI o16 nF) ++ PW cI o27 nF) ++ TT cI o43 (fun _ => zF))) H := hP
  have hD : va_D A ((((([(b, .inr (3, [.ref (o5 0), .ref (o16 0), .ref (o27 0), .int (nI 0), .ref (o43 0), .null, .null]))] ++ PW cI o5 nF) ++ PW cI o16 nF) ++ PW cI o27 nF) ++ TT cI o43 (fun _ => zF))) := hD
  refine lv_aload_n hx hb dX3_init_53 rfl (lv_at hl 0 rfl) ?_
  refine va_new (ci := 1) (fs := [.null, .null, .null]) (C := RX1) (T := TX1) (N := 3) hx hb hU mD_X1 tyX1 tyX1_ok hown (hU _ mW_X3_33) (hU _ mM_X1) (hU _ mN_X1) hK hP hD hS hA rfl (fun j hj => by rcases (show j = 0 ∨ j = 1 ∨ j = 2 by omega) with rfl | rfl | rfl <;> rfl) (Nat.le_of_ble_eq_true rfl) (Nat.le_of_ble_eq_true rfl) dX3_init_54 (fun q54 H hP hD hS => ?_)
  refine lv_dup hx hb dX3_init_57 rfl ?_
  refine CT.callN S hE.2.1 ⟨mN_X1, mI_X1_init, mC_X1_init⟩ rfl ⟨by decide +kernel, by decide +kernel, by decide +kernel⟩ (c_X1_init l D cI cJ q54) hK hE hP hD hS hA ((((([(b, .inr (3, [.ref (o5 0), .ref (o16 0), .ref (o27 0), .int (nI 0), .ref (o43 0), .null, .null]))] ++ PW cI o5 nF) ++ PW cI o16 nF) ++ PW cI o27 nF) ++ TT cI o43 (fun _ => zF))) rfl ⟨(Nat.le_of_ble_eq_true rfl), (Nat.le_of_ble_eq_true rfl)⟩ hl.1 (rest := [.ref q54, .ref b]) (Nat.le_of_ble_eq_true rfl) (Nat.le_of_ble_eq_true rfl) (Nat.le_of_ble_eq_true rfl) dX3_init_58 (fun o54 H9 locs9 h9 hP9 hD9 hS9 => ?_)
  subst h9
  have hP : va_P D vwCl (((((([(b, .inr (3, [.ref (o5 0), .ref (o16 0), .ref (o27 0), .int (nI 0), .ref (o43 0), .null, .null]))] ++ PW cI o5 nF) ++ PW cI o16 nF) ++ PW cI o27 nF) ++ TT cI o43 (fun _ => zF)) ++ SH cI cJ o54 (fun _ => zF))) H9 := hP9
  have hD : va_D A (((((([(b, .inr (3, [.ref (o5 0), .ref (o16 0), .ref (o27 0), .int (nI 0), .ref (o43 0), .null, .null]))] ++ PW cI o5 nF) ++ PW cI o16 nF) ++ PW cI o27 nF) ++ TT cI o43 (fun _ => zF)) ++ SH cI cJ o54 (fun _ => zF))) := hD9
  have hS := hS9
  refine va_putF (D := D) (ci := 3) (v := .ref (o54 0)) (ty := .object "ThunderCasks$Sheets") (C := RX3) (T := TX3) (N := 7) hx hb hU mD_X3 tyX3 tyX3_ok nmX3 hown hK hP hD hS 0 rfl rfl 5 (by decide) (hU _ mF_X3_36) (fun _ h9 => h9) rfl hnm rfl (by decide +kernel) rfl rfl (Nat.le_of_ble_eq_true rfl) dX3_init_61 (fun H locs hP hD hS => ?_)
  have hP : va_P D vwCl (((((([(b, .inr (3, [.ref (o5 0), .ref (o16 0), .ref (o27 0), .int (nI 0), .ref (o43 0), .ref (o54 0), .null]))] ++ PW cI o5 nF) ++ PW cI o16 nF) ++ PW cI o27 nF) ++ TT cI o43 (fun _ => zF)) ++ SH cI cJ o54 (fun _ => zF))) H := hP
  have hD : va_D A (((((([(b, .inr (3, [.ref (o5 0), .ref (o16 0), .ref (o27 0), .int (nI 0), .ref (o43 0), .ref (o54 0), .null]))] ++ PW cI o5 nF) ++ PW cI o16 nF) ++ PW cI o27 nF) ++ TT cI o43 (fun _ => zF)) ++ SH cI cJ o54 (fun _ => zF))) := hD
  refine lv_aload_n hx hb dX3_init_64 rfl (lv_at hl 0 rfl) ?_
  refine lv_bipush (v := nI 7) hx hb dX3_init_65 (by decide) ?_
  refine ct_newI (N := 7) S hK hP hD hS hA (by decide) (Nat.le_of_ble_eq_true rfl) (Nat.le_of_ble_eq_true rfl) dX3_init_67 (fun q67 H hP hD hS => ?_)
  have hP : va_P D vwCl ((((((([(b, .inr (3, [.ref (o5 0), .ref (o16 0), .ref (o27 0), .int (nI 0), .ref (o43 0), .ref (o54 0), .null]))] ++ PW cI o5 nF) ++ PW cI o16 nF) ++ PW cI o27 nF) ++ TT cI o43 (fun _ => zF)) ++ SH cI cJ o54 (fun _ => zF)) ++ [(q67, .inl (cI, 7, .inl (fun _ => nI 0)))])) H := hP
  have hD : va_D A ((((((([(b, .inr (3, [.ref (o5 0), .ref (o16 0), .ref (o27 0), .int (nI 0), .ref (o43 0), .ref (o54 0), .null]))] ++ PW cI o5 nF) ++ PW cI o16 nF) ++ PW cI o27 nF) ++ TT cI o43 (fun _ => zF)) ++ SH cI cJ o54 (fun _ => zF)) ++ [(q67, .inl (cI, 7, .inl (fun _ => nI 0)))])) := hD
  refine va_putF (D := D) (ci := 3) (v := .ref q67) (ty := .array .int) (C := RX3) (T := TX3) (N := 7) hx hb hU mD_X3 tyX3 tyX3_ok nmX3 hown hK hP hD hS 0 rfl rfl 6 (by decide) (hU _ mF_X3_40) (fun _ h9 => h9) rfl hnm rfl (by decide +kernel) rfl rfl (Nat.le_of_ble_eq_true rfl) dX3_init_69 (fun H locs hP hD hS => ?_)
  have hP : va_P D vwCl ((((((([(b, .inr (3, [.ref (o5 0), .ref (o16 0), .ref (o27 0), .int (nI 0), .ref (o43 0), .ref (o54 0), .ref q67]))] ++ PW cI o5 nF) ++ PW cI o16 nF) ++ PW cI o27 nF) ++ TT cI o43 (fun _ => zF)) ++ SH cI cJ o54 (fun _ => zF)) ++ [(q67, .inl (cI, 7, .inl (fun _ => nI 0)))])) H := hP
  have hD : va_D A ((((((([(b, .inr (3, [.ref (o5 0), .ref (o16 0), .ref (o27 0), .int (nI 0), .ref (o43 0), .ref (o54 0), .ref q67]))] ++ PW cI o5 nF) ++ PW cI o16 nF) ++ PW cI o27 nF) ++ TT cI o43 (fun _ => zF)) ++ SH cI cJ o54 (fun _ => zF)) ++ [(q67, .inl (cI, 7, .inl (fun _ => nI 0)))])) := hD
  refine W.widen (k := 44) (n := 584) (Nat.le_of_ble_eq_true rfl) (Nat.le_of_ble_eq_true rfl) ?_
  have hQ : TW cI cJ (oT b o5 o16 o27 o43 o54 q67) nF nF nF (fun _ => zF) = (((((([(b, .inr (3, [.ref (o5 0), .ref (o16 0), .ref (o27 0), .int (nI 0), .ref (o43 0), .ref (o54 0), .ref q67]))] ++ PW cI o5 nF) ++ PW cI o16 nF) ++ PW cI o27 nF) ++ TT cI o43 (fun _ => zF)) ++ SH cI cJ o54 (fun _ => zF)) ++ [(q67, .inl (cI, 7, .inl (fun _ => nI 0)))]) := by
    unfold TW
    rw [SH_congr (o' := o54) (fun i hi => oT_S hi)]
    simp only [List.append_assoc]
    rfl
  rw [← hQ] at hP hD
  exact CT.vret S hr hlk (oT b o5 o16 o27 o43 o54 q67) rfl hP hD hS dX3_init_72

/-- the reference's rows at the start -/
def bt0 : Nat → Int32 := upd (upd (upd (upd (fun _ => nI 0) 0 (-1)) 1 (-1)) 2 (-1)) 3 (-1)
def sg0 : Nat → Nat → Int32 := fun k => if k = 6 then bt0 else zF
theorem va_pl4 {r : Nat → Nat} {f : Nat → va_E} {x : va_E} : va_pl ([] ++ (List.range 4).map r) (vr_up f ((List.range 4).map r) x) = [(r 0, x), (r 1, x), (r 2, x), (r 3, x)] := by
  show [(r 0, vr_up f [r 0, r 1, r 2, r 3] x (r 0)), (r 1, vr_up f [r 0, r 1, r 2, r 3] x (r 1)), (r 2, vr_up f [r 0, r 1, r 2, r 3] x (r 2)), (r 3, vr_up f [r 0, r 1, r 2, r 3] x (r 3))] = _
  rw [vr_up_in (by simp), vr_up_in (by simp), vr_up_in (by simp), vr_up_in (by simp)]
def oS (l : List Nat) (r : Nat → Nat) : Nat → Nat := fun i => if i < 4 then oL l i else r (i - 4)
theorem oS_r {l : List Nat} {r : Nat → Nat} : (fun i => if i < 4 then some (oS l r (4 + i)) else none) = fun i => if i < 4 then some (r i) else none := by
  funext i
  unfold oS
  rw [if_neg (show ¬ 4 + i < 4 by omega), show 4 + i - 4 = i by omega]
theorem SH_congr {cI cJ : ClassId} {o o' : Nat → Nat} {τ : Nat → Nat → Int32} (h : ∀ i, i < 8 → o i = o' i) : SH cI cJ o τ = SH cI cJ o' τ := by
  have e : (fun i => if i < 4 then some (o (4 + i)) else none) = fun i => if i < 4 then some (o' (4 + i)) else none := by
    funext i
    by_cases q : i < 4
    · rw [if_pos q, if_pos q, h (4 + i) (by omega)]
    · rw [if_neg q, if_neg q]
  unfold SH
  rw [e, h 0 (by decide), h 1 (by decide), h 2 (by decide), h 3 (by decide), h 4 (by decide), h 5 (by decide), h 6 (by decide), h 7 (by decide)]
def oT (b : Nat) (o1 o2 o3 o4 o5 : Nat → Nat) (z : Nat) : Nat → Nat := fun i => if i = 0 then b else if i < 12 then o1 (i - 1) else if i < 23 then o2 (i - 12) else if i < 34 then o3 (i - 23) else if i < 36 then o4 (i - 34) else if i < 44 then o5 (i - 36) else z
theorem oT_S {b : Nat} {o1 o2 o3 o4 o5 : Nat → Nat} {z i : Nat} (hi : i < 8) : sf (oT b o1 o2 o3 o4 o5 z) 36 i = o5 i := by
  unfold sf oT
  rw [if_neg (by omega), if_neg (by omega), if_neg (by omega), if_neg (by omega), if_neg (by omega), if_pos (by omega), show 36 + i - 36 = i by omega]
set_option maxRecDepth 100000 in
set_option maxHeartbeats 4000000 in
theorem c_X0_init (l : Launch) (D : va_G) (cI cJ : ClassId) (b : Nat) : CT l yX0_init cX0_init 2 1 10 78 D cI cJ 0 [.null, .null, .null, .null, .null, .null, .null, .null, .null, .null, .int 0, .int 0, .int 0, .int 0] b (fun q => PW cI q nF) := by
  refine CT.of (by decide) rfl (Nat.le_of_ble_eq_true rfl) (fun p e s m below meth c ls A S hr hlk hnm hK hE hP hD hS hA hl => ?_)
  obtain ⟨hx, hb, hml, hown, hU⟩ := id S
  have hl : lv_has ls 2 [(0, .ref b)] := hl
  refine lv_aload_n hx hb dX0_init_0 rfl (lv_at hl 0 rfl) ?_
  refine ct_obj S mL_X0_3 hl.1 (Nat.le_of_ble_eq_true rfl) (Nat.le_of_ble_eq_true rfl) dX0_init_1 ?_
  refine lv_aload_n hx hb dX0_init_4 rfl (lv_at hl 0 rfl) ?_
  refine lv_bipush (v := nI 6) hx hb dX0_init_5 (by decide) ?_
  refine ct_newI (N := 6) S hK hP hD hS hA (by decide) (Nat.le_of_ble_eq_true rfl) (Nat.le_of_ble_eq_true rfl) dX0_init_7 (fun q7 H hP hD hS => ?_)
  have hP : va_P D vwCl ([(b, .inr (0, [.null, .null, .null, .null, .null, .null, .null, .null, .null, .null, .int 0, .int 0, .int 0, .int 0])), (q7, .inl (cI, 6, .inl (fun _ => nI 0)))]) H := hP
  have hD : va_D A ([(b, .inr (0, [.null, .null, .null, .null, .null, .null, .null, .null, .null, .null, .int 0, .int 0, .int 0, .int 0])), (q7, .inl (cI, 6, .inl (fun _ => nI 0)))]) := hD
  refine va_putF (D := D) (ci := 0) (v := .ref q7) (ty := .array .int) (C := RX0) (T := TX0) (N := 14) hx hb hU mD_X0 tyX0 tyX0_ok nmX0 hown hK hP hD hS 0 rfl rfl 0 (by decide) (hU _ mF_X0_9) (fun _ h9 => h9) rfl hnm rfl (by decide +kernel) rfl rfl (Nat.le_of_ble_eq_true rfl) dX0_init_9 (fun H locs hP hD hS => ?_)
  have hP : va_P D vwCl ([(b, .inr (0, [.ref q7, .null, .null, .null, .null, .null, .null, .null, .null, .null, .int 0, .int 0, .int 0, .int 0])), (q7, .inl (cI, 6, .inl (fun _ => nI 0)))]) H := hP
  have hD : va_D A ([(b, .inr (0, [.ref q7, .null, .null, .null, .null, .null, .null, .null, .null, .null, .int 0, .int 0, .int 0, .int 0])), (q7, .inl (cI, 6, .inl (fun _ => nI 0)))]) := hD
  refine lv_aload_n hx hb dX0_init_12 rfl (lv_at hl 0 rfl) ?_
  refine lv_bipush (v := nI 6) hx hb dX0_init_13 (by decide) ?_
  refine ct_newI (N := 6) S hK hP hD hS hA (by decide) (Nat.le_of_ble_eq_true rfl) (Nat.le_of_ble_eq_true rfl) dX0_init_15 (fun q15 H hP hD hS => ?_)
  have hP : va_P D vwCl ([(b, .inr (0, [.ref q7, .null, .null, .null, .null, .null, .null, .null, .null, .null, .int 0, .int 0, .int 0, .int 0])), (q7, .inl (cI, 6, .inl (fun _ => nI 0))), (q15, .inl (cI, 6, .inl (fun _ => nI 0)))]) H := hP
  have hD : va_D A ([(b, .inr (0, [.ref q7, .null, .null, .null, .null, .null, .null, .null, .null, .null, .int 0, .int 0, .int 0, .int 0])), (q7, .inl (cI, 6, .inl (fun _ => nI 0))), (q15, .inl (cI, 6, .inl (fun _ => nI 0)))]) := hD
  refine va_putF (D := D) (ci := 0) (v := .ref q15) (ty := .array .int) (C := RX0) (T := TX0) (N := 14) hx hb hU mD_X0 tyX0 tyX0_ok nmX0 hown hK hP hD hS 0 rfl rfl 1 (by decide) (hU _ mF_X0_15) (fun _ h9 => h9) rfl hnm rfl (by decide +kernel) rfl rfl (Nat.le_of_ble_eq_true rfl) dX0_init_17 (fun H locs hP hD hS => ?_)
  have hP : va_P D vwCl ([(b, .inr (0, [.ref q7, .ref q15, .null, .null, .null, .null, .null, .null, .null, .null, .int 0, .int 0, .int 0, .int 0])), (q7, .inl (cI, 6, .inl (fun _ => nI 0))), (q15, .inl (cI, 6, .inl (fun _ => nI 0)))]) H := hP
  have hD : va_D A ([(b, .inr (0, [.ref q7, .ref q15, .null, .null, .null, .null, .null, .null, .null, .null, .int 0, .int 0, .int 0, .int 0])), (q7, .inl (cI, 6, .inl (fun _ => nI 0))), (q15, .inl (cI, 6, .inl (fun _ => nI 0)))]) := hD
  refine lv_aload_n hx hb dX0_init_20 rfl (lv_at hl 0 rfl) ?_
  refine lv_bipush (v := nI 8) hx hb dX0_init_21 (by decide) ?_
  refine ct_newI (N := 8) S hK hP hD hS hA (by decide) (Nat.le_of_ble_eq_true rfl) (Nat.le_of_ble_eq_true rfl) dX0_init_23 (fun q23 H hP hD hS => ?_)
  have hP : va_P D vwCl ([(b, .inr (0, [.ref q7, .ref q15, .null, .null, .null, .null, .null, .null, .null, .null, .int 0, .int 0, .int 0, .int 0])), (q7, .inl (cI, 6, .inl (fun _ => nI 0))), (q15, .inl (cI, 6, .inl (fun _ => nI 0))), (q23, .inl (cI, 8, .inl (fun _ => nI 0)))]) H := hP
  have hD : va_D A ([(b, .inr (0, [.ref q7, .ref q15, .null, .null, .null, .null, .null, .null, .null, .null, .int 0, .int 0, .int 0, .int 0])), (q7, .inl (cI, 6, .inl (fun _ => nI 0))), (q15, .inl (cI, 6, .inl (fun _ => nI 0))), (q23, .inl (cI, 8, .inl (fun _ => nI 0)))]) := hD
  refine va_putF (D := D) (ci := 0) (v := .ref q23) (ty := .array .int) (C := RX0) (T := TX0) (N := 14) hx hb hU mD_X0 tyX0 tyX0_ok nmX0 hown hK hP hD hS 0 rfl rfl 2 (by decide) (hU _ mF_X0_18) (fun _ h9 => h9) rfl hnm rfl (by decide +kernel) rfl rfl (Nat.le_of_ble_eq_true rfl) dX0_init_25 (fun H locs hP hD hS => ?_)
  have hP : va_P D vwCl ([(b, .inr (0, [.ref q7, .ref q15, .ref q23, .null, .null, .null, .null, .null, .null, .null, .int 0, .int 0, .int 0, .int 0])), (q7, .inl (cI, 6, .inl (fun _ => nI 0))), (q15, .inl (cI, 6, .inl (fun _ => nI 0))), (q23, .inl (cI, 8, .inl (fun _ => nI 0)))]) H := hP
  have hD : va_D A ([(b, .inr (0, [.ref q7, .ref q15, .ref q23, .null, .null, .null, .null, .null, .null, .null, .int 0, .int 0, .int 0, .int 0])), (q7, .inl (cI, 6, .inl (fun _ => nI 0))), (q15, .inl (cI, 6, .inl (fun _ => nI 0))), (q23, .inl (cI, 8, .inl (fun _ => nI 0)))]) := hD
  refine lv_aload_n hx hb dX0_init_28 rfl (lv_at hl 0 rfl) ?_
  refine lv_bipush (v := nI 8) hx hb dX0_init_29 (by decide) ?_
  refine ct_newI (N := 8) S hK hP hD hS hA (by decide) (Nat.le_of_ble_eq_true rfl) (Nat.le_of_ble_eq_true rfl) dX0_init_31 (fun q31 H hP hD hS => ?_)
  have hP : va_P D vwCl ([(b, .inr (0, [.ref q7, .ref q15, .ref q23, .null, .null, .null, .null, .null, .null, .null, .int 0, .int 0, .int 0, .int 0])), (q7, .inl (cI, 6, .inl (fun _ => nI 0))), (q15, .inl (cI, 6, .inl (fun _ => nI 0))), (q23, .inl (cI, 8, .inl (fun _ => nI 0))), (q31, .inl (cI, 8, .inl (fun _ => nI 0)))]) H := hP
  have hD : va_D A ([(b, .inr (0, [.ref q7, .ref q15, .ref q23, .null, .null, .null, .null, .null, .null, .null, .int 0, .int 0, .int 0, .int 0])), (q7, .inl (cI, 6, .inl (fun _ => nI 0))), (q15, .inl (cI, 6, .inl (fun _ => nI 0))), (q23, .inl (cI, 8, .inl (fun _ => nI 0))), (q31, .inl (cI, 8, .inl (fun _ => nI 0)))]) := hD
  refine va_putF (D := D) (ci := 0) (v := .ref q31) (ty := .array .int) (C := RX0) (T := TX0) (N := 14) hx hb hU mD_X0 tyX0 tyX0_ok nmX0 hown hK hP hD hS 0 rfl rfl 3 (by decide) (hU _ mF_X0_21) (fun _ h9 => h9) rfl hnm rfl (by decide +kernel) rfl rfl (Nat.le_of_ble_eq_true rfl) dX0_init_33 (fun H locs hP hD hS => ?_)
  have hP : va_P D vwCl ([(b, .inr (0, [.ref q7, .ref q15, .ref q23, .ref q31, .null, .null, .null, .null, .null, .null, .int 0, .int 0, .int 0, .int 0])), (q7, .inl (cI, 6, .inl (fun _ => nI 0))), (q15, .inl (cI, 6, .inl (fun _ => nI 0))), (q23, .inl (cI, 8, .inl (fun _ => nI 0))), (q31, .inl (cI, 8, .inl (fun _ => nI 0)))]) H := hP
  have hD : va_D A ([(b, .inr (0, [.ref q7, .ref q15, .ref q23, .ref q31, .null, .null, .null, .null, .null, .null, .int 0, .int 0, .int 0, .int 0])), (q7, .inl (cI, 6, .inl (fun _ => nI 0))), (q15, .inl (cI, 6, .inl (fun _ => nI 0))), (q23, .inl (cI, 8, .inl (fun _ => nI 0))), (q31, .inl (cI, 8, .inl (fun _ => nI 0)))]) := hD
  refine lv_aload_n hx hb dX0_init_36 rfl (lv_at hl 0 rfl) ?_
  refine lv_bipush (v := nI 8) hx hb dX0_init_37 (by decide) ?_
  refine ct_newI (N := 8) S hK hP hD hS hA (by decide) (Nat.le_of_ble_eq_true rfl) (Nat.le_of_ble_eq_true rfl) dX0_init_39 (fun q39 H hP hD hS => ?_)
  have hP : va_P D vwCl ([(b, .inr (0, [.ref q7, .ref q15, .ref q23, .ref q31, .null, .null, .null, .null, .null, .null, .int 0, .int 0, .int 0, .int 0])), (q7, .inl (cI, 6, .inl (fun _ => nI 0))), (q15, .inl (cI, 6, .inl (fun _ => nI 0))), (q23, .inl (cI, 8, .inl (fun _ => nI 0))), (q31, .inl (cI, 8, .inl (fun _ => nI 0))), (q39, .inl (cI, 8, .inl (fun _ => nI 0)))]) H := hP
  have hD : va_D A ([(b, .inr (0, [.ref q7, .ref q15, .ref q23, .ref q31, .null, .null, .null, .null, .null, .null, .int 0, .int 0, .int 0, .int 0])), (q7, .inl (cI, 6, .inl (fun _ => nI 0))), (q15, .inl (cI, 6, .inl (fun _ => nI 0))), (q23, .inl (cI, 8, .inl (fun _ => nI 0))), (q31, .inl (cI, 8, .inl (fun _ => nI 0))), (q39, .inl (cI, 8, .inl (fun _ => nI 0)))]) := hD
  refine va_putF (D := D) (ci := 0) (v := .ref q39) (ty := .array .int) (C := RX0) (T := TX0) (N := 14) hx hb hU mD_X0 tyX0 tyX0_ok nmX0 hown hK hP hD hS 0 rfl rfl 4 (by decide) (hU _ mF_X0_24) (fun _ h9 => h9) rfl hnm rfl (by decide +kernel) rfl rfl (Nat.le_of_ble_eq_true rfl) dX0_init_41 (fun H locs hP hD hS => ?_)
  have hP : va_P D vwCl ([(b, .inr (0, [.ref q7, .ref q15, .ref q23, .ref q31, .ref q39, .null, .null, .null, .null, .null, .int 0, .int 0, .int 0, .int 0])), (q7, .inl (cI, 6, .inl (fun _ => nI 0))), (q15, .inl (cI, 6, .inl (fun _ => nI 0))), (q23, .inl (cI, 8, .inl (fun _ => nI 0))), (q31, .inl (cI, 8, .inl (fun _ => nI 0))), (q39, .inl (cI, 8, .inl (fun _ => nI 0)))]) H := hP
  have hD : va_D A ([(b, .inr (0, [.ref q7, .ref q15, .ref q23, .ref q31, .ref q39, .null, .null, .null, .null, .null, .int 0, .int 0, .int 0, .int 0])), (q7, .inl (cI, 6, .inl (fun _ => nI 0))), (q15, .inl (cI, 6, .inl (fun _ => nI 0))), (q23, .inl (cI, 8, .inl (fun _ => nI 0))), (q31, .inl (cI, 8, .inl (fun _ => nI 0))), (q39, .inl (cI, 8, .inl (fun _ => nI 0)))]) := hD
  refine lv_aload_n hx hb dX0_init_44 rfl (lv_at hl 0 rfl) ?_
  refine lv_bipush (v := nI 8) hx hb dX0_init_45 (by decide) ?_
  refine ct_newI (N := 8) S hK hP hD hS hA (by decide) (Nat.le_of_ble_eq_true rfl) (Nat.le_of_ble_eq_true rfl) dX0_init_47 (fun q47 H hP hD hS => ?_)
  have hP : va_P D vwCl ([(b, .inr (0, [.ref q7, .ref q15, .ref q23, .ref q31, .ref q39, .null, .null, .null, .null, .null, .int 0, .int 0, .int 0, .int 0])), (q7, .inl (cI, 6, .inl (fun _ => nI 0))), (q15, .inl (cI, 6, .inl (fun _ => nI 0))), (q23, .inl (cI, 8, .inl (fun _ => nI 0))), (q31, .inl (cI, 8, .inl (fun _ => nI 0))), (q39, .inl (cI, 8, .inl (fun _ => nI 0))), (q47, .inl (cI, 8, .inl (fun _ => nI 0)))]) H := hP
  have hD : va_D A ([(b, .inr (0, [.ref q7, .ref q15, .ref q23, .ref q31, .ref q39, .null, .null, .null, .null, .null, .int 0, .int 0, .int 0, .int 0])), (q7, .inl (cI, 6, .inl (fun _ => nI 0))), (q15, .inl (cI, 6, .inl (fun _ => nI 0))), (q23, .inl (cI, 8, .inl (fun _ => nI 0))), (q31, .inl (cI, 8, .inl (fun _ => nI 0))), (q39, .inl (cI, 8, .inl (fun _ => nI 0))), (q47, .inl (cI, 8, .inl (fun _ => nI 0)))]) := hD
  refine va_putF (D := D) (ci := 0) (v := .ref q47) (ty := .array .int) (C := RX0) (T := TX0) (N := 14) hx hb hU mD_X0 tyX0 tyX0_ok nmX0 hown hK hP hD hS 0 rfl rfl 5 (by decide) (hU _ mF_X0_27) (fun _ h9 => h9) rfl hnm rfl (by decide +kernel) rfl rfl (Nat.le_of_ble_eq_true rfl) dX0_init_49 (fun H locs hP hD hS => ?_)
  have hP : va_P D vwCl ([(b, .inr (0, [.ref q7, .ref q15, .ref q23, .ref q31, .ref q39, .ref q47, .null, .null, .null, .null, .int 0, .int 0, .int 0, .int 0])), (q7, .inl (cI, 6, .inl (fun _ => nI 0))), (q15, .inl (cI, 6, .inl (fun _ => nI 0))), (q23, .inl (cI, 8, .inl (fun _ => nI 0))), (q31, .inl (cI, 8, .inl (fun _ => nI 0))), (q39, .inl (cI, 8, .inl (fun _ => nI 0))), (q47, .inl (cI, 8, .inl (fun _ => nI 0)))]) H := hP
  have hD : va_D A ([(b, .inr (0, [.ref q7, .ref q15, .ref q23, .ref q31, .ref q39, .ref q47, .null, .null, .null, .null, .int 0, .int 0, .int 0, .int 0])), (q7, .inl (cI, 6, .inl (fun _ => nI 0))), (q15, .inl (cI, 6, .inl (fun _ => nI 0))), (q23, .inl (cI, 8, .inl (fun _ => nI 0))), (q31, .inl (cI, 8, .inl (fun _ => nI 0))), (q39, .inl (cI, 8, .inl (fun _ => nI 0))), (q47, .inl (cI, 8, .inl (fun _ => nI 0)))]) := hD
  refine lv_aload_n hx hb dX0_init_52 rfl (lv_at hl 0 rfl) ?_
  refine lv_bipush (v := nI 8) hx hb dX0_init_53 (by decide) ?_
  refine ct_newI (N := 8) S hK hP hD hS hA (by decide) (Nat.le_of_ble_eq_true rfl) (Nat.le_of_ble_eq_true rfl) dX0_init_55 (fun q55 H hP hD hS => ?_)
  have hP : va_P D vwCl ([(b, .inr (0, [.ref q7, .ref q15, .ref q23, .ref q31, .ref q39, .ref q47, .null, .null, .null, .null, .int 0, .int 0, .int 0, .int 0])), (q7, .inl (cI, 6, .inl (fun _ => nI 0))), (q15, .inl (cI, 6, .inl (fun _ => nI 0))), (q23, .inl (cI, 8, .inl (fun _ => nI 0))), (q31, .inl (cI, 8, .inl (fun _ => nI 0))), (q39, .inl (cI, 8, .inl (fun _ => nI 0))), (q47, .inl (cI, 8, .inl (fun _ => nI 0))), (q55, .inl (cI, 8, .inl (fun _ => nI 0)))]) H := hP
  have hD : va_D A ([(b, .inr (0, [.ref q7, .ref q15, .ref q23, .ref q31, .ref q39, .ref q47, .null, .null, .null, .null, .int 0, .int 0, .int 0, .int 0])), (q7, .inl (cI, 6, .inl (fun _ => nI 0))), (q15, .inl (cI, 6, .inl (fun _ => nI 0))), (q23, .inl (cI, 8, .inl (fun _ => nI 0))), (q31, .inl (cI, 8, .inl (fun _ => nI 0))), (q39, .inl (cI, 8, .inl (fun _ => nI 0))), (q47, .inl (cI, 8, .inl (fun _ => nI 0))), (q55, .inl (cI, 8, .inl (fun _ => nI 0)))]) := hD
  refine va_putF (D := D) (ci := 0) (v := .ref q55) (ty := .array .int) (C := RX0) (T := TX0) (N := 14) hx hb hU mD_X0 tyX0 tyX0_ok nmX0 hown hK hP hD hS 0 rfl rfl 6 (by decide) (hU _ mF_X0_30) (fun _ h9 => h9) rfl hnm rfl (by decide +kernel) rfl rfl (Nat.le_of_ble_eq_true rfl) dX0_init_57 (fun H locs hP hD hS => ?_)
  have hP : va_P D vwCl ([(b, .inr (0, [.ref q7, .ref q15, .ref q23, .ref q31, .ref q39, .ref q47, .ref q55, .null, .null, .null, .int 0, .int 0, .int 0, .int 0])), (q7, .inl (cI, 6, .inl (fun _ => nI 0))), (q15, .inl (cI, 6, .inl (fun _ => nI 0))), (q23, .inl (cI, 8, .inl (fun _ => nI 0))), (q31, .inl (cI, 8, .inl (fun _ => nI 0))), (q39, .inl (cI, 8, .inl (fun _ => nI 0))), (q47, .inl (cI, 8, .inl (fun _ => nI 0))), (q55, .inl (cI, 8, .inl (fun _ => nI 0)))]) H := hP
  have hD : va_D A ([(b, .inr (0, [.ref q7, .ref q15, .ref q23, .ref q31, .ref q39, .ref q47, .ref q55, .null, .null, .null, .int 0, .int 0, .int 0, .int 0])), (q7, .inl (cI, 6, .inl (fun _ => nI 0))), (q15, .inl (cI, 6, .inl (fun _ => nI 0))), (q23, .inl (cI, 8, .inl (fun _ => nI 0))), (q31, .inl (cI, 8, .inl (fun _ => nI 0))), (q39, .inl (cI, 8, .inl (fun _ => nI 0))), (q47, .inl (cI, 8, .inl (fun _ => nI 0))), (q55, .inl (cI, 8, .inl (fun _ => nI 0)))]) := hD
  refine lv_aload_n hx hb dX0_init_60 rfl (lv_at hl 0 rfl) ?_
  refine lv_bipush (v := nI 8) hx hb dX0_init_61 (by decide) ?_
  refine ct_newI (N := 8) S hK hP hD hS hA (by decide) (Nat.le_of_ble_eq_true rfl) (Nat.le_of_ble_eq_true rfl) dX0_init_63 (fun q63 H hP hD hS => ?_)
  have hP : va_P D vwCl ([(b, .inr (0, [.ref q7, .ref q15, .ref q23, .ref q31, .ref q39, .ref q47, .ref q55, .null, .null, .null, .int 0, .int 0, .int 0, .int 0])), (q7, .inl (cI, 6, .inl (fun _ => nI 0))), (q15, .inl (cI, 6, .inl (fun _ => nI 0))), (q23, .inl (cI, 8, .inl (fun _ => nI 0))), (q31, .inl (cI, 8, .inl (fun _ => nI 0))), (q39, .inl (cI, 8, .inl (fun _ => nI 0))), (q47, .inl (cI, 8, .inl (fun _ => nI 0))), (q55, .inl (cI, 8, .inl (fun _ => nI 0))), (q63, .inl (cI, 8, .inl (fun _ => nI 0)))]) H := hP
  have hD : va_D A ([(b, .inr (0, [.ref q7, .ref q15, .ref q23, .ref q31, .ref q39, .ref q47, .ref q55, .null, .null, .null, .int 0, .int 0, .int 0, .int 0])), (q7, .inl (cI, 6, .inl (fun _ => nI 0))), (q15, .inl (cI, 6, .inl (fun _ => nI 0))), (q23, .inl (cI, 8, .inl (fun _ => nI 0))), (q31, .inl (cI, 8, .inl (fun _ => nI 0))), (q39, .inl (cI, 8, .inl (fun _ => nI 0))), (q47, .inl (cI, 8, .inl (fun _ => nI 0))), (q55, .inl (cI, 8, .inl (fun _ => nI 0))), (q63, .inl (cI, 8, .inl (fun _ => nI 0)))]) := hD
  refine va_putF (D := D) (ci := 0) (v := .ref q63) (ty := .array .int) (C := RX0) (T := TX0) (N := 14) hx hb hU mD_X0 tyX0 tyX0_ok nmX0 hown hK hP hD hS 0 rfl rfl 7 (by decide) (hU _ mF_X0_33) (fun _ h9 => h9) rfl hnm rfl (by decide +kernel) rfl rfl (Nat.le_of_ble_eq_true rfl) dX0_init_65 (fun H locs hP hD hS => ?_)
  have hP : va_P D vwCl ([(b, .inr (0, [.ref q7, .ref q15, .ref q23, .ref q31, .ref q39, .ref q47, .ref q55, .ref q63, .null, .null, .int 0, .int 0, .int 0, .int 0])), (q7, .inl (cI, 6, .inl (fun _ => nI 0))), (q15, .inl (cI, 6, .inl (fun _ => nI 0))), (q23, .inl (cI, 8, .inl (fun _ => nI 0))), (q31, .inl (cI, 8, .inl (fun _ => nI 0))), (q39, .inl (cI, 8, .inl (fun _ => nI 0))), (q47, .inl (cI, 8, .inl (fun _ => nI 0))), (q55, .inl (cI, 8, .inl (fun _ => nI 0))), (q63, .inl (cI, 8, .inl (fun _ => nI 0)))]) H := hP
  have hD : va_D A ([(b, .inr (0, [.ref q7, .ref q15, .ref q23, .ref q31, .ref q39, .ref q47, .ref q55, .ref q63, .null, .null, .int 0, .int 0, .int 0, .int 0])), (q7, .inl (cI, 6, .inl (fun _ => nI 0))), (q15, .inl (cI, 6, .inl (fun _ => nI 0))), (q23, .inl (cI, 8, .inl (fun _ => nI 0))), (q31, .inl (cI, 8, .inl (fun _ => nI 0))), (q39, .inl (cI, 8, .inl (fun _ => nI 0))), (q47, .inl (cI, 8, .inl (fun _ => nI 0))), (q55, .inl (cI, 8, .inl (fun _ => nI 0))), (q63, .inl (cI, 8, .inl (fun _ => nI 0)))]) := hD
  refine lv_aload_n hx hb dX0_init_68 rfl (lv_at hl 0 rfl) ?_
  refine lv_bipush (v := nI 8) hx hb dX0_init_69 (by decide) ?_
  refine ct_newI (N := 8) S hK hP hD hS hA (by decide) (Nat.le_of_ble_eq_true rfl) (Nat.le_of_ble_eq_true rfl) dX0_init_71 (fun q71 H hP hD hS => ?_)
  have hP : va_P D vwCl ([(b, .inr (0, [.ref q7, .ref q15, .ref q23, .ref q31, .ref q39, .ref q47, .ref q55, .ref q63, .null, .null, .int 0, .int 0, .int 0, .int 0])), (q7, .inl (cI, 6, .inl (fun _ => nI 0))), (q15, .inl (cI, 6, .inl (fun _ => nI 0))), (q23, .inl (cI, 8, .inl (fun _ => nI 0))), (q31, .inl (cI, 8, .inl (fun _ => nI 0))), (q39, .inl (cI, 8, .inl (fun _ => nI 0))), (q47, .inl (cI, 8, .inl (fun _ => nI 0))), (q55, .inl (cI, 8, .inl (fun _ => nI 0))), (q63, .inl (cI, 8, .inl (fun _ => nI 0))), (q71, .inl (cI, 8, .inl (fun _ => nI 0)))]) H := hP
  have hD : va_D A ([(b, .inr (0, [.ref q7, .ref q15, .ref q23, .ref q31, .ref q39, .ref q47, .ref q55, .ref q63, .null, .null, .int 0, .int 0, .int 0, .int 0])), (q7, .inl (cI, 6, .inl (fun _ => nI 0))), (q15, .inl (cI, 6, .inl (fun _ => nI 0))), (q23, .inl (cI, 8, .inl (fun _ => nI 0))), (q31, .inl (cI, 8, .inl (fun _ => nI 0))), (q39, .inl (cI, 8, .inl (fun _ => nI 0))), (q47, .inl (cI, 8, .inl (fun _ => nI 0))), (q55, .inl (cI, 8, .inl (fun _ => nI 0))), (q63, .inl (cI, 8, .inl (fun _ => nI 0))), (q71, .inl (cI, 8, .inl (fun _ => nI 0)))]) := hD
  refine va_putF (D := D) (ci := 0) (v := .ref q71) (ty := .array .int) (C := RX0) (T := TX0) (N := 14) hx hb hU mD_X0 tyX0 tyX0_ok nmX0 hown hK hP hD hS 0 rfl rfl 8 (by decide) (hU _ mF_X0_36) (fun _ h9 => h9) rfl hnm rfl (by decide +kernel) rfl rfl (Nat.le_of_ble_eq_true rfl) dX0_init_73 (fun H locs hP hD hS => ?_)
  have hP : va_P D vwCl ([(b, .inr (0, [.ref q7, .ref q15, .ref q23, .ref q31, .ref q39, .ref q47, .ref q55, .ref q63, .ref q71, .null, .int 0, .int 0, .int 0, .int 0])), (q7, .inl (cI, 6, .inl (fun _ => nI 0))), (q15, .inl (cI, 6, .inl (fun _ => nI 0))), (q23, .inl (cI, 8, .inl (fun _ => nI 0))), (q31, .inl (cI, 8, .inl (fun _ => nI 0))), (q39, .inl (cI, 8, .inl (fun _ => nI 0))), (q47, .inl (cI, 8, .inl (fun _ => nI 0))), (q55, .inl (cI, 8, .inl (fun _ => nI 0))), (q63, .inl (cI, 8, .inl (fun _ => nI 0))), (q71, .inl (cI, 8, .inl (fun _ => nI 0)))]) H := hP
  have hD : va_D A ([(b, .inr (0, [.ref q7, .ref q15, .ref q23, .ref q31, .ref q39, .ref q47, .ref q55, .ref q63, .ref q71, .null, .int 0, .int 0, .int 0, .int 0])), (q7, .inl (cI, 6, .inl (fun _ => nI 0))), (q15, .inl (cI, 6, .inl (fun _ => nI 0))), (q23, .inl (cI, 8, .inl (fun _ => nI 0))), (q31, .inl (cI, 8, .inl (fun _ => nI 0))), (q39, .inl (cI, 8, .inl (fun _ => nI 0))), (q47, .inl (cI, 8, .inl (fun _ => nI 0))), (q55, .inl (cI, 8, .inl (fun _ => nI 0))), (q63, .inl (cI, 8, .inl (fun _ => nI 0))), (q71, .inl (cI, 8, .inl (fun _ => nI 0)))]) := hD
  refine lv_aload_n hx hb dX0_init_76 rfl (lv_at hl 0 rfl) ?_
  refine lv_bipush (v := nI 10) hx hb dX0_init_77 (by decide) ?_
  refine ct_newI (N := 10) S hK hP hD hS hA (by decide) (Nat.le_of_ble_eq_true rfl) (Nat.le_of_ble_eq_true rfl) dX0_init_79 (fun q79 H hP hD hS => ?_)
  have hP : va_P D vwCl ([(b, .inr (0, [.ref q7, .ref q15, .ref q23, .ref q31, .ref q39, .ref q47, .ref q55, .ref q63, .ref q71, .null, .int 0, .int 0, .int 0, .int 0])), (q7, .inl (cI, 6, .inl (fun _ => nI 0))), (q15, .inl (cI, 6, .inl (fun _ => nI 0))), (q23, .inl (cI, 8, .inl (fun _ => nI 0))), (q31, .inl (cI, 8, .inl (fun _ => nI 0))), (q39, .inl (cI, 8, .inl (fun _ => nI 0))), (q47, .inl (cI, 8, .inl (fun _ => nI 0))), (q55, .inl (cI, 8, .inl (fun _ => nI 0))), (q63, .inl (cI, 8, .inl (fun _ => nI 0))), (q71, .inl (cI, 8, .inl (fun _ => nI 0))), (q79, .inl (cI, 10, .inl (fun _ => nI 0)))]) H := hP
  have hD : va_D A ([(b, .inr (0, [.ref q7, .ref q15, .ref q23, .ref q31, .ref q39, .ref q47, .ref q55, .ref q63, .ref q71, .null, .int 0, .int 0, .int 0, .int 0])), (q7, .inl (cI, 6, .inl (fun _ => nI 0))), (q15, .inl (cI, 6, .inl (fun _ => nI 0))), (q23, .inl (cI, 8, .inl (fun _ => nI 0))), (q31, .inl (cI, 8, .inl (fun _ => nI 0))), (q39, .inl (cI, 8, .inl (fun _ => nI 0))), (q47, .inl (cI, 8, .inl (fun _ => nI 0))), (q55, .inl (cI, 8, .inl (fun _ => nI 0))), (q63, .inl (cI, 8, .inl (fun _ => nI 0))), (q71, .inl (cI, 8, .inl (fun _ => nI 0))), (q79, .inl (cI, 10, .inl (fun _ => nI 0)))]) := hD
  refine va_putF (D := D) (ci := 0) (v := .ref q79) (ty := .array .int) (C := RX0) (T := TX0) (N := 14) hx hb hU mD_X0 tyX0 tyX0_ok nmX0 hown hK hP hD hS 0 rfl rfl 9 (by decide) (hU _ mF_X0_39) (fun _ h9 => h9) rfl hnm rfl (by decide +kernel) rfl rfl (Nat.le_of_ble_eq_true rfl) dX0_init_81 (fun H locs hP hD hS => ?_)
  have hP : va_P D vwCl ([(b, .inr (0, [.ref q7, .ref q15, .ref q23, .ref q31, .ref q39, .ref q47, .ref q55, .ref q63, .ref q71, .ref q79, .int 0, .int 0, .int 0, .int 0])), (q7, .inl (cI, 6, .inl (fun _ => nI 0))), (q15, .inl (cI, 6, .inl (fun _ => nI 0))), (q23, .inl (cI, 8, .inl (fun _ => nI 0))), (q31, .inl (cI, 8, .inl (fun _ => nI 0))), (q39, .inl (cI, 8, .inl (fun _ => nI 0))), (q47, .inl (cI, 8, .inl (fun _ => nI 0))), (q55, .inl (cI, 8, .inl (fun _ => nI 0))), (q63, .inl (cI, 8, .inl (fun _ => nI 0))), (q71, .inl (cI, 8, .inl (fun _ => nI 0))), (q79, .inl (cI, 10, .inl (fun _ => nI 0)))]) H := hP
  have hD : va_D A ([(b, .inr (0, [.ref q7, .ref q15, .ref q23, .ref q31, .ref q39, .ref q47, .ref q55, .ref q63, .ref q71, .ref q79, .int 0, .int 0, .int 0, .int 0])), (q7, .inl (cI, 6, .inl (fun _ => nI 0))), (q15, .inl (cI, 6, .inl (fun _ => nI 0))), (q23, .inl (cI, 8, .inl (fun _ => nI 0))), (q31, .inl (cI, 8, .inl (fun _ => nI 0))), (q39, .inl (cI, 8, .inl (fun _ => nI 0))), (q47, .inl (cI, 8, .inl (fun _ => nI 0))), (q55, .inl (cI, 8, .inl (fun _ => nI 0))), (q63, .inl (cI, 8, .inl (fun _ => nI 0))), (q71, .inl (cI, 8, .inl (fun _ => nI 0))), (q79, .inl (cI, 10, .inl (fun _ => nI 0)))]) := hD
  refine lv_aload_n hx hb dX0_init_84 rfl (lv_at hl 0 rfl) ?_
  refine lv_iconst (v := nI 0) hx hb dX0_init_85 (by decide) ?_
  refine va_put (D := D) (ci := 0) (v := .int (nI 0)) (ty := .int) (C := RX0) (T := TX0) (N := 14) hx hb hU mD_X0 tyX0 tyX0_ok nmX0 hown hK hP hD hS 0 rfl rfl 10 (by decide) (hU _ mF_X0_42) (fun _ h9 => h9) rfl (by decide +kernel) rfl rfl (Nat.le_of_ble_eq_true rfl) dX0_init_86 (fun H locs hP hD hS => ?_)
  have hP : va_P D vwCl ([(b, .inr (0, [.ref q7, .ref q15, .ref q23, .ref q31, .ref q39, .ref q47, .ref q55, .ref q63, .ref q71, .ref q79, .int (nI 0), .int 0, .int 0, .int 0])), (q7, .inl (cI, 6, .inl (fun _ => nI 0))), (q15, .inl (cI, 6, .inl (fun _ => nI 0))), (q23, .inl (cI, 8, .inl (fun _ => nI 0))), (q31, .inl (cI, 8, .inl (fun _ => nI 0))), (q39, .inl (cI, 8, .inl (fun _ => nI 0))), (q47, .inl (cI, 8, .inl (fun _ => nI 0))), (q55, .inl (cI, 8, .inl (fun _ => nI 0))), (q63, .inl (cI, 8, .inl (fun _ => nI 0))), (q71, .inl (cI, 8, .inl (fun _ => nI 0))), (q79, .inl (cI, 10, .inl (fun _ => nI 0)))]) H := hP
  have hD : va_D A ([(b, .inr (0, [.ref q7, .ref q15, .ref q23, .ref q31, .ref q39, .ref q47, .ref q55, .ref q63, .ref q71, .ref q79, .int (nI 0), .int 0, .int 0, .int 0])), (q7, .inl (cI, 6, .inl (fun _ => nI 0))), (q15, .inl (cI, 6, .inl (fun _ => nI 0))), (q23, .inl (cI, 8, .inl (fun _ => nI 0))), (q31, .inl (cI, 8, .inl (fun _ => nI 0))), (q39, .inl (cI, 8, .inl (fun _ => nI 0))), (q47, .inl (cI, 8, .inl (fun _ => nI 0))), (q55, .inl (cI, 8, .inl (fun _ => nI 0))), (q63, .inl (cI, 8, .inl (fun _ => nI 0))), (q71, .inl (cI, 8, .inl (fun _ => nI 0))), (q79, .inl (cI, 10, .inl (fun _ => nI 0)))]) := hD
  refine lv_aload_n hx hb dX0_init_89 rfl (lv_at hl 0 rfl) ?_
  refine lv_iconst (v := nI 0) hx hb dX0_init_90 (by decide) ?_
  refine va_put (D := D) (ci := 0) (v := .int (nI 0)) (ty := .int) (C := RX0) (T := TX0) (N := 14) hx hb hU mD_X0 tyX0 tyX0_ok nmX0 hown hK hP hD hS 0 rfl rfl 11 (by decide) (hU _ mF_X0_46) (fun _ h9 => h9) rfl (by decide +kernel) rfl rfl (Nat.le_of_ble_eq_true rfl) dX0_init_91 (fun H locs hP hD hS => ?_)
  have hP : va_P D vwCl ([(b, .inr (0, [.ref q7, .ref q15, .ref q23, .ref q31, .ref q39, .ref q47, .ref q55, .ref q63, .ref q71, .ref q79, .int (nI 0), .int (nI 0), .int 0, .int 0])), (q7, .inl (cI, 6, .inl (fun _ => nI 0))), (q15, .inl (cI, 6, .inl (fun _ => nI 0))), (q23, .inl (cI, 8, .inl (fun _ => nI 0))), (q31, .inl (cI, 8, .inl (fun _ => nI 0))), (q39, .inl (cI, 8, .inl (fun _ => nI 0))), (q47, .inl (cI, 8, .inl (fun _ => nI 0))), (q55, .inl (cI, 8, .inl (fun _ => nI 0))), (q63, .inl (cI, 8, .inl (fun _ => nI 0))), (q71, .inl (cI, 8, .inl (fun _ => nI 0))), (q79, .inl (cI, 10, .inl (fun _ => nI 0)))]) H := hP
  have hD : va_D A ([(b, .inr (0, [.ref q7, .ref q15, .ref q23, .ref q31, .ref q39, .ref q47, .ref q55, .ref q63, .ref q71, .ref q79, .int (nI 0), .int (nI 0), .int 0, .int 0])), (q7, .inl (cI, 6, .inl (fun _ => nI 0))), (q15, .inl (cI, 6, .inl (fun _ => nI 0))), (q23, .inl (cI, 8, .inl (fun _ => nI 0))), (q31, .inl (cI, 8, .inl (fun _ => nI 0))), (q39, .inl (cI, 8, .inl (fun _ => nI 0))), (q47, .inl (cI, 8, .inl (fun _ => nI 0))), (q55, .inl (cI, 8, .inl (fun _ => nI 0))), (q63, .inl (cI, 8, .inl (fun _ => nI 0))), (q71, .inl (cI, 8, .inl (fun _ => nI 0))), (q79, .inl (cI, 10, .inl (fun _ => nI 0)))]) := hD
  refine lv_aload_n hx hb dX0_init_94 rfl (lv_at hl 0 rfl) ?_
  refine lv_iconst (v := nI 0) hx hb dX0_init_95 (by decide) ?_
  refine va_put (D := D) (ci := 0) (v := .int (nI 0)) (ty := .int) (C := RX0) (T := TX0) (N := 14) hx hb hU mD_X0 tyX0 tyX0_ok nmX0 hown hK hP hD hS 0 rfl rfl 12 (by decide) (hU _ mF_X0_49) (fun _ h9 => h9) rfl (by decide +kernel) rfl rfl (Nat.le_of_ble_eq_true rfl) dX0_init_96 (fun H locs hP hD hS => ?_)
  have hP : va_P D vwCl ([(b, .inr (0, [.ref q7, .ref q15, .ref q23, .ref q31, .ref q39, .ref q47, .ref q55, .ref q63, .ref q71, .ref q79, .int (nI 0), .int (nI 0), .int (nI 0), .int 0])), (q7, .inl (cI, 6, .inl (fun _ => nI 0))), (q15, .inl (cI, 6, .inl (fun _ => nI 0))), (q23, .inl (cI, 8, .inl (fun _ => nI 0))), (q31, .inl (cI, 8, .inl (fun _ => nI 0))), (q39, .inl (cI, 8, .inl (fun _ => nI 0))), (q47, .inl (cI, 8, .inl (fun _ => nI 0))), (q55, .inl (cI, 8, .inl (fun _ => nI 0))), (q63, .inl (cI, 8, .inl (fun _ => nI 0))), (q71, .inl (cI, 8, .inl (fun _ => nI 0))), (q79, .inl (cI, 10, .inl (fun _ => nI 0)))]) H := hP
  have hD : va_D A ([(b, .inr (0, [.ref q7, .ref q15, .ref q23, .ref q31, .ref q39, .ref q47, .ref q55, .ref q63, .ref q71, .ref q79, .int (nI 0), .int (nI 0), .int (nI 0), .int 0])), (q7, .inl (cI, 6, .inl (fun _ => nI 0))), (q15, .inl (cI, 6, .inl (fun _ => nI 0))), (q23, .inl (cI, 8, .inl (fun _ => nI 0))), (q31, .inl (cI, 8, .inl (fun _ => nI 0))), (q39, .inl (cI, 8, .inl (fun _ => nI 0))), (q47, .inl (cI, 8, .inl (fun _ => nI 0))), (q55, .inl (cI, 8, .inl (fun _ => nI 0))), (q63, .inl (cI, 8, .inl (fun _ => nI 0))), (q71, .inl (cI, 8, .inl (fun _ => nI 0))), (q79, .inl (cI, 10, .inl (fun _ => nI 0)))]) := hD
  refine lv_aload_n hx hb dX0_init_99 rfl (lv_at hl 0 rfl) ?_
  refine lv_iconst (v := nI 1) hx hb dX0_init_100 (by decide) ?_
  refine va_put (D := D) (ci := 0) (v := .int (nI 1)) (ty := .int) (C := RX0) (T := TX0) (N := 14) hx hb hU mD_X0 tyX0 tyX0_ok nmX0 hown hK hP hD hS 0 rfl rfl 13 (by decide) (hU _ mF_X0_52) (fun _ h9 => h9) rfl (by decide +kernel) rfl rfl (Nat.le_of_ble_eq_true rfl) dX0_init_101 (fun H locs hP hD hS => ?_)
  have hP : va_P D vwCl ([(b, .inr (0, [.ref q7, .ref q15, .ref q23, .ref q31, .ref q39, .ref q47, .ref q55, .ref q63, .ref q71, .ref q79, .int (nI 0), .int (nI 0), .int (nI 0), .int (nI 1)])), (q7, .inl (cI, 6, .inl (fun _ => nI 0))), (q15, .inl (cI, 6, .inl (fun _ => nI 0))), (q23, .inl (cI, 8, .inl (fun _ => nI 0))), (q31, .inl (cI, 8, .inl (fun _ => nI 0))), (q39, .inl (cI, 8, .inl (fun _ => nI 0))), (q47, .inl (cI, 8, .inl (fun _ => nI 0))), (q55, .inl (cI, 8, .inl (fun _ => nI 0))), (q63, .inl (cI, 8, .inl (fun _ => nI 0))), (q71, .inl (cI, 8, .inl (fun _ => nI 0))), (q79, .inl (cI, 10, .inl (fun _ => nI 0)))]) H := hP
  have hD : va_D A ([(b, .inr (0, [.ref q7, .ref q15, .ref q23, .ref q31, .ref q39, .ref q47, .ref q55, .ref q63, .ref q71, .ref q79, .int (nI 0), .int (nI 0), .int (nI 0), .int (nI 1)])), (q7, .inl (cI, 6, .inl (fun _ => nI 0))), (q15, .inl (cI, 6, .inl (fun _ => nI 0))), (q23, .inl (cI, 8, .inl (fun _ => nI 0))), (q31, .inl (cI, 8, .inl (fun _ => nI 0))), (q39, .inl (cI, 8, .inl (fun _ => nI 0))), (q47, .inl (cI, 8, .inl (fun _ => nI 0))), (q55, .inl (cI, 8, .inl (fun _ => nI 0))), (q63, .inl (cI, 8, .inl (fun _ => nI 0))), (q71, .inl (cI, 8, .inl (fun _ => nI 0))), (q79, .inl (cI, 10, .inl (fun _ => nI 0)))]) := hD
  refine W.widen (k := 10) (n := 78) (Nat.le_of_ble_eq_true rfl) (Nat.le_of_ble_eq_true rfl) ?_
  have hQ : PW cI (oL [b, q7, q15, q23, q31, q39, q47, q55, q63, q71, q79]) nF0 = [(b, .inr (0, [.ref q7, .ref q15, .ref q23, .ref q31, .ref q39, .ref q47, .ref q55, .ref q63, .ref q71, .ref q79, .int (nI 0), .int (nI 0), .int (nI 0), .int (nI 1)])), (q7, .inl (cI, 6, .inl (fun _ => nI 0))), (q15, .inl (cI, 6, .inl (fun _ => nI 0))), (q23, .inl (cI, 8, .inl (fun _ => nI 0))), (q31, .inl (cI, 8, .inl (fun _ => nI 0))), (q39, .inl (cI, 8, .inl (fun _ => nI 0))), (q47, .inl (cI, 8, .inl (fun _ => nI 0))), (q55, .inl (cI, 8, .inl (fun _ => nI 0))), (q63, .inl (cI, 8, .inl (fun _ => nI 0))), (q71, .inl (cI, 8, .inl (fun _ => nI 0))), (q79, .inl (cI, 10, .inl (fun _ => nI 0)))] := by
    unfold PW
    rw [pv_z (b := 4) (n := 6) (by decide), pv_z (b := 10) (n := 6) (by decide), pv_z (b := 72) (n := 10) (by decide), vw_z (w := 0), vw_z (w := 1), vw_z (w := 2), vw_z (w := 3), vw_z (w := 4), vw_z (w := 5), vw_z (w := 6)]
    rfl
  rw [← hQ] at hP hD
  refine lv_iconst (v := nI 0) hx hb dX0_init_104 (by decide) ?_
  refine lv_istore_n (lv' := [(1, .int (nI 0)), (0, .ref b)]) hx hb dX0_init_105 rfl hl (by decide) rfl (fun ls hl => ?_)
  have L_106 : ∀ (n9 : Nat) (j : Nat) (H : Heap) (locs : List Loc) (ls : Array Slot), 6 - j < n9 → (j ≤ 6) → va_P D vwCl (PW cI (oL [b, q7, q15, q23, q31, q39, q47, q55, q63, q71, q79]) (lsA nF0 j)) H → va_D A (PW cI (oL [b, q7, q15, q23, q31, q39, q47, q55, q63, q71, q79]) (lsA nF0 j)) → va_S A s.heap H locs → lv_has ls 2 [(0, .ref b), (1, .int (nI j))] → W p l e (rmC 1 10 78) s m ([Value.ref b] : List Value).toArray below meth c H locs 10 78 (MQ below (QC D (fun q => PW cI q nF) b A) ([Value.ref b] : List Value).toArray s 10 78 A) (F0 m 106 ls []) := by
    intro n9
    induction n9 with
    | zero => intro j H locs ls hmeas; exact absurd hmeas (Nat.not_lt_zero _)
    | succ n9 ih_106 =>
      intro j H locs ls hmeas hj hP hD hS hl
      refine lv_iload_n hx hb dX0_init_106 rfl (lv_at hl 1 rfl) ?_
      refine lv_bipush (v := nI 6) hx hb dX0_init_107 (by decide) ?_
      refine q_icmp_geN (tgt := 126) (a := j) (b := 6) hx hb dX0_init_109 (by decide) (by omega) (by omega) (fun c_109 => ?_) (fun c_109 => ?_)
      · rw [show j = 6 by omega] at hP hD
        refine lv_iconst (v := nI 0) hx hb dX0_init_126 (by decide) ?_
        refine lv_istore_n (lv' := [(1, .int (nI 0)), (0, .ref b)]) hx hb dX0_init_127 rfl hl (by decide) rfl (fun ls hl => ?_)
        have L_128 : ∀ (n9 : Nat) (j : Nat) (H : Heap) (locs : List Loc) (ls : Array Slot), 10 - j < n9 → (j ≤ 10) → va_P D vwCl (PW cI (oL [b, q7, q15, q23, q31, q39, q47, q55, q63, q71, q79]) (lsB (lsA nF0 6) j)) H → va_D A (PW cI (oL [b, q7, q15, q23, q31, q39, q47, q55, q63, q71, q79]) (lsB (lsA nF0 6) j)) → va_S A s.heap H locs → lv_has ls 2 [(0, .ref b), (1, .int (nI j))] → W p l e (rmC 1 10 78) s m ([Value.ref b] : List Value).toArray below meth c H locs 10 78 (MQ below (QC D (fun q => PW cI q nF) b A) ([Value.ref b] : List Value).toArray s 10 78 A) (F0 m 128 ls []) := by
          intro n9
          induction n9 with
          | zero => intro j H locs ls hmeas; exact absurd hmeas (Nat.not_lt_zero _)
          | succ n9 ih_128 =>
            intro j H locs ls hmeas hj hP hD hS hl
            refine lv_iload_n hx hb dX0_init_128 rfl (lv_at hl 1 rfl) ?_
            refine lv_bipush (v := nI 10) hx hb dX0_init_129 (by decide) ?_
            refine q_icmp_geN (tgt := 147) (a := j) (b := 10) hx hb dX0_init_131 (by decide) (by omega) (by omega) (fun c_131 => ?_) (fun c_131 => ?_)
            · rw [show j = 10 by omega] at hP hD
              exact CT.vret S hr hlk (oL [b, q7, q15, q23, q31, q39, q47, q55, q63, q71, q79]) rfl hP hD hS dX0_init_147
            · refine lv_aload_n hx hb dX0_init_134 rfl (lv_at hl 0 rfl) ?_
              refine g00_spots S hK hP dX0_init_135 ?_
              refine lv_iload_n hx hb dX0_init_138 rfl (lv_at hl 1 rfl) ?_
              refine lv_iconst (v := (-1)) hx hb dX0_init_139 (by decide) ?_
              refine s0_spots S hK hP hD hS (j := j) (by omega) dX0_init_140 (fun H locs hP hD hS => ?_)
              refine lv_iinc (v := nI (j + 1)) (lv' := [(1, .int (nI (j + 1))), (0, .ref b)]) hx hb dX0_init_141 hl (k := 1) rfl (q_inc _) (by decide) rfl (fun ls hl => ?_)
              refine lv_goto (tgt := 128) hx hb dX0_init_144 (by decide) ?_
              rw [lsB_s] at hP hD
              exact ih_128 (j + 1) _ _ ls (by omega) (by omega) hP hD hS (lv_sub hl [1, 0] rfl)
        exact L_128 ((10 - 0) + 1) 0 _ _ ls (Nat.lt_succ_self _) (by omega) (by rw [lsB_0]; exact hP) (by rw [lsB_0]; exact hD) hS (lv_sub hl [1, 0] rfl)
      · refine lv_aload_n hx hb dX0_init_112 rfl (lv_at hl 0 rfl) ?_
        refine g00_list S hK hP dX0_init_113 ?_
        refine lv_iload_n hx hb dX0_init_116 rfl (lv_at hl 1 rfl) ?_
        refine lv_bipush (v := nI 10) hx hb dX0_init_117 (by decide) ?_
        refine s0_list S hK hP hD hS (j := j) (by omega) dX0_init_119 (fun H locs hP hD hS => ?_)
        refine lv_iinc (v := nI (j + 1)) (lv' := [(1, .int (nI (j + 1))), (0, .ref b)]) hx hb dX0_init_120 hl (k := 1) rfl (q_inc _) (by decide) rfl (fun ls hl => ?_)
        refine lv_goto (tgt := 106) hx hb dX0_init_123 (by decide) ?_
        rw [lsA_s] at hP hD
        exact ih_106 (j + 1) _ _ ls (by omega) (by omega) hP hD hS (lv_sub hl [1, 0] rfl)
  exact L_106 ((6 - 0) + 1) 0 _ _ ls (Nat.lt_succ_self _) (by omega) (by rw [lsA_0]; exact hP) (by rw [lsA_0]; exact hD) hS (lv_sub hl [1, 0] rfl)
set_option maxRecDepth 100000 in
set_option maxHeartbeats 4000000 in
theorem c_X2_init (l : Launch) (D : va_G) (cI cJ : ClassId) (b : Nat) : CT l yX2_init cX2_init 1 1 1 120 D cI cJ 2 [.null, .int 0, .int 0, .int 0, .int 0, .int 0] b (fun q => TT cI q (fun _ => zF)) := by
  refine CT.of (by decide) rfl (Nat.le_of_ble_eq_true rfl) (fun p e s m below meth c ls A S hr hlk hnm hK hE hP hD hS hA hl => ?_)
  obtain ⟨hx, hb, hml, hown, hU⟩ := id S
  have hl : lv_has ls 1 [(0, .ref b)] := hl
  refine lv_aload_n hx hb dX2_init_0 rfl (lv_at hl 0 rfl) ?_
  refine ct_obj S mL_X2_3 hl.1 (Nat.le_of_ble_eq_true rfl) (Nat.le_of_ble_eq_true rfl) dX2_init_1 ?_
  refine lv_aload_n hx hb dX2_init_4 rfl (lv_at hl 0 rfl) ?_
  refine lv_bipush (v := nI 120) hx hb dX2_init_5 (by decide) ?_
  refine ct_newI (N := 120) S hK hP hD hS hA (by decide) (Nat.le_of_ble_eq_true rfl) (Nat.le_of_ble_eq_true rfl) dX2_init_7 (fun q7 H hP hD hS => ?_)
  have hP : va_P D vwCl ([(b, .inr (2, [.null, .int 0, .int 0, .int 0, .int 0, .int 0])), (q7, .inl (cI, 120, .inl (fun _ => nI 0)))]) H := hP
  have hD : va_D A ([(b, .inr (2, [.null, .int 0, .int 0, .int 0, .int 0, .int 0])), (q7, .inl (cI, 120, .inl (fun _ => nI 0)))]) := hD
  refine va_putF (D := D) (ci := 2) (v := .ref q7) (ty := .array .int) (C := RX2) (T := TX2) (N := 6) hx hb hU mD_X2 tyX2 tyX2_ok nmX2 hown hK hP hD hS 0 rfl rfl 0 (by decide) (hU _ mF_X2_9) (fun _ h9 => h9) rfl hnm rfl (by decide +kernel) rfl rfl (Nat.le_of_ble_eq_true rfl) dX2_init_9 (fun H locs hP hD hS => ?_)
  have hP : va_P D vwCl ([(b, .inr (2, [.ref q7, .int 0, .int 0, .int 0, .int 0, .int 0])), (q7, .inl (cI, 120, .inl (fun _ => nI 0)))]) H := hP
  have hD : va_D A ([(b, .inr (2, [.ref q7, .int 0, .int 0, .int 0, .int 0, .int 0])), (q7, .inl (cI, 120, .inl (fun _ => nI 0)))]) := hD
  refine lv_aload_n hx hb dX2_init_12 rfl (lv_at hl 0 rfl) ?_
  refine lv_iconst (v := nI 0) hx hb dX2_init_13 (by decide) ?_
  refine va_put (D := D) (ci := 2) (v := .int (nI 0)) (ty := .int) (C := RX2) (T := TX2) (N := 6) hx hb hU mD_X2 tyX2 tyX2_ok nmX2 hown hK hP hD hS 0 rfl rfl 1 (by decide) (hU _ mF_X2_15) (fun _ h9 => h9) rfl (by decide +kernel) rfl rfl (Nat.le_of_ble_eq_true rfl) dX2_init_14 (fun H locs hP hD hS => ?_)
  have hP : va_P D vwCl ([(b, .inr (2, [.ref q7, .int (nI 0), .int 0, .int 0, .int 0, .int 0])), (q7, .inl (cI, 120, .inl (fun _ => nI 0)))]) H := hP
  have hD : va_D A ([(b, .inr (2, [.ref q7, .int (nI 0), .int 0, .int 0, .int 0, .int 0])), (q7, .inl (cI, 120, .inl (fun _ => nI 0)))]) := hD
  refine lv_aload_n hx hb dX2_init_17 rfl (lv_at hl 0 rfl) ?_
  refine lv_iconst (v := nI 0) hx hb dX2_init_18 (by decide) ?_
  refine va_put (D := D) (ci := 2) (v := .int (nI 0)) (ty := .int) (C := RX2) (T := TX2) (N := 6) hx hb hU mD_X2 tyX2 tyX2_ok nmX2 hown hK hP hD hS 0 rfl rfl 2 (by decide) (hU _ mF_X2_19) (fun _ h9 => h9) rfl (by decide +kernel) rfl rfl (Nat.le_of_ble_eq_true rfl) dX2_init_19 (fun H locs hP hD hS => ?_)
  have hP : va_P D vwCl ([(b, .inr (2, [.ref q7, .int (nI 0), .int (nI 0), .int 0, .int 0, .int 0])), (q7, .inl (cI, 120, .inl (fun _ => nI 0)))]) H := hP
  have hD : va_D A ([(b, .inr (2, [.ref q7, .int (nI 0), .int (nI 0), .int 0, .int 0, .int 0])), (q7, .inl (cI, 120, .inl (fun _ => nI 0)))]) := hD
  refine lv_aload_n hx hb dX2_init_22 rfl (lv_at hl 0 rfl) ?_
  refine lv_iconst (v := nI 0) hx hb dX2_init_23 (by decide) ?_
  refine va_put (D := D) (ci := 2) (v := .int (nI 0)) (ty := .int) (C := RX2) (T := TX2) (N := 6) hx hb hU mD_X2 tyX2 tyX2_ok nmX2 hown hK hP hD hS 0 rfl rfl 3 (by decide) (hU _ mF_X2_22) (fun _ h9 => h9) rfl (by decide +kernel) rfl rfl (Nat.le_of_ble_eq_true rfl) dX2_init_24 (fun H locs hP hD hS => ?_)
  have hP : va_P D vwCl ([(b, .inr (2, [.ref q7, .int (nI 0), .int (nI 0), .int (nI 0), .int 0, .int 0])), (q7, .inl (cI, 120, .inl (fun _ => nI 0)))]) H := hP
  have hD : va_D A ([(b, .inr (2, [.ref q7, .int (nI 0), .int (nI 0), .int (nI 0), .int 0, .int 0])), (q7, .inl (cI, 120, .inl (fun _ => nI 0)))]) := hD
  refine lv_aload_n hx hb dX2_init_27 rfl (lv_at hl 0 rfl) ?_
  refine lv_iconst (v := nI 0) hx hb dX2_init_28 (by decide) ?_
  refine va_put (D := D) (ci := 2) (v := .int (nI 0)) (ty := .int) (C := RX2) (T := TX2) (N := 6) hx hb hU mD_X2 tyX2 tyX2_ok nmX2 hown hK hP hD hS 0 rfl rfl 4 (by decide) (hU _ mF_X2_25) (fun _ h9 => h9) rfl (by decide +kernel) rfl rfl (Nat.le_of_ble_eq_true rfl) dX2_init_29 (fun H locs hP hD hS => ?_)
  have hP : va_P D vwCl ([(b, .inr (2, [.ref q7, .int (nI 0), .int (nI 0), .int (nI 0), .int (nI 0), .int 0])), (q7, .inl (cI, 120, .inl (fun _ => nI 0)))]) H := hP
  have hD : va_D A ([(b, .inr (2, [.ref q7, .int (nI 0), .int (nI 0), .int (nI 0), .int (nI 0), .int 0])), (q7, .inl (cI, 120, .inl (fun _ => nI 0)))]) := hD
  refine lv_aload_n hx hb dX2_init_32 rfl (lv_at hl 0 rfl) ?_
  refine lv_iconst (v := nI 0) hx hb dX2_init_33 (by decide) ?_
  refine va_put (D := D) (ci := 2) (v := .int (nI 0)) (ty := .int) (C := RX2) (T := TX2) (N := 6) hx hb hU mD_X2 tyX2 tyX2_ok nmX2 hown hK hP hD hS 0 rfl rfl 5 (by decide) (hU _ mF_X2_28) (fun _ h9 => h9) rfl (by decide +kernel) rfl rfl (Nat.le_of_ble_eq_true rfl) dX2_init_34 (fun H locs hP hD hS => ?_)
  have hP : va_P D vwCl ([(b, .inr (2, [.ref q7, .int (nI 0), .int (nI 0), .int (nI 0), .int (nI 0), .int (nI 0)])), (q7, .inl (cI, 120, .inl (fun _ => nI 0)))]) H := hP
  have hD : va_D A ([(b, .inr (2, [.ref q7, .int (nI 0), .int (nI 0), .int (nI 0), .int (nI 0), .int (nI 0)])), (q7, .inl (cI, 120, .inl (fun _ => nI 0)))]) := hD
  refine W.widen (k := 1) (n := 120) (Nat.le_of_ble_eq_true rfl) (Nat.le_of_ble_eq_true rfl) ?_
  exact CT.vret S hr hlk (oL [b, q7]) rfl hP hD hS dX2_init_37
set_option maxRecDepth 100000 in
set_option maxHeartbeats 4000000 in
theorem c_X4_init (l : Launch) (D : va_G) (cI cJ : ClassId) (b : Nat) : CT l yX4_init cX4_init 2 1 9 784 D cI cJ 4 [.null, .null, .null, .null, .int 0, .null, .null, .int 0, .null, .null, .null, .int 0, .int 0, .int 0, .int 0, .int 0, .int 0, .int 0] b (fun q => MW cI q nF sg0) := by
  refine CT.of (by decide) rfl (Nat.le_of_ble_eq_true rfl) (fun p e s m below meth c ls A S hr hlk hnm hK hE hP hD hS hA hl => ?_)
  obtain ⟨hx, hb, hml, hown, hU⟩ := id S
  have hl : lv_has ls 2 [(0, .ref b)] := hl
  refine lv_aload_n hx hb dX4_init_0 rfl (lv_at hl 0 rfl) ?_
  refine ct_obj S mL_X4_1 hl.1 (Nat.le_of_ble_eq_true rfl) (Nat.le_of_ble_eq_true rfl) dX4_init_1 ?_
  refine lv_aload_n hx hb dX4_init_4 rfl (lv_at hl 0 rfl) ?_
  refine lv_bipush (v := nI 82) hx hb dX4_init_5 (by decide) ?_
  refine ct_newI (N := 82) S hK hP hD hS hA (by decide) (Nat.le_of_ble_eq_true rfl) (Nat.le_of_ble_eq_true rfl) dX4_init_7 (fun q7 H hP hD hS => ?_)
  have hP : va_P D vwCl ([(b, .inr (4, [.null, .null, .null, .null, .int 0, .null, .null, .int 0, .null, .null, .null, .int 0, .int 0, .int 0, .int 0, .int 0, .int 0, .int 0])), (q7, .inl (cI, 82, .inl (fun _ => nI 0)))]) H := hP
  have hD : va_D A ([(b, .inr (4, [.null, .null, .null, .null, .int 0, .null, .null, .int 0, .null, .null, .null, .int 0, .int 0, .int 0, .int 0, .int 0, .int 0, .int 0])), (q7, .inl (cI, 82, .inl (fun _ => nI 0)))]) := hD
  refine va_putF (D := D) (ci := 4) (v := .ref q7) (ty := .array .int) (C := RX4) (T := TX4) (N := 18) hx hb hU mD_X4 tyX4 tyX4_ok nmX4 hown hK hP hD hS 0 rfl rfl 0 (by decide) (hU _ mF_X4_7) (fun _ h9 => h9) rfl hnm rfl (by decide +kernel) rfl rfl (Nat.le_of_ble_eq_true rfl) dX4_init_9 (fun H locs hP hD hS => ?_)
  have hP : va_P D vwCl ([(b, .inr (4, [.ref q7, .null, .null, .null, .int 0, .null, .null, .int 0, .null, .null, .null, .int 0, .int 0, .int 0, .int 0, .int 0, .int 0, .int 0])), (q7, .inl (cI, 82, .inl (fun _ => nI 0)))]) H := hP
  have hD : va_D A ([(b, .inr (4, [.ref q7, .null, .null, .null, .int 0, .null, .null, .int 0, .null, .null, .null, .int 0, .int 0, .int 0, .int 0, .int 0, .int 0, .int 0])), (q7, .inl (cI, 82, .inl (fun _ => nI 0)))]) := hD
  refine lv_aload_n hx hb dX4_init_12 rfl (lv_at hl 0 rfl) ?_
  refine lv_bipush (v := nI 82) hx hb dX4_init_13 (by decide) ?_
  refine ct_newI (N := 82) S hK hP hD hS hA (by decide) (Nat.le_of_ble_eq_true rfl) (Nat.le_of_ble_eq_true rfl) dX4_init_15 (fun q15 H hP hD hS => ?_)
  have hP : va_P D vwCl ([(b, .inr (4, [.ref q7, .null, .null, .null, .int 0, .null, .null, .int 0, .null, .null, .null, .int 0, .int 0, .int 0, .int 0, .int 0, .int 0, .int 0])), (q7, .inl (cI, 82, .inl (fun _ => nI 0))), (q15, .inl (cI, 82, .inl (fun _ => nI 0)))]) H := hP
  have hD : va_D A ([(b, .inr (4, [.ref q7, .null, .null, .null, .int 0, .null, .null, .int 0, .null, .null, .null, .int 0, .int 0, .int 0, .int 0, .int 0, .int 0, .int 0])), (q7, .inl (cI, 82, .inl (fun _ => nI 0))), (q15, .inl (cI, 82, .inl (fun _ => nI 0)))]) := hD
  refine va_putF (D := D) (ci := 4) (v := .ref q15) (ty := .array .int) (C := RX4) (T := TX4) (N := 18) hx hb hU mD_X4 tyX4 tyX4_ok nmX4 hown hK hP hD hS 0 rfl rfl 1 (by decide) (hU _ mF_X4_13) (fun _ h9 => h9) rfl hnm rfl (by decide +kernel) rfl rfl (Nat.le_of_ble_eq_true rfl) dX4_init_17 (fun H locs hP hD hS => ?_)
  have hP : va_P D vwCl ([(b, .inr (4, [.ref q7, .ref q15, .null, .null, .int 0, .null, .null, .int 0, .null, .null, .null, .int 0, .int 0, .int 0, .int 0, .int 0, .int 0, .int 0])), (q7, .inl (cI, 82, .inl (fun _ => nI 0))), (q15, .inl (cI, 82, .inl (fun _ => nI 0)))]) H := hP
  have hD : va_D A ([(b, .inr (4, [.ref q7, .ref q15, .null, .null, .int 0, .null, .null, .int 0, .null, .null, .null, .int 0, .int 0, .int 0, .int 0, .int 0, .int 0, .int 0])), (q7, .inl (cI, 82, .inl (fun _ => nI 0))), (q15, .inl (cI, 82, .inl (fun _ => nI 0)))]) := hD
  refine lv_aload_n hx hb dX4_init_20 rfl (lv_at hl 0 rfl) ?_
  refine lv_bipush (v := nI 82) hx hb dX4_init_21 (by decide) ?_
  refine ct_newI (N := 82) S hK hP hD hS hA (by decide) (Nat.le_of_ble_eq_true rfl) (Nat.le_of_ble_eq_true rfl) dX4_init_23 (fun q23 H hP hD hS => ?_)
  have hP : va_P D vwCl ([(b, .inr (4, [.ref q7, .ref q15, .null, .null, .int 0, .null, .null, .int 0, .null, .null, .null, .int 0, .int 0, .int 0, .int 0, .int 0, .int 0, .int 0])), (q7, .inl (cI, 82, .inl (fun _ => nI 0))), (q15, .inl (cI, 82, .inl (fun _ => nI 0))), (q23, .inl (cI, 82, .inl (fun _ => nI 0)))]) H := hP
  have hD : va_D A ([(b, .inr (4, [.ref q7, .ref q15, .null, .null, .int 0, .null, .null, .int 0, .null, .null, .null, .int 0, .int 0, .int 0, .int 0, .int 0, .int 0, .int 0])), (q7, .inl (cI, 82, .inl (fun _ => nI 0))), (q15, .inl (cI, 82, .inl (fun _ => nI 0))), (q23, .inl (cI, 82, .inl (fun _ => nI 0)))]) := hD
  refine va_putF (D := D) (ci := 4) (v := .ref q23) (ty := .array .int) (C := RX4) (T := TX4) (N := 18) hx hb hU mD_X4 tyX4 tyX4_ok nmX4 hown hK hP hD hS 0 rfl rfl 2 (by decide) (hU _ mF_X4_16) (fun _ h9 => h9) rfl hnm rfl (by decide +kernel) rfl rfl (Nat.le_of_ble_eq_true rfl) dX4_init_25 (fun H locs hP hD hS => ?_)
  have hP : va_P D vwCl ([(b, .inr (4, [.ref q7, .ref q15, .ref q23, .null, .int 0, .null, .null, .int 0, .null, .null, .null, .int 0, .int 0, .int 0, .int 0, .int 0, .int 0, .int 0])), (q7, .inl (cI, 82, .inl (fun _ => nI 0))), (q15, .inl (cI, 82, .inl (fun _ => nI 0))), (q23, .inl (cI, 82, .inl (fun _ => nI 0)))]) H := hP
  have hD : va_D A ([(b, .inr (4, [.ref q7, .ref q15, .ref q23, .null, .int 0, .null, .null, .int 0, .null, .null, .null, .int 0, .int 0, .int 0, .int 0, .int 0, .int 0, .int 0])), (q7, .inl (cI, 82, .inl (fun _ => nI 0))), (q15, .inl (cI, 82, .inl (fun _ => nI 0))), (q23, .inl (cI, 82, .inl (fun _ => nI 0)))]) := hD
  refine lv_aload_n hx hb dX4_init_28 rfl (lv_at hl 0 rfl) ?_
  refine lv_bipush (v := nI 82) hx hb dX4_init_29 (by decide) ?_
  refine ct_newI (N := 82) S hK hP hD hS hA (by decide) (Nat.le_of_ble_eq_true rfl) (Nat.le_of_ble_eq_true rfl) dX4_init_31 (fun q31 H hP hD hS => ?_)
  have hP : va_P D vwCl ([(b, .inr (4, [.ref q7, .ref q15, .ref q23, .null, .int 0, .null, .null, .int 0, .null, .null, .null, .int 0, .int 0, .int 0, .int 0, .int 0, .int 0, .int 0])), (q7, .inl (cI, 82, .inl (fun _ => nI 0))), (q15, .inl (cI, 82, .inl (fun _ => nI 0))), (q23, .inl (cI, 82, .inl (fun _ => nI 0))), (q31, .inl (cI, 82, .inl (fun _ => nI 0)))]) H := hP
  have hD : va_D A ([(b, .inr (4, [.ref q7, .ref q15, .ref q23, .null, .int 0, .null, .null, .int 0, .null, .null, .null, .int 0, .int 0, .int 0, .int 0, .int 0, .int 0, .int 0])), (q7, .inl (cI, 82, .inl (fun _ => nI 0))), (q15, .inl (cI, 82, .inl (fun _ => nI 0))), (q23, .inl (cI, 82, .inl (fun _ => nI 0))), (q31, .inl (cI, 82, .inl (fun _ => nI 0)))]) := hD
  refine va_putF (D := D) (ci := 4) (v := .ref q31) (ty := .array .int) (C := RX4) (T := TX4) (N := 18) hx hb hU mD_X4 tyX4 tyX4_ok nmX4 hown hK hP hD hS 0 rfl rfl 3 (by decide) (hU _ mF_X4_19) (fun _ h9 => h9) rfl hnm rfl (by decide +kernel) rfl rfl (Nat.le_of_ble_eq_true rfl) dX4_init_33 (fun H locs hP hD hS => ?_)
  have hP : va_P D vwCl ([(b, .inr (4, [.ref q7, .ref q15, .ref q23, .ref q31, .int 0, .null, .null, .int 0, .null, .null, .null, .int 0, .int 0, .int 0, .int 0, .int 0, .int 0, .int 0])), (q7, .inl (cI, 82, .inl (fun _ => nI 0))), (q15, .inl (cI, 82, .inl (fun _ => nI 0))), (q23, .inl (cI, 82, .inl (fun _ => nI 0))), (q31, .inl (cI, 82, .inl (fun _ => nI 0)))]) H := hP
  have hD : va_D A ([(b, .inr (4, [.ref q7, .ref q15, .ref q23, .ref q31, .int 0, .null, .null, .int 0, .null, .null, .null, .int 0, .int 0, .int 0, .int 0, .int 0, .int 0, .int 0])), (q7, .inl (cI, 82, .inl (fun _ => nI 0))), (q15, .inl (cI, 82, .inl (fun _ => nI 0))), (q23, .inl (cI, 82, .inl (fun _ => nI 0))), (q31, .inl (cI, 82, .inl (fun _ => nI 0)))]) := hD
  refine lv_aload_n hx hb dX4_init_36 rfl (lv_at hl 0 rfl) ?_
  refine lv_bipush (v := nI 8) hx hb dX4_init_37 (by decide) ?_
  refine ct_newI (N := 8) S hK hP hD hS hA (by decide) (Nat.le_of_ble_eq_true rfl) (Nat.le_of_ble_eq_true rfl) dX4_init_39 (fun q39 H hP hD hS => ?_)
  have hP : va_P D vwCl ([(b, .inr (4, [.ref q7, .ref q15, .ref q23, .ref q31, .int 0, .null, .null, .int 0, .null, .null, .null, .int 0, .int 0, .int 0, .int 0, .int 0, .int 0, .int 0])), (q7, .inl (cI, 82, .inl (fun _ => nI 0))), (q15, .inl (cI, 82, .inl (fun _ => nI 0))), (q23, .inl (cI, 82, .inl (fun _ => nI 0))), (q31, .inl (cI, 82, .inl (fun _ => nI 0))), (q39, .inl (cI, 8, .inl (fun _ => nI 0)))]) H := hP
  have hD : va_D A ([(b, .inr (4, [.ref q7, .ref q15, .ref q23, .ref q31, .int 0, .null, .null, .int 0, .null, .null, .null, .int 0, .int 0, .int 0, .int 0, .int 0, .int 0, .int 0])), (q7, .inl (cI, 82, .inl (fun _ => nI 0))), (q15, .inl (cI, 82, .inl (fun _ => nI 0))), (q23, .inl (cI, 82, .inl (fun _ => nI 0))), (q31, .inl (cI, 82, .inl (fun _ => nI 0))), (q39, .inl (cI, 8, .inl (fun _ => nI 0)))]) := hD
  refine va_putF (D := D) (ci := 4) (v := .ref q39) (ty := .array .int) (C := RX4) (T := TX4) (N := 18) hx hb hU mD_X4 tyX4 tyX4_ok nmX4 hown hK hP hD hS 0 rfl rfl 5 (by decide) (hU _ mF_X4_22) (fun _ h9 => h9) rfl hnm rfl (by decide +kernel) rfl rfl (Nat.le_of_ble_eq_true rfl) dX4_init_41 (fun H locs hP hD hS => ?_)
  have hP : va_P D vwCl ([(b, .inr (4, [.ref q7, .ref q15, .ref q23, .ref q31, .int 0, .ref q39, .null, .int 0, .null, .null, .null, .int 0, .int 0, .int 0, .int 0, .int 0, .int 0, .int 0])), (q7, .inl (cI, 82, .inl (fun _ => nI 0))), (q15, .inl (cI, 82, .inl (fun _ => nI 0))), (q23, .inl (cI, 82, .inl (fun _ => nI 0))), (q31, .inl (cI, 82, .inl (fun _ => nI 0))), (q39, .inl (cI, 8, .inl (fun _ => nI 0)))]) H := hP
  have hD : va_D A ([(b, .inr (4, [.ref q7, .ref q15, .ref q23, .ref q31, .int 0, .ref q39, .null, .int 0, .null, .null, .null, .int 0, .int 0, .int 0, .int 0, .int 0, .int 0, .int 0])), (q7, .inl (cI, 82, .inl (fun _ => nI 0))), (q15, .inl (cI, 82, .inl (fun _ => nI 0))), (q23, .inl (cI, 82, .inl (fun _ => nI 0))), (q31, .inl (cI, 82, .inl (fun _ => nI 0))), (q39, .inl (cI, 8, .inl (fun _ => nI 0)))]) := hD
  refine lv_aload_n hx hb dX4_init_44 rfl (lv_at hl 0 rfl) ?_
  refine lv_bipush (v := nI 120) hx hb dX4_init_45 (by decide) ?_
  refine ct_newI (N := 120) S hK hP hD hS hA (by decide) (Nat.le_of_ble_eq_true rfl) (Nat.le_of_ble_eq_true rfl) dX4_init_47 (fun q47 H hP hD hS => ?_)
  have hP : va_P D vwCl ([(b, .inr (4, [.ref q7, .ref q15, .ref q23, .ref q31, .int 0, .ref q39, .null, .int 0, .null, .null, .null, .int 0, .int 0, .int 0, .int 0, .int 0, .int 0, .int 0])), (q7, .inl (cI, 82, .inl (fun _ => nI 0))), (q15, .inl (cI, 82, .inl (fun _ => nI 0))), (q23, .inl (cI, 82, .inl (fun _ => nI 0))), (q31, .inl (cI, 82, .inl (fun _ => nI 0))), (q39, .inl (cI, 8, .inl (fun _ => nI 0))), (q47, .inl (cI, 120, .inl (fun _ => nI 0)))]) H := hP
  have hD : va_D A ([(b, .inr (4, [.ref q7, .ref q15, .ref q23, .ref q31, .int 0, .ref q39, .null, .int 0, .null, .null, .null, .int 0, .int 0, .int 0, .int 0, .int 0, .int 0, .int 0])), (q7, .inl (cI, 82, .inl (fun _ => nI 0))), (q15, .inl (cI, 82, .inl (fun _ => nI 0))), (q23, .inl (cI, 82, .inl (fun _ => nI 0))), (q31, .inl (cI, 82, .inl (fun _ => nI 0))), (q39, .inl (cI, 8, .inl (fun _ => nI 0))), (q47, .inl (cI, 120, .inl (fun _ => nI 0)))]) := hD
  refine va_putF (D := D) (ci := 4) (v := .ref q47) (ty := .array .int) (C := RX4) (T := TX4) (N := 18) hx hb hU mD_X4 tyX4 tyX4_ok nmX4 hown hK hP hD hS 0 rfl rfl 6 (by decide) (hU _ mF_X4_25) (fun _ h9 => h9) rfl hnm rfl (by decide +kernel) rfl rfl (Nat.le_of_ble_eq_true rfl) dX4_init_49 (fun H locs hP hD hS => ?_)
  have hP : va_P D vwCl ([(b, .inr (4, [.ref q7, .ref q15, .ref q23, .ref q31, .int 0, .ref q39, .ref q47, .int 0, .null, .null, .null, .int 0, .int 0, .int 0, .int 0, .int 0, .int 0, .int 0])), (q7, .inl (cI, 82, .inl (fun _ => nI 0))), (q15, .inl (cI, 82, .inl (fun _ => nI 0))), (q23, .inl (cI, 82, .inl (fun _ => nI 0))), (q31, .inl (cI, 82, .inl (fun _ => nI 0))), (q39, .inl (cI, 8, .inl (fun _ => nI 0))), (q47, .inl (cI, 120, .inl (fun _ => nI 0)))]) H := hP
  have hD : va_D A ([(b, .inr (4, [.ref q7, .ref q15, .ref q23, .ref q31, .int 0, .ref q39, .ref q47, .int 0, .null, .null, .null, .int 0, .int 0, .int 0, .int 0, .int 0, .int 0, .int 0])), (q7, .inl (cI, 82, .inl (fun _ => nI 0))), (q15, .inl (cI, 82, .inl (fun _ => nI 0))), (q23, .inl (cI, 82, .inl (fun _ => nI 0))), (q31, .inl (cI, 82, .inl (fun _ => nI 0))), (q39, .inl (cI, 8, .inl (fun _ => nI 0))), (q47, .inl (cI, 120, .inl (fun _ => nI 0)))]) := hD
  refine lv_aload_n hx hb dX4_init_52 rfl (lv_at hl 0 rfl) ?_
  refine lv_iconst (v := nI 4) hx hb dX4_init_53 (by decide) ?_
  refine ct_newI (N := 4) S hK hP hD hS hA (by decide) (Nat.le_of_ble_eq_true rfl) (Nat.le_of_ble_eq_true rfl) dX4_init_54 (fun q54 H hP hD hS => ?_)
  have hP : va_P D vwCl ([(b, .inr (4, [.ref q7, .ref q15, .ref q23, .ref q31, .int 0, .ref q39, .ref q47, .int 0, .null, .null, .null, .int 0, .int 0, .int 0, .int 0, .int 0, .int 0, .int 0])), (q7, .inl (cI, 82, .inl (fun _ => nI 0))), (q15, .inl (cI, 82, .inl (fun _ => nI 0))), (q23, .inl (cI, 82, .inl (fun _ => nI 0))), (q31, .inl (cI, 82, .inl (fun _ => nI 0))), (q39, .inl (cI, 8, .inl (fun _ => nI 0))), (q47, .inl (cI, 120, .inl (fun _ => nI 0))), (q54, .inl (cI, 4, .inl (fun _ => nI 0)))]) H := hP
  have hD : va_D A ([(b, .inr (4, [.ref q7, .ref q15, .ref q23, .ref q31, .int 0, .ref q39, .ref q47, .int 0, .null, .null, .null, .int 0, .int 0, .int 0, .int 0, .int 0, .int 0, .int 0])), (q7, .inl (cI, 82, .inl (fun _ => nI 0))), (q15, .inl (cI, 82, .inl (fun _ => nI 0))), (q23, .inl (cI, 82, .inl (fun _ => nI 0))), (q31, .inl (cI, 82, .inl (fun _ => nI 0))), (q39, .inl (cI, 8, .inl (fun _ => nI 0))), (q47, .inl (cI, 120, .inl (fun _ => nI 0))), (q54, .inl (cI, 4, .inl (fun _ => nI 0)))]) := hD
  refine lv_dup hx hb dX4_init_56 rfl ?_
  refine lv_iconst (v := nI 0) hx hb dX4_init_57 (by decide) ?_
  refine lv_iconst (v := (-1)) hx hb dX4_init_58 (by decide) ?_
  refine va_iast hx hb hK hP hD hS 7 0 rfl rfl (vp_in_nI (n := 0) (N := 4) (by decide) (by decide)) dX4_init_59 (fun H locs hP hD hS => ?_)
  have hP : va_P D vwCl ([(b, .inr (4, [.ref q7, .ref q15, .ref q23, .ref q31, .int 0, .ref q39, .ref q47, .int 0, .null, .null, .null, .int 0, .int 0, .int 0, .int 0, .int 0, .int 0, .int 0])), (q7, .inl (cI, 82, .inl (fun _ => nI 0))), (q15, .inl (cI, 82, .inl (fun _ => nI 0))), (q23, .inl (cI, 82, .inl (fun _ => nI 0))), (q31, .inl (cI, 82, .inl (fun _ => nI 0))), (q39, .inl (cI, 8, .inl (fun _ => nI 0))), (q47, .inl (cI, 120, .inl (fun _ => nI 0))), (q54, .inl (cI, 4, .inl (upd (fun _ => nI 0) 0 (-1))))]) H := hP
  have hD : va_D A ([(b, .inr (4, [.ref q7, .ref q15, .ref q23, .ref q31, .int 0, .ref q39, .ref q47, .int 0, .null, .null, .null, .int 0, .int 0, .int 0, .int 0, .int 0, .int 0, .int 0])), (q7, .inl (cI, 82, .inl (fun _ => nI 0))), (q15, .inl (cI, 82, .inl (fun _ => nI 0))), (q23, .inl (cI, 82, .inl (fun _ => nI 0))), (q31, .inl (cI, 82, .inl (fun _ => nI 0))), (q39, .inl (cI, 8, .inl (fun _ => nI 0))), (q47, .inl (cI, 120, .inl (fun _ => nI 0))), (q54, .inl (cI, 4, .inl (upd (fun _ => nI 0) 0 (-1))))]) := hD
  refine lv_dup hx hb dX4_init_60 rfl ?_
  refine lv_iconst (v := nI 1) hx hb dX4_init_61 (by decide) ?_
  refine lv_iconst (v := (-1)) hx hb dX4_init_62 (by decide) ?_
  refine va_iast hx hb hK hP hD hS 7 0 rfl rfl (vp_in_nI (n := 1) (N := 4) (by decide) (by decide)) dX4_init_63 (fun H locs hP hD hS => ?_)
  have hP : va_P D vwCl ([(b, .inr (4, [.ref q7, .ref q15, .ref q23, .ref q31, .int 0, .ref q39, .ref q47, .int 0, .null, .null, .null, .int 0, .int 0, .int 0, .int 0, .int 0, .int 0, .int 0])), (q7, .inl (cI, 82, .inl (fun _ => nI 0))), (q15, .inl (cI, 82, .inl (fun _ => nI 0))), (q23, .inl (cI, 82, .inl (fun _ => nI 0))), (q31, .inl (cI, 82, .inl (fun _ => nI 0))), (q39, .inl (cI, 8, .inl (fun _ => nI 0))), (q47, .inl (cI, 120, .inl (fun _ => nI 0))), (q54, .inl (cI, 4, .inl (upd (upd (fun _ => nI 0) 0 (-1)) 1 (-1))))]) H := hP
  have hD : va_D A ([(b, .inr (4, [.ref q7, .ref q15, .ref q23, .ref q31, .int 0, .ref q39, .ref q47, .int 0, .null, .null, .null, .int 0, .int 0, .int 0, .int 0, .int 0, .int 0, .int 0])), (q7, .inl (cI, 82, .inl (fun _ => nI 0))), (q15, .inl (cI, 82, .inl (fun _ => nI 0))), (q23, .inl (cI, 82, .inl (fun _ => nI 0))), (q31, .inl (cI, 82, .inl (fun _ => nI 0))), (q39, .inl (cI, 8, .inl (fun _ => nI 0))), (q47, .inl (cI, 120, .inl (fun _ => nI 0))), (q54, .inl (cI, 4, .inl (upd (upd (fun _ => nI 0) 0 (-1)) 1 (-1))))]) := hD
  refine lv_dup hx hb dX4_init_64 rfl ?_
  refine lv_iconst (v := nI 2) hx hb dX4_init_65 (by decide) ?_
  refine lv_iconst (v := (-1)) hx hb dX4_init_66 (by decide) ?_
  refine va_iast hx hb hK hP hD hS 7 0 rfl rfl (vp_in_nI (n := 2) (N := 4) (by decide) (by decide)) dX4_init_67 (fun H locs hP hD hS => ?_)
  have hP : va_P D vwCl ([(b, .inr (4, [.ref q7, .ref q15, .ref q23, .ref q31, .int 0, .ref q39, .ref q47, .int 0, .null, .null, .null, .int 0, .int 0, .int 0, .int 0, .int 0, .int 0, .int 0])), (q7, .inl (cI, 82, .inl (fun _ => nI 0))), (q15, .inl (cI, 82, .inl (fun _ => nI 0))), (q23, .inl (cI, 82, .inl (fun _ => nI 0))), (q31, .inl (cI, 82, .inl (fun _ => nI 0))), (q39, .inl (cI, 8, .inl (fun _ => nI 0))), (q47, .inl (cI, 120, .inl (fun _ => nI 0))), (q54, .inl (cI, 4, .inl (upd (upd (upd (fun _ => nI 0) 0 (-1)) 1 (-1)) 2 (-1))))]) H := hP
  have hD : va_D A ([(b, .inr (4, [.ref q7, .ref q15, .ref q23, .ref q31, .int 0, .ref q39, .ref q47, .int 0, .null, .null, .null, .int 0, .int 0, .int 0, .int 0, .int 0, .int 0, .int 0])), (q7, .inl (cI, 82, .inl (fun _ => nI 0))), (q15, .inl (cI, 82, .inl (fun _ => nI 0))), (q23, .inl (cI, 82, .inl (fun _ => nI 0))), (q31, .inl (cI, 82, .inl (fun _ => nI 0))), (q39, .inl (cI, 8, .inl (fun _ => nI 0))), (q47, .inl (cI, 120, .inl (fun _ => nI 0))), (q54, .inl (cI, 4, .inl (upd (upd (upd (fun _ => nI 0) 0 (-1)) 1 (-1)) 2 (-1))))]) := hD
  refine lv_dup hx hb dX4_init_68 rfl ?_
  refine lv_iconst (v := nI 3) hx hb dX4_init_69 (by decide) ?_
  refine lv_iconst (v := (-1)) hx hb dX4_init_70 (by decide) ?_
  refine va_iast hx hb hK hP hD hS 7 0 rfl rfl (vp_in_nI (n := 3) (N := 4) (by decide) (by decide)) dX4_init_71 (fun H locs hP hD hS => ?_)
  have hP : va_P D vwCl ([(b, .inr (4, [.ref q7, .ref q15, .ref q23, .ref q31, .int 0, .ref q39, .ref q47, .int 0, .null, .null, .null, .int 0, .int 0, .int 0, .int 0, .int 0, .int 0, .int 0])), (q7, .inl (cI, 82, .inl (fun _ => nI 0))), (q15, .inl (cI, 82, .inl (fun _ => nI 0))), (q23, .inl (cI, 82, .inl (fun _ => nI 0))), (q31, .inl (cI, 82, .inl (fun _ => nI 0))), (q39, .inl (cI, 8, .inl (fun _ => nI 0))), (q47, .inl (cI, 120, .inl (fun _ => nI 0))), (q54, .inl (cI, 4, .inl (upd (upd (upd (upd (fun _ => nI 0) 0 (-1)) 1 (-1)) 2 (-1)) 3 (-1))))]) H := hP
  have hD : va_D A ([(b, .inr (4, [.ref q7, .ref q15, .ref q23, .ref q31, .int 0, .ref q39, .ref q47, .int 0, .null, .null, .null, .int 0, .int 0, .int 0, .int 0, .int 0, .int 0, .int 0])), (q7, .inl (cI, 82, .inl (fun _ => nI 0))), (q15, .inl (cI, 82, .inl (fun _ => nI 0))), (q23, .inl (cI, 82, .inl (fun _ => nI 0))), (q31, .inl (cI, 82, .inl (fun _ => nI 0))), (q39, .inl (cI, 8, .inl (fun _ => nI 0))), (q47, .inl (cI, 120, .inl (fun _ => nI 0))), (q54, .inl (cI, 4, .inl (upd (upd (upd (upd (fun _ => nI 0) 0 (-1)) 1 (-1)) 2 (-1)) 3 (-1))))]) := hD
  refine va_putF (D := D) (ci := 4) (v := .ref q54) (ty := .array .int) (C := RX4) (T := TX4) (N := 18) hx hb hU mD_X4 tyX4 tyX4_ok nmX4 hown hK hP hD hS 0 rfl rfl 8 (by decide) (hU _ mF_X4_28) (fun _ h9 => h9) rfl hnm rfl (by decide +kernel) rfl rfl (Nat.le_of_ble_eq_true rfl) dX4_init_72 (fun H locs hP hD hS => ?_)
  have hP : va_P D vwCl ([(b, .inr (4, [.ref q7, .ref q15, .ref q23, .ref q31, .int 0, .ref q39, .ref q47, .int 0, .ref q54, .null, .null, .int 0, .int 0, .int 0, .int 0, .int 0, .int 0, .int 0])), (q7, .inl (cI, 82, .inl (fun _ => nI 0))), (q15, .inl (cI, 82, .inl (fun _ => nI 0))), (q23, .inl (cI, 82, .inl (fun _ => nI 0))), (q31, .inl (cI, 82, .inl (fun _ => nI 0))), (q39, .inl (cI, 8, .inl (fun _ => nI 0))), (q47, .inl (cI, 120, .inl (fun _ => nI 0))), (q54, .inl (cI, 4, .inl (upd (upd (upd (upd (fun _ => nI 0) 0 (-1)) 1 (-1)) 2 (-1)) 3 (-1))))]) H := hP
  have hD : va_D A ([(b, .inr (4, [.ref q7, .ref q15, .ref q23, .ref q31, .int 0, .ref q39, .ref q47, .int 0, .ref q54, .null, .null, .int 0, .int 0, .int 0, .int 0, .int 0, .int 0, .int 0])), (q7, .inl (cI, 82, .inl (fun _ => nI 0))), (q15, .inl (cI, 82, .inl (fun _ => nI 0))), (q23, .inl (cI, 82, .inl (fun _ => nI 0))), (q31, .inl (cI, 82, .inl (fun _ => nI 0))), (q39, .inl (cI, 8, .inl (fun _ => nI 0))), (q47, .inl (cI, 120, .inl (fun _ => nI 0))), (q54, .inl (cI, 4, .inl (upd (upd (upd (upd (fun _ => nI 0) 0 (-1)) 1 (-1)) 2 (-1)) 3 (-1))))]) := hD
  refine lv_aload_n hx hb dX4_init_75 rfl (lv_at hl 0 rfl) ?_
  refine lv_iconst (v := nI 4) hx hb dX4_init_76 (by decide) ?_
  refine ct_newI (N := 4) S hK hP hD hS hA (by decide) (Nat.le_of_ble_eq_true rfl) (Nat.le_of_ble_eq_true rfl) dX4_init_77 (fun q77 H hP hD hS => ?_)
  have hP : va_P D vwCl ([(b, .inr (4, [.ref q7, .ref q15, .ref q23, .ref q31, .int 0, .ref q39, .ref q47, .int 0, .ref q54, .null, .null, .int 0, .int 0, .int 0, .int 0, .int 0, .int 0, .int 0])), (q7, .inl (cI, 82, .inl (fun _ => nI 0))), (q15, .inl (cI, 82, .inl (fun _ => nI 0))), (q23, .inl (cI, 82, .inl (fun _ => nI 0))), (q31, .inl (cI, 82, .inl (fun _ => nI 0))), (q39, .inl (cI, 8, .inl (fun _ => nI 0))), (q47, .inl (cI, 120, .inl (fun _ => nI 0))), (q54, .inl (cI, 4, .inl (upd (upd (upd (upd (fun _ => nI 0) 0 (-1)) 1 (-1)) 2 (-1)) 3 (-1)))), (q77, .inl (cI, 4, .inl (fun _ => nI 0)))]) H := hP
  have hD : va_D A ([(b, .inr (4, [.ref q7, .ref q15, .ref q23, .ref q31, .int 0, .ref q39, .ref q47, .int 0, .ref q54, .null, .null, .int 0, .int 0, .int 0, .int 0, .int 0, .int 0, .int 0])), (q7, .inl (cI, 82, .inl (fun _ => nI 0))), (q15, .inl (cI, 82, .inl (fun _ => nI 0))), (q23, .inl (cI, 82, .inl (fun _ => nI 0))), (q31, .inl (cI, 82, .inl (fun _ => nI 0))), (q39, .inl (cI, 8, .inl (fun _ => nI 0))), (q47, .inl (cI, 120, .inl (fun _ => nI 0))), (q54, .inl (cI, 4, .inl (upd (upd (upd (upd (fun _ => nI 0) 0 (-1)) 1 (-1)) 2 (-1)) 3 (-1)))), (q77, .inl (cI, 4, .inl (fun _ => nI 0)))]) := hD
  refine va_putF (D := D) (ci := 4) (v := .ref q77) (ty := .array .int) (C := RX4) (T := TX4) (N := 18) hx hb hU mD_X4 tyX4 tyX4_ok nmX4 hown hK hP hD hS 0 rfl rfl 9 (by decide) (hU _ mF_X4_31) (fun _ h9 => h9) rfl hnm rfl (by decide +kernel) rfl rfl (Nat.le_of_ble_eq_true rfl) dX4_init_79 (fun H locs hP hD hS => ?_)
  have hP : va_P D vwCl ([(b, .inr (4, [.ref q7, .ref q15, .ref q23, .ref q31, .int 0, .ref q39, .ref q47, .int 0, .ref q54, .ref q77, .null, .int 0, .int 0, .int 0, .int 0, .int 0, .int 0, .int 0])), (q7, .inl (cI, 82, .inl (fun _ => nI 0))), (q15, .inl (cI, 82, .inl (fun _ => nI 0))), (q23, .inl (cI, 82, .inl (fun _ => nI 0))), (q31, .inl (cI, 82, .inl (fun _ => nI 0))), (q39, .inl (cI, 8, .inl (fun _ => nI 0))), (q47, .inl (cI, 120, .inl (fun _ => nI 0))), (q54, .inl (cI, 4, .inl (upd (upd (upd (upd (fun _ => nI 0) 0 (-1)) 1 (-1)) 2 (-1)) 3 (-1)))), (q77, .inl (cI, 4, .inl (fun _ => nI 0)))]) H := hP
  have hD : va_D A ([(b, .inr (4, [.ref q7, .ref q15, .ref q23, .ref q31, .int 0, .ref q39, .ref q47, .int 0, .ref q54, .ref q77, .null, .int 0, .int 0, .int 0, .int 0, .int 0, .int 0, .int 0])), (q7, .inl (cI, 82, .inl (fun _ => nI 0))), (q15, .inl (cI, 82, .inl (fun _ => nI 0))), (q23, .inl (cI, 82, .inl (fun _ => nI 0))), (q31, .inl (cI, 82, .inl (fun _ => nI 0))), (q39, .inl (cI, 8, .inl (fun _ => nI 0))), (q47, .inl (cI, 120, .inl (fun _ => nI 0))), (q54, .inl (cI, 4, .inl (upd (upd (upd (upd (fun _ => nI 0) 0 (-1)) 1 (-1)) 2 (-1)) 3 (-1)))), (q77, .inl (cI, 4, .inl (fun _ => nI 0)))]) := hD
  refine lv_aload_n hx hb dX4_init_82 rfl (lv_at hl 0 rfl) ?_
  refine lv_sipush (v := nI 160) hx hb dX4_init_83 (by decide) ?_
  refine ct_newI (N := 160) S hK hP hD hS hA (by decide) (Nat.le_of_ble_eq_true rfl) (Nat.le_of_ble_eq_true rfl) dX4_init_86 (fun q86 H hP hD hS => ?_)
  have hP : va_P D vwCl ([(b, .inr (4, [.ref q7, .ref q15, .ref q23, .ref q31, .int 0, .ref q39, .ref q47, .int 0, .ref q54, .ref q77, .null, .int 0, .int 0, .int 0, .int 0, .int 0, .int 0, .int 0])), (q7, .inl (cI, 82, .inl (fun _ => nI 0))), (q15, .inl (cI, 82, .inl (fun _ => nI 0))), (q23, .inl (cI, 82, .inl (fun _ => nI 0))), (q31, .inl (cI, 82, .inl (fun _ => nI 0))), (q39, .inl (cI, 8, .inl (fun _ => nI 0))), (q47, .inl (cI, 120, .inl (fun _ => nI 0))), (q54, .inl (cI, 4, .inl (upd (upd (upd (upd (fun _ => nI 0) 0 (-1)) 1 (-1)) 2 (-1)) 3 (-1)))), (q77, .inl (cI, 4, .inl (fun _ => nI 0))), (q86, .inl (cI, 160, .inl (fun _ => nI 0)))]) H := hP
  have hD : va_D A ([(b, .inr (4, [.ref q7, .ref q15, .ref q23, .ref q31, .int 0, .ref q39, .ref q47, .int 0, .ref q54, .ref q77, .null, .int 0, .int 0, .int 0, .int 0, .int 0, .int 0, .int 0])), (q7, .inl (cI, 82, .inl (fun _ => nI 0))), (q15, .inl (cI, 82, .inl (fun _ => nI 0))), (q23, .inl (cI, 82, .inl (fun _ => nI 0))), (q31, .inl (cI, 82, .inl (fun _ => nI 0))), (q39, .inl (cI, 8, .inl (fun _ => nI 0))), (q47, .inl (cI, 120, .inl (fun _ => nI 0))), (q54, .inl (cI, 4, .inl (upd (upd (upd (upd (fun _ => nI 0) 0 (-1)) 1 (-1)) 2 (-1)) 3 (-1)))), (q77, .inl (cI, 4, .inl (fun _ => nI 0))), (q86, .inl (cI, 160, .inl (fun _ => nI 0)))]) := hD
  refine va_putF (D := D) (ci := 4) (v := .ref q86) (ty := .array .int) (C := RX4) (T := TX4) (N := 18) hx hb hU mD_X4 tyX4 tyX4_ok nmX4 hown hK hP hD hS 0 rfl rfl 10 (by decide) (hU _ mF_X4_34) (fun _ h9 => h9) rfl hnm rfl (by decide +kernel) rfl rfl (Nat.le_of_ble_eq_true rfl) dX4_init_88 (fun H locs hP hD hS => ?_)
  have hP : va_P D vwCl ([(b, .inr (4, [.ref q7, .ref q15, .ref q23, .ref q31, .int 0, .ref q39, .ref q47, .int 0, .ref q54, .ref q77, .ref q86, .int 0, .int 0, .int 0, .int 0, .int 0, .int 0, .int 0])), (q7, .inl (cI, 82, .inl (fun _ => nI 0))), (q15, .inl (cI, 82, .inl (fun _ => nI 0))), (q23, .inl (cI, 82, .inl (fun _ => nI 0))), (q31, .inl (cI, 82, .inl (fun _ => nI 0))), (q39, .inl (cI, 8, .inl (fun _ => nI 0))), (q47, .inl (cI, 120, .inl (fun _ => nI 0))), (q54, .inl (cI, 4, .inl (upd (upd (upd (upd (fun _ => nI 0) 0 (-1)) 1 (-1)) 2 (-1)) 3 (-1)))), (q77, .inl (cI, 4, .inl (fun _ => nI 0))), (q86, .inl (cI, 160, .inl (fun _ => nI 0)))]) H := hP
  have hD : va_D A ([(b, .inr (4, [.ref q7, .ref q15, .ref q23, .ref q31, .int 0, .ref q39, .ref q47, .int 0, .ref q54, .ref q77, .ref q86, .int 0, .int 0, .int 0, .int 0, .int 0, .int 0, .int 0])), (q7, .inl (cI, 82, .inl (fun _ => nI 0))), (q15, .inl (cI, 82, .inl (fun _ => nI 0))), (q23, .inl (cI, 82, .inl (fun _ => nI 0))), (q31, .inl (cI, 82, .inl (fun _ => nI 0))), (q39, .inl (cI, 8, .inl (fun _ => nI 0))), (q47, .inl (cI, 120, .inl (fun _ => nI 0))), (q54, .inl (cI, 4, .inl (upd (upd (upd (upd (fun _ => nI 0) 0 (-1)) 1 (-1)) 2 (-1)) 3 (-1)))), (q77, .inl (cI, 4, .inl (fun _ => nI 0))), (q86, .inl (cI, 160, .inl (fun _ => nI 0)))]) := hD
  refine W.widen (k := 9) (n := 784) (Nat.le_of_ble_eq_true rfl) (Nat.le_of_ble_eq_true rfl) ?_
  have hP : va_P D vwCl (MW cI (oL [b, q7, q15, q23, q31, q39, q47, q54, q77, q86]) zF sg0) H := hP
  have hD : va_D A (MW cI (oL [b, q7, q15, q23, q31, q39, q47, q54, q77, q86]) zF sg0) := hD
  refine lv_aload_n hx hb dX4_init_91 rfl (lv_at hl 0 rfl) ?_
  refine g4_s S hK hP dX4_init_92 ?_
  refine lv_iconst (v := nI 2) hx hb dX4_init_95 (by decide) ?_
  refine lv_iconst (v := nI 1) hx hb dX4_init_96 (by decide) ?_
  refine s4_s S hK hP hD hS (j := 2) (by omega) dX4_init_97 (fun H locs hP hD hS => ?_)
  refine lv_iconst (v := nI 0) hx hb dX4_init_98 (by decide) ?_
  refine lv_istore_n (lv' := [(1, .int (nI 0)), (0, .ref b)]) hx hb dX4_init_99 rfl hl (by decide) rfl (fun ls hl => ?_)
  have L_100 : ∀ (n9 : Nat) (j : Nat) (H : Heap) (locs : List Loc) (ls : Array Slot), 6 - j < n9 → (j ≤ 6) → va_P D vwCl (MW cI (oL [b, q7, q15, q23, q31, q39, q47, q54, q77, q86]) (lsA nF0 j) sg0) H → va_D A (MW cI (oL [b, q7, q15, q23, q31, q39, q47, q54, q77, q86]) (lsA nF0 j) sg0) → va_S A s.heap H locs → lv_has ls 2 [(0, .ref b), (1, .int (nI j))] → W p l e (rmC 1 9 784) s m ([Value.ref b] : List Value).toArray below meth c H locs 9 784 (MQ below (QC D (fun q => MW cI q nF sg0) b A) ([Value.ref b] : List Value).toArray s 9 784 A) (F0 m 100 ls []) := by
    intro n9
    induction n9 with
    | zero => intro j H locs ls hmeas; exact absurd hmeas (Nat.not_lt_zero _)
    | succ n9 ih_100 =>
      intro j H locs ls hmeas hj hP hD hS hl
      refine lv_iload_n hx hb dX4_init_100 rfl (lv_at hl 1 rfl) ?_
      refine lv_bipush (v := nI 6) hx hb dX4_init_101 (by decide) ?_
      refine q_icmp_geN (tgt := 123) (a := j) (b := 6) hx hb dX4_init_103 (by decide) (by omega) (by omega) (fun c_103 => ?_) (fun c_103 => ?_)
      · rw [show j = 6 by omega] at hP hD
        refine lv_iconst (v := nI 0) hx hb dX4_init_123 (by decide) ?_
        refine lv_istore_n (lv' := [(1, .int (nI 0)), (0, .ref b)]) hx hb dX4_init_124 rfl hl (by decide) rfl (fun ls hl => ?_)
        have L_125 : ∀ (n9 : Nat) (j : Nat) (H : Heap) (locs : List Loc) (ls : Array Slot), 10 - j < n9 → (j ≤ 10) → va_P D vwCl (MW cI (oL [b, q7, q15, q23, q31, q39, q47, q54, q77, q86]) (lsB (lsA nF0 6) j) sg0) H → va_D A (MW cI (oL [b, q7, q15, q23, q31, q39, q47, q54, q77, q86]) (lsB (lsA nF0 6) j) sg0) → va_S A s.heap H locs → lv_has ls 2 [(0, .ref b), (1, .int (nI j))] → W p l e (rmC 1 9 784) s m ([Value.ref b] : List Value).toArray below meth c H locs 9 784 (MQ below (QC D (fun q => MW cI q nF sg0) b A) ([Value.ref b] : List Value).toArray s 9 784 A) (F0 m 125 ls []) := by
          intro n9
          induction n9 with
          | zero => intro j H locs ls hmeas; exact absurd hmeas (Nat.not_lt_zero _)
          | succ n9 ih_125 =>
            intro j H locs ls hmeas hj hP hD hS hl
            refine lv_iload_n hx hb dX4_init_125 rfl (lv_at hl 1 rfl) ?_
            refine lv_bipush (v := nI 10) hx hb dX4_init_126 (by decide) ?_
            refine q_icmp_geN (tgt := 147) (a := j) (b := 10) hx hb dX4_init_128 (by decide) (by omega) (by omega) (fun c_128 => ?_) (fun c_128 => ?_)
            · rw [show j = 10 by omega] at hP hD
              exact CT.vret S hr hlk (oL [b, q7, q15, q23, q31, q39, q47, q54, q77, q86]) rfl hP hD hS dX4_init_147
            · refine lv_aload_n hx hb dX4_init_131 rfl (lv_at hl 0 rfl) ?_
              refine g4_s S hK hP dX4_init_132 ?_
              refine lv_bipush (v := nI 72) hx hb dX4_init_135 (by decide) ?_
              refine lv_iload_n hx hb dX4_init_137 rfl (lv_at hl 1 rfl) ?_
              refine q_iaddN (a := 72) (b := j) hx hb dX4_init_138 ?_
              refine lv_iconst (v := (-1)) hx hb dX4_init_139 (by decide) ?_
              refine s4_s S hK hP hD hS (j := 72 + j) (by omega) dX4_init_140 (fun H locs hP hD hS => ?_)
              refine lv_iinc (v := nI (j + 1)) (lv' := [(1, .int (nI (j + 1))), (0, .ref b)]) hx hb dX4_init_141 hl (k := 1) rfl (q_inc _) (by decide) rfl (fun ls hl => ?_)
              refine lv_goto (tgt := 125) hx hb dX4_init_144 (by decide) ?_
              rw [lsB_s] at hP hD
              exact ih_125 (j + 1) _ _ ls (by omega) (by omega) hP hD hS (lv_sub hl [1, 0] rfl)
        exact L_125 ((10 - 0) + 1) 0 _ _ ls (Nat.lt_succ_self _) (by omega) (by rw [lsB_0]; exact hP) (by rw [lsB_0]; exact hD) hS (lv_sub hl [1, 0] rfl)
      · refine lv_aload_n hx hb dX4_init_106 rfl (lv_at hl 0 rfl) ?_
        refine g4_s S hK hP dX4_init_107 ?_
        refine lv_bipush (v := nI 10) hx hb dX4_init_110 (by decide) ?_
        refine lv_iload_n hx hb dX4_init_112 rfl (lv_at hl 1 rfl) ?_
        refine q_iaddN (a := 10) (b := j) hx hb dX4_init_113 ?_
        refine lv_bipush (v := nI 10) hx hb dX4_init_114 (by decide) ?_
        refine s4_s S hK hP hD hS (j := 10 + j) (by omega) dX4_init_116 (fun H locs hP hD hS => ?_)
        refine lv_iinc (v := nI (j + 1)) (lv' := [(1, .int (nI (j + 1))), (0, .ref b)]) hx hb dX4_init_117 hl (k := 1) rfl (q_inc _) (by decide) rfl (fun ls hl => ?_)
        refine lv_goto (tgt := 100) hx hb dX4_init_120 (by decide) ?_
        rw [lsA_s] at hP hD
        exact ih_100 (j + 1) _ _ ls (by omega) (by omega) hP hD hS (lv_sub hl [1, 0] rfl)
  exact L_100 ((6 - 0) + 1) 0 _ _ ls (Nat.lt_succ_self _) (by omega) (by rw [lsA_0]; exact hP) (by rw [lsA_0]; exact hD) hS (lv_sub hl [1, 0] rfl)
set_option maxRecDepth 100000 in
set_option maxHeartbeats 4000000 in
theorem c_X1_init (l : Launch) (D : va_G) (cI cJ : ClassId) (b : Nat) : CT l yX1_init cX1_init 1 1 7 172 D cI cJ 1 [.null, .null, .null] b (fun q => SH cI cJ q (fun _ => zF)) := by
  refine CT.of (by decide) rfl (Nat.le_of_ble_eq_true rfl) (fun p e s m below meth c ls A S hr hlk hnm hK hE hP hD hS hA hl => ?_)
  obtain ⟨hx, hb, hml, hown, hU⟩ := id S
  have hl : lv_has ls 1 [(0, .ref b)] := hl
  refine lv_aload_n hx hb dX1_init_0 rfl (lv_at hl 0 rfl) ?_
  refine ct_obj S mL_X1_3 hl.1 (Nat.le_of_ble_eq_true rfl) (Nat.le_of_ble_eq_true rfl) dX1_init_1 ?_
  refine lv_aload_n hx hb dX1_init_4 rfl (lv_at hl 0 rfl) ?_
  refine lv_iconst (v := nI 4) hx hb dX1_init_5 (by decide) ?_
  refine ct_newI (N := 4) S hK hP hD hS hA (by decide) (Nat.le_of_ble_eq_true rfl) (Nat.le_of_ble_eq_true rfl) dX1_init_6 (fun q6 H hP hD hS => ?_)
  have hP : va_P D vwCl ([(b, .inr (1, [.null, .null, .null])), (q6, .inl (cI, 4, .inl (fun _ => nI 0)))]) H := hP
  have hD : va_D A ([(b, .inr (1, [.null, .null, .null])), (q6, .inl (cI, 4, .inl (fun _ => nI 0)))]) := hD
  refine va_putF (D := D) (ci := 1) (v := .ref q6) (ty := .array .int) (C := RX1) (T := TX1) (N := 3) hx hb hU mD_X1 tyX1 tyX1_ok nmX1 hown hK hP hD hS 0 rfl rfl 0 (by decide) (hU _ mF_X1_9) (fun _ h9 => h9) rfl hnm rfl (by decide +kernel) rfl rfl (Nat.le_of_ble_eq_true rfl) dX1_init_8 (fun H locs hP hD hS => ?_)
  have hP : va_P D vwCl ([(b, .inr (1, [.ref q6, .null, .null])), (q6, .inl (cI, 4, .inl (fun _ => nI 0)))]) H := hP
  have hD : va_D A ([(b, .inr (1, [.ref q6, .null, .null])), (q6, .inl (cI, 4, .inl (fun _ => nI 0)))]) := hD
  refine lv_aload_n hx hb dX1_init_11 rfl (lv_at hl 0 rfl) ?_
  refine lv_iconst (v := nI 4) hx hb dX1_init_12 (by decide) ?_
  refine ct_newI (N := 4) S hK hP hD hS hA (by decide) (Nat.le_of_ble_eq_true rfl) (Nat.le_of_ble_eq_true rfl) dX1_init_13 (fun q13 H hP hD hS => ?_)
  have hP : va_P D vwCl ([(b, .inr (1, [.ref q6, .null, .null])), (q6, .inl (cI, 4, .inl (fun _ => nI 0))), (q13, .inl (cI, 4, .inl (fun _ => nI 0)))]) H := hP
  have hD : va_D A ([(b, .inr (1, [.ref q6, .null, .null])), (q6, .inl (cI, 4, .inl (fun _ => nI 0))), (q13, .inl (cI, 4, .inl (fun _ => nI 0)))]) := hD
  refine va_putF (D := D) (ci := 1) (v := .ref q13) (ty := .array .int) (C := RX1) (T := TX1) (N := 3) hx hb hU mD_X1 tyX1 tyX1_ok nmX1 hown hK hP hD hS 0 rfl rfl 1 (by decide) (hU _ mF_X1_15) (fun _ h9 => h9) rfl hnm rfl (by decide +kernel) rfl rfl (Nat.le_of_ble_eq_true rfl) dX1_init_15 (fun H locs hP hD hS => ?_)
  have hP : va_P D vwCl ([(b, .inr (1, [.ref q6, .ref q13, .null])), (q6, .inl (cI, 4, .inl (fun _ => nI 0))), (q13, .inl (cI, 4, .inl (fun _ => nI 0)))]) H := hP
  have hD : va_D A ([(b, .inr (1, [.ref q6, .ref q13, .null])), (q6, .inl (cI, 4, .inl (fun _ => nI 0))), (q13, .inl (cI, 4, .inl (fun _ => nI 0)))]) := hD
  refine lv_aload_n hx hb dX1_init_18 rfl (lv_at hl 0 rfl) ?_
  refine lv_iconst (v := nI 4) hx hb dX1_init_19 (by decide) ?_
  refine lv_bipush (v := nI 40) hx hb dX1_init_20 (by decide) ?_
  have e9 : "[" ++ (FieldType.array FieldType.int).toString = "[[I" := by decide +kernel
  refine va_mna (ty := .int) (cy := cI) (X := [(b, .inr (1, [.ref q6, .ref q13, .null])), (q6, .inl (cI, 4, .inl (fun _ => nI 0))), (q13, .inl (cI, 4, .inl (fun _ => nI 0)))]) (L := []) (f := fun _ => .inl (cI, 0, .inl (fun _ => nI 0))) hx hb hown (by rw [e9]; exact hU _ mW_X1_18) hE.2.2 (hU _ mA_int) (hK.2 0 (cI, .int) rfl).2 hK hP hD hS hA (n := nI 4) (k := nI 40) (N' := 4) (K' := 40) (z := (40, .inl (fun _ => nI 0))) (by decide) (by decide) (by decide) (by decide) (by decide) (by decide) (by decide) rfl rfl (Nat.le_of_ble_eq_true rfl) (Nat.le_of_ble_eq_true rfl) (fun c9 => arrV_new c9 40 (.int 0)) dX1_init_22 (fun q22 r cA H hri hrl hK1 hP hD hS => ?_)
  have e3 : cA = cJ := Option.some.inj (((hK1.2 2 (cA, .array .int) rfl).2).symm.trans (hK.2 1 (cJ, .array .int) rfl).2)
  rw [e3, va_pl4] at hP hD
  have hP : va_P D vwCl ([(b, .inr (1, [.ref q6, .ref q13, .null])), (q6, .inl (cI, 4, .inl (fun _ => nI 0))), (q13, .inl (cI, 4, .inl (fun _ => nI 0))), (q22, .inl (cJ, 4, .inr (.inr (.inr (.inr (fun i => if i < 4 then some (r i) else none)))))), (r 0, .inl (cI, 40, .inl (fun _ => nI 0))), (r 1, .inl (cI, 40, .inl (fun _ => nI 0))), (r 2, .inl (cI, 40, .inl (fun _ => nI 0))), (r 3, .inl (cI, 40, .inl (fun _ => nI 0)))]) H := hP
  have hD : va_D A ([(b, .inr (1, [.ref q6, .ref q13, .null])), (q6, .inl (cI, 4, .inl (fun _ => nI 0))), (q13, .inl (cI, 4, .inl (fun _ => nI 0))), (q22, .inl (cJ, 4, .inr (.inr (.inr (.inr (fun i => if i < 4 then some (r i) else none)))))), (r 0, .inl (cI, 40, .inl (fun _ => nI 0))), (r 1, .inl (cI, 40, .inl (fun _ => nI 0))), (r 2, .inl (cI, 40, .inl (fun _ => nI 0))), (r 3, .inl (cI, 40, .inl (fun _ => nI 0)))]) := hD
  refine va_putF (D := D) (ci := 1) (v := .ref q22) (ty := .array (.array .int)) (C := RX1) (T := TX1) (N := 3) hx hb hU mD_X1 tyX1 tyX1_ok nmX1 hown hK hP hD hS 0 rfl rfl 2 (by decide) (hU _ mF_X1_20) (fun _ h9 => h9) rfl hnm rfl (by decide +kernel) rfl rfl (Nat.le_of_ble_eq_true rfl) dX1_init_26 (fun H locs hP hD hS => ?_)
  have hP : va_P D vwCl ([(b, .inr (1, [.ref q6, .ref q13, .ref q22])), (q6, .inl (cI, 4, .inl (fun _ => nI 0))), (q13, .inl (cI, 4, .inl (fun _ => nI 0))), (q22, .inl (cJ, 4, .inr (.inr (.inr (.inr (fun i => if i < 4 then some (r i) else none)))))), (r 0, .inl (cI, 40, .inl (fun _ => nI 0))), (r 1, .inl (cI, 40, .inl (fun _ => nI 0))), (r 2, .inl (cI, 40, .inl (fun _ => nI 0))), (r 3, .inl (cI, 40, .inl (fun _ => nI 0)))]) H := hP
  have hD : va_D A ([(b, .inr (1, [.ref q6, .ref q13, .ref q22])), (q6, .inl (cI, 4, .inl (fun _ => nI 0))), (q13, .inl (cI, 4, .inl (fun _ => nI 0))), (q22, .inl (cJ, 4, .inr (.inr (.inr (.inr (fun i => if i < 4 then some (r i) else none)))))), (r 0, .inl (cI, 40, .inl (fun _ => nI 0))), (r 1, .inl (cI, 40, .inl (fun _ => nI 0))), (r 2, .inl (cI, 40, .inl (fun _ => nI 0))), (r 3, .inl (cI, 40, .inl (fun _ => nI 0)))]) := hD
  refine W.widen (k := 7) (n := 172) (Nat.le_of_ble_eq_true rfl) (Nat.le_of_ble_eq_true rfl) ?_
  have hQ : SH cI cJ (oS [b, q6, q13, q22] r) (fun _ => zF) = [(b, .inr (1, [.ref q6, .ref q13, .ref q22])), (q6, .inl (cI, 4, .inl (fun _ => nI 0))), (q13, .inl (cI, 4, .inl (fun _ => nI 0))), (q22, .inl (cJ, 4, .inr (.inr (.inr (.inr (fun i => if i < 4 then some (r i) else none)))))), (r 0, .inl (cI, 40, .inl (fun _ => nI 0))), (r 1, .inl (cI, 40, .inl (fun _ => nI 0))), (r 2, .inl (cI, 40, .inl (fun _ => nI 0))), (r 3, .inl (cI, 40, .inl (fun _ => nI 0)))] := by
    unfold SH
    rw [oS_r, pv_zz (b := 0) (n := 40), pv_zz (b := 40) (n := 40), pv_zz (b := 80) (n := 40), pv_zz (b := 120) (n := 40)]
    rfl
  rw [← hQ] at hP hD
  exact CT.vret S hr hlk (oS [b, q6, q13, q22] r) rfl hP hD hS dX1_init_29

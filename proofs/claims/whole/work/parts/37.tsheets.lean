theorem SH_fst {cI cJ : ClassId} {o : Nat → Nat} {τ τ2 : Nat → Nat → Int32} : (SH cI cJ o τ).map Prod.fst = (SH cI cJ o τ2).map Prod.fst := rfl
set_option maxRecDepth 100000 in
set_option maxHeartbeats 4000000 in
theorem c_X1_makeNew_w0 (l : Launch) (D : va_G) (cI cJ : ClassId) (o : Nat → Nat) (τ : Nat → Nat → Int32) (sh : Nat) (hsh : sh < 4) (q : Nat) (hq : q ≤ 40) : WR l yX1_makeNew cX1_makeNew 5 none 0 D cI cJ (SH cI cJ o τ) [.ref (o 0), .int (nI sh), .int (nI 0), .int (nI q)] (none) (SH cI cJ o (va_up (va_up (va_up τ 2 (upd (τ 2) sh (nI 0))) 3 (upd (τ 3) sh (nI 0))) 4 (zrw (τ 4) sh 40))) := by
  refine WR.of (by decide) (Nat.le_of_ble_eq_true rfl) (fun p e s m below meth c ls A S hr hlk hK hP hD hS hA hl => ?_)
  obtain ⟨hx, hb, hml, hown, hU⟩ := id S
  have hl : lv_has ls 5 [(0, .ref (o 0)), (1, .int (nI sh)), (2, .int (nI 0)), (3, .int (nI q))] := hl
  refine lv_aload_n hx hb dX1_makeNew_0 rfl (lv_at hl 0 rfl) ?_
  refine g11_widths S hK hP dX1_makeNew_1 ?_
  refine lv_iload_n hx hb dX1_makeNew_4 rfl (lv_at hl 1 rfl) ?_
  refine lv_iload_n hx hb dX1_makeNew_5 rfl (lv_at hl 2 rfl) ?_
  refine s1_widths S hK hP hD hS (j := sh) (by omega) dX1_makeNew_6 (fun H locs hP hD hS => ?_)
  refine lv_aload_n hx hb dX1_makeNew_7 rfl (lv_at hl 0 rfl) ?_
  refine g11_sizes S hK hP dX1_makeNew_8 ?_
  refine lv_iload_n hx hb dX1_makeNew_11 rfl (lv_at hl 1 rfl) ?_
  refine lv_iload_n hx hb dX1_makeNew_12 rfl (lv_at hl 2 rfl) ?_
  refine q_if_neN (tgt := 20) (a := 0) hx hb dX1_makeNew_13 (by decide) (by omega) (fun h => absurd h (by omega)) (fun _ => ?_)
  refine lv_iconst (v := nI 0) hx hb dX1_makeNew_16 (by decide) ?_
  refine lv_goto (tgt := 21) hx hb dX1_makeNew_17 (by decide) ?_
  refine s1_sizes S hK hP hD hS (j := sh) (by omega) dX1_makeNew_21 (fun H locs hP hD hS => ?_)
  refine lv_iconst (v := nI 0) hx hb dX1_makeNew_22 (by decide) ?_
  refine lv_istore (lv' := [(4, .int (nI 0)), (0, .ref (o 0)), (1, .int (nI sh)), (2, .int (nI 0)), (3, .int (nI q))]) hx hb dX1_makeNew_23 hl (by decide) rfl (fun ls hl => ?_)
  have L_25 : ∀ (n9 : Nat) (j : Nat) (H : Heap) (locs : List Loc) (ls : Array Slot), 40 - j < n9 → (j ≤ 40) → va_P D vwCl (SH cI cJ o (va_up (va_up (va_up τ 2 (upd (τ 2) sh (nI 0))) 3 (upd (τ 3) sh (nI 0))) 4 (zrw (τ 4) sh j))) H → va_D A (SH cI cJ o (va_up (va_up (va_up τ 2 (upd (τ 2) sh (nI 0))) 3 (upd (τ 3) sh (nI 0))) 4 (zrw (τ 4) sh j))) → va_S A s.heap H locs → lv_has ls 5 [(0, .ref (o 0)), (1, .int (nI sh)), (4, .int (nI j))] → W p l e (rmd 0) s m ([.ref (o 0), .int (nI sh), .int (nI 0), .int (nI q)] : List Value).toArray below meth c H locs 0 0 (ZW below ([.ref (o 0), .int (nI sh), .int (nI 0), .int (nI q)] : List Value).toArray s D (none) (SH cI cJ o (va_up (va_up (va_up τ 2 (upd (τ 2) sh (nI 0))) 3 (upd (τ 3) sh (nI 0))) 4 (zrw (τ 4) sh 40))) A) (F0 m 25 ls []) := by
    intro n9
    induction n9 with
    | zero => intro j H locs ls hmeas; exact absurd hmeas (Nat.not_lt_zero _)
    | succ n9 ih_25 =>
      intro j H locs ls hmeas hj hP hD hS hl
      refine lv_iload hx hb dX1_makeNew_25 (lv_at hl 2 rfl) ?_
      refine lv_bipush (v := nI 40) hx hb dX1_makeNew_27 (by decide) ?_
      refine q_icmp_geN (tgt := 48) (a := j) (b := 40) hx hb dX1_makeNew_29 (by decide) (by omega) (by omega) (fun c_29 => ?_) (fun c_29 => ?_)
      · exact WR.vret S hr hlk hP hS (by rw [show j = 40 by omega]) dX1_makeNew_48
      · refine lv_aload_n hx hb dX1_makeNew_32 rfl (lv_at hl 0 rfl) ?_
        refine g11_rows S hK hP dX1_makeNew_33 ?_
        refine lv_iload_n hx hb dX1_makeNew_36 rfl (lv_at hl 1 rfl) ?_
        refine l1_rows S hK hP (j := sh) (by omega) dX1_makeNew_37 ?_
        refine lv_iload hx hb dX1_makeNew_38 (lv_at hl 2 rfl) ?_
        refine lv_iconst (v := nI 0) hx hb dX1_makeNew_40 (by decide) ?_
        refine s1_row S hK hP hD hS (sh := sh) (i := j) (by omega) (by omega) dX1_makeNew_41 (fun H locs hP hD hS => ?_)
        refine lv_iinc (v := nI (j + 1)) (lv' := [(4, .int (nI (j + 1))), (0, .ref (o 0)), (1, .int (nI sh))]) hx hb dX1_makeNew_42 hl (k := 2) rfl (q_inc _) (by decide) rfl (fun ls hl => ?_)
        refine lv_goto (tgt := 25) hx hb dX1_makeNew_45 (by decide) ?_
        exact ih_25 (j + 1) _ _ ls (by omega) (by omega) (by rw [← show va_up (va_up (va_up (va_up τ 2 (upd (τ 2) sh (nI 0))) 3 (upd (τ 3) sh (nI 0))) 4 (zrw (τ 4) sh j)) 4 (zrw (τ 4) sh (j + 1)) = va_up (va_up (va_up τ 2 (upd (τ 2) sh (nI 0))) 3 (upd (τ 3) sh (nI 0))) 4 (zrw (τ 4) sh (j + 1)) from bx_uu _ _ _ _]; exact hP) (by rw [← show va_up (va_up (va_up (va_up τ 2 (upd (τ 2) sh (nI 0))) 3 (upd (τ 3) sh (nI 0))) 4 (zrw (τ 4) sh j)) 4 (zrw (τ 4) sh (j + 1)) = va_up (va_up (va_up τ 2 (upd (τ 2) sh (nI 0))) 3 (upd (τ 3) sh (nI 0))) 4 (zrw (τ 4) sh (j + 1)) from bx_uu _ _ _ _]; exact hD) hS (lv_sub hl [1, 2, 0] rfl)
  exact L_25 ((40 - 0) + 1) 0 _ _ ls (Nat.lt_succ_self _) (by omega) (by rw [show va_up (va_up (va_up τ 2 (upd (τ 2) sh (nI 0))) 3 (upd (τ 3) sh (nI 0))) 4 (zrw (τ 4) sh 0) = va_up (va_up τ 2 (upd (τ 2) sh (nI 0))) 3 (upd (τ 3) sh (nI 0)) from va_up_self2 _ 4]; exact hP) (by rw [show va_up (va_up (va_up τ 2 (upd (τ 2) sh (nI 0))) 3 (upd (τ 3) sh (nI 0))) 4 (zrw (τ 4) sh 0) = va_up (va_up τ 2 (upd (τ 2) sh (nI 0))) 3 (upd (τ 3) sh (nI 0)) from va_up_self2 _ 4]; exact hD) hS (lv_sub hl [1, 2, 0] rfl)
set_option maxRecDepth 100000 in
set_option maxHeartbeats 4000000 in
theorem c_X1_makeNew_w8 (l : Launch) (D : va_G) (cI cJ : ClassId) (o : Nat → Nat) (τ : Nat → Nat → Int32) (sh : Nat) (hsh : sh < 4) (q : Nat) (hq : q ≤ 40) : WR l yX1_makeNew cX1_makeNew 5 none 0 D cI cJ (SH cI cJ o τ) [.ref (o 0), .int (nI sh), .int (nI 8), .int (nI q)] (none) (SH cI cJ o (va_up (va_up (va_up τ 2 (upd (τ 2) sh (nI 8))) 3 (upd (τ 3) sh (nI q))) 4 (zrw (τ 4) sh 40))) := by
  refine WR.of (by decide) (Nat.le_of_ble_eq_true rfl) (fun p e s m below meth c ls A S hr hlk hK hP hD hS hA hl => ?_)
  obtain ⟨hx, hb, hml, hown, hU⟩ := id S
  have hl : lv_has ls 5 [(0, .ref (o 0)), (1, .int (nI sh)), (2, .int (nI 8)), (3, .int (nI q))] := hl
  refine lv_aload_n hx hb dX1_makeNew_0 rfl (lv_at hl 0 rfl) ?_
  refine g11_widths S hK hP dX1_makeNew_1 ?_
  refine lv_iload_n hx hb dX1_makeNew_4 rfl (lv_at hl 1 rfl) ?_
  refine lv_iload_n hx hb dX1_makeNew_5 rfl (lv_at hl 2 rfl) ?_
  refine s1_widths S hK hP hD hS (j := sh) (by omega) dX1_makeNew_6 (fun H locs hP hD hS => ?_)
  refine lv_aload_n hx hb dX1_makeNew_7 rfl (lv_at hl 0 rfl) ?_
  refine g11_sizes S hK hP dX1_makeNew_8 ?_
  refine lv_iload_n hx hb dX1_makeNew_11 rfl (lv_at hl 1 rfl) ?_
  refine lv_iload_n hx hb dX1_makeNew_12 rfl (lv_at hl 2 rfl) ?_
  refine q_if_neN (tgt := 20) (a := 8) hx hb dX1_makeNew_13 (by decide) (by omega) (fun _ => ?_) (fun h => absurd h (by omega))
  refine lv_iload_n hx hb dX1_makeNew_20 rfl (lv_at hl 3 rfl) ?_
  refine s1_sizes S hK hP hD hS (j := sh) (by omega) dX1_makeNew_21 (fun H locs hP hD hS => ?_)
  refine lv_iconst (v := nI 0) hx hb dX1_makeNew_22 (by decide) ?_
  refine lv_istore (lv' := [(4, .int (nI 0)), (0, .ref (o 0)), (1, .int (nI sh)), (2, .int (nI 8)), (3, .int (nI q))]) hx hb dX1_makeNew_23 hl (by decide) rfl (fun ls hl => ?_)
  have L_25 : ∀ (n9 : Nat) (j : Nat) (H : Heap) (locs : List Loc) (ls : Array Slot), 40 - j < n9 → (j ≤ 40) → va_P D vwCl (SH cI cJ o (va_up (va_up (va_up τ 2 (upd (τ 2) sh (nI 8))) 3 (upd (τ 3) sh (nI q))) 4 (zrw (τ 4) sh j))) H → va_D A (SH cI cJ o (va_up (va_up (va_up τ 2 (upd (τ 2) sh (nI 8))) 3 (upd (τ 3) sh (nI q))) 4 (zrw (τ 4) sh j))) → va_S A s.heap H locs → lv_has ls 5 [(0, .ref (o 0)), (1, .int (nI sh)), (4, .int (nI j))] → W p l e (rmd 0) s m ([.ref (o 0), .int (nI sh), .int (nI 8), .int (nI q)] : List Value).toArray below meth c H locs 0 0 (ZW below ([.ref (o 0), .int (nI sh), .int (nI 8), .int (nI q)] : List Value).toArray s D (none) (SH cI cJ o (va_up (va_up (va_up τ 2 (upd (τ 2) sh (nI 8))) 3 (upd (τ 3) sh (nI q))) 4 (zrw (τ 4) sh 40))) A) (F0 m 25 ls []) := by
    intro n9
    induction n9 with
    | zero => intro j H locs ls hmeas; exact absurd hmeas (Nat.not_lt_zero _)
    | succ n9 ih_25 =>
      intro j H locs ls hmeas hj hP hD hS hl
      refine lv_iload hx hb dX1_makeNew_25 (lv_at hl 2 rfl) ?_
      refine lv_bipush (v := nI 40) hx hb dX1_makeNew_27 (by decide) ?_
      refine q_icmp_geN (tgt := 48) (a := j) (b := 40) hx hb dX1_makeNew_29 (by decide) (by omega) (by omega) (fun c_29 => ?_) (fun c_29 => ?_)
      · exact WR.vret S hr hlk hP hS (by rw [show j = 40 by omega]) dX1_makeNew_48
      · refine lv_aload_n hx hb dX1_makeNew_32 rfl (lv_at hl 0 rfl) ?_
        refine g11_rows S hK hP dX1_makeNew_33 ?_
        refine lv_iload_n hx hb dX1_makeNew_36 rfl (lv_at hl 1 rfl) ?_
        refine l1_rows S hK hP (j := sh) (by omega) dX1_makeNew_37 ?_
        refine lv_iload hx hb dX1_makeNew_38 (lv_at hl 2 rfl) ?_
        refine lv_iconst (v := nI 0) hx hb dX1_makeNew_40 (by decide) ?_
        refine s1_row S hK hP hD hS (sh := sh) (i := j) (by omega) (by omega) dX1_makeNew_41 (fun H locs hP hD hS => ?_)
        refine lv_iinc (v := nI (j + 1)) (lv' := [(4, .int (nI (j + 1))), (0, .ref (o 0)), (1, .int (nI sh))]) hx hb dX1_makeNew_42 hl (k := 2) rfl (q_inc _) (by decide) rfl (fun ls hl => ?_)
        refine lv_goto (tgt := 25) hx hb dX1_makeNew_45 (by decide) ?_
        exact ih_25 (j + 1) _ _ ls (by omega) (by omega) (by rw [← show va_up (va_up (va_up (va_up τ 2 (upd (τ 2) sh (nI 8))) 3 (upd (τ 3) sh (nI q))) 4 (zrw (τ 4) sh j)) 4 (zrw (τ 4) sh (j + 1)) = va_up (va_up (va_up τ 2 (upd (τ 2) sh (nI 8))) 3 (upd (τ 3) sh (nI q))) 4 (zrw (τ 4) sh (j + 1)) from bx_uu _ _ _ _]; exact hP) (by rw [← show va_up (va_up (va_up (va_up τ 2 (upd (τ 2) sh (nI 8))) 3 (upd (τ 3) sh (nI q))) 4 (zrw (τ 4) sh j)) 4 (zrw (τ 4) sh (j + 1)) = va_up (va_up (va_up τ 2 (upd (τ 2) sh (nI 8))) 3 (upd (τ 3) sh (nI q))) 4 (zrw (τ 4) sh (j + 1)) from bx_uu _ _ _ _]; exact hD) hS (lv_sub hl [1, 2, 0] rfl)
  exact L_25 ((40 - 0) + 1) 0 _ _ ls (Nat.lt_succ_self _) (by omega) (by rw [show va_up (va_up (va_up τ 2 (upd (τ 2) sh (nI 8))) 3 (upd (τ 3) sh (nI q))) 4 (zrw (τ 4) sh 0) = va_up (va_up τ 2 (upd (τ 2) sh (nI 8))) 3 (upd (τ 3) sh (nI q)) from va_up_self2 _ 4]; exact hP) (by rw [show va_up (va_up (va_up τ 2 (upd (τ 2) sh (nI 8))) 3 (upd (τ 3) sh (nI q))) 4 (zrw (τ 4) sh 0) = va_up (va_up τ 2 (upd (τ 2) sh (nI 8))) 3 (upd (τ 3) sh (nI q)) from va_up_self2 _ 4]; exact hD) hS (lv_sub hl [1, 2, 0] rfl)
set_option maxRecDepth 100000 in
set_option maxHeartbeats 4000000 in
theorem c_X1_makeNew_w16 (l : Launch) (D : va_G) (cI cJ : ClassId) (o : Nat → Nat) (τ : Nat → Nat → Int32) (sh : Nat) (hsh : sh < 4) (q : Nat) (hq : q ≤ 40) : WR l yX1_makeNew cX1_makeNew 5 none 0 D cI cJ (SH cI cJ o τ) [.ref (o 0), .int (nI sh), .int (nI 16), .int (nI q)] (none) (SH cI cJ o (va_up (va_up (va_up τ 2 (upd (τ 2) sh (nI 16))) 3 (upd (τ 3) sh (nI q))) 4 (zrw (τ 4) sh 40))) := by
  refine WR.of (by decide) (Nat.le_of_ble_eq_true rfl) (fun p e s m below meth c ls A S hr hlk hK hP hD hS hA hl => ?_)
  obtain ⟨hx, hb, hml, hown, hU⟩ := id S
  have hl : lv_has ls 5 [(0, .ref (o 0)), (1, .int (nI sh)), (2, .int (nI 16)), (3, .int (nI q))] := hl
  refine lv_aload_n hx hb dX1_makeNew_0 rfl (lv_at hl 0 rfl) ?_
  refine g11_widths S hK hP dX1_makeNew_1 ?_
  refine lv_iload_n hx hb dX1_makeNew_4 rfl (lv_at hl 1 rfl) ?_
  refine lv_iload_n hx hb dX1_makeNew_5 rfl (lv_at hl 2 rfl) ?_
  refine s1_widths S hK hP hD hS (j := sh) (by omega) dX1_makeNew_6 (fun H locs hP hD hS => ?_)
  refine lv_aload_n hx hb dX1_makeNew_7 rfl (lv_at hl 0 rfl) ?_
  refine g11_sizes S hK hP dX1_makeNew_8 ?_
  refine lv_iload_n hx hb dX1_makeNew_11 rfl (lv_at hl 1 rfl) ?_
  refine lv_iload_n hx hb dX1_makeNew_12 rfl (lv_at hl 2 rfl) ?_
  refine q_if_neN (tgt := 20) (a := 16) hx hb dX1_makeNew_13 (by decide) (by omega) (fun _ => ?_) (fun h => absurd h (by omega))
  refine lv_iload_n hx hb dX1_makeNew_20 rfl (lv_at hl 3 rfl) ?_
  refine s1_sizes S hK hP hD hS (j := sh) (by omega) dX1_makeNew_21 (fun H locs hP hD hS => ?_)
  refine lv_iconst (v := nI 0) hx hb dX1_makeNew_22 (by decide) ?_
  refine lv_istore (lv' := [(4, .int (nI 0)), (0, .ref (o 0)), (1, .int (nI sh)), (2, .int (nI 16)), (3, .int (nI q))]) hx hb dX1_makeNew_23 hl (by decide) rfl (fun ls hl => ?_)
  have L_25 : ∀ (n9 : Nat) (j : Nat) (H : Heap) (locs : List Loc) (ls : Array Slot), 40 - j < n9 → (j ≤ 40) → va_P D vwCl (SH cI cJ o (va_up (va_up (va_up τ 2 (upd (τ 2) sh (nI 16))) 3 (upd (τ 3) sh (nI q))) 4 (zrw (τ 4) sh j))) H → va_D A (SH cI cJ o (va_up (va_up (va_up τ 2 (upd (τ 2) sh (nI 16))) 3 (upd (τ 3) sh (nI q))) 4 (zrw (τ 4) sh j))) → va_S A s.heap H locs → lv_has ls 5 [(0, .ref (o 0)), (1, .int (nI sh)), (4, .int (nI j))] → W p l e (rmd 0) s m ([.ref (o 0), .int (nI sh), .int (nI 16), .int (nI q)] : List Value).toArray below meth c H locs 0 0 (ZW below ([.ref (o 0), .int (nI sh), .int (nI 16), .int (nI q)] : List Value).toArray s D (none) (SH cI cJ o (va_up (va_up (va_up τ 2 (upd (τ 2) sh (nI 16))) 3 (upd (τ 3) sh (nI q))) 4 (zrw (τ 4) sh 40))) A) (F0 m 25 ls []) := by
    intro n9
    induction n9 with
    | zero => intro j H locs ls hmeas; exact absurd hmeas (Nat.not_lt_zero _)
    | succ n9 ih_25 =>
      intro j H locs ls hmeas hj hP hD hS hl
      refine lv_iload hx hb dX1_makeNew_25 (lv_at hl 2 rfl) ?_
      refine lv_bipush (v := nI 40) hx hb dX1_makeNew_27 (by decide) ?_
      refine q_icmp_geN (tgt := 48) (a := j) (b := 40) hx hb dX1_makeNew_29 (by decide) (by omega) (by omega) (fun c_29 => ?_) (fun c_29 => ?_)
      · exact WR.vret S hr hlk hP hS (by rw [show j = 40 by omega]) dX1_makeNew_48
      · refine lv_aload_n hx hb dX1_makeNew_32 rfl (lv_at hl 0 rfl) ?_
        refine g11_rows S hK hP dX1_makeNew_33 ?_
        refine lv_iload_n hx hb dX1_makeNew_36 rfl (lv_at hl 1 rfl) ?_
        refine l1_rows S hK hP (j := sh) (by omega) dX1_makeNew_37 ?_
        refine lv_iload hx hb dX1_makeNew_38 (lv_at hl 2 rfl) ?_
        refine lv_iconst (v := nI 0) hx hb dX1_makeNew_40 (by decide) ?_
        refine s1_row S hK hP hD hS (sh := sh) (i := j) (by omega) (by omega) dX1_makeNew_41 (fun H locs hP hD hS => ?_)
        refine lv_iinc (v := nI (j + 1)) (lv' := [(4, .int (nI (j + 1))), (0, .ref (o 0)), (1, .int (nI sh))]) hx hb dX1_makeNew_42 hl (k := 2) rfl (q_inc _) (by decide) rfl (fun ls hl => ?_)
        refine lv_goto (tgt := 25) hx hb dX1_makeNew_45 (by decide) ?_
        exact ih_25 (j + 1) _ _ ls (by omega) (by omega) (by rw [← show va_up (va_up (va_up (va_up τ 2 (upd (τ 2) sh (nI 16))) 3 (upd (τ 3) sh (nI q))) 4 (zrw (τ 4) sh j)) 4 (zrw (τ 4) sh (j + 1)) = va_up (va_up (va_up τ 2 (upd (τ 2) sh (nI 16))) 3 (upd (τ 3) sh (nI q))) 4 (zrw (τ 4) sh (j + 1)) from bx_uu _ _ _ _]; exact hP) (by rw [← show va_up (va_up (va_up (va_up τ 2 (upd (τ 2) sh (nI 16))) 3 (upd (τ 3) sh (nI q))) 4 (zrw (τ 4) sh j)) 4 (zrw (τ 4) sh (j + 1)) = va_up (va_up (va_up τ 2 (upd (τ 2) sh (nI 16))) 3 (upd (τ 3) sh (nI q))) 4 (zrw (τ 4) sh (j + 1)) from bx_uu _ _ _ _]; exact hD) hS (lv_sub hl [1, 2, 0] rfl)
  exact L_25 ((40 - 0) + 1) 0 _ _ ls (Nat.lt_succ_self _) (by omega) (by rw [show va_up (va_up (va_up τ 2 (upd (τ 2) sh (nI 16))) 3 (upd (τ 3) sh (nI q))) 4 (zrw (τ 4) sh 0) = va_up (va_up τ 2 (upd (τ 2) sh (nI 16))) 3 (upd (τ 3) sh (nI q)) from va_up_self2 _ 4]; exact hP) (by rw [show va_up (va_up (va_up τ 2 (upd (τ 2) sh (nI 16))) 3 (upd (τ 3) sh (nI q))) 4 (zrw (τ 4) sh 0) = va_up (va_up τ 2 (upd (τ 2) sh (nI 16))) 3 (upd (τ 3) sh (nI q)) from va_up_self2 _ 4]; exact hD) hS (lv_sub hl [1, 2, 0] rfl)
set_option maxRecDepth 100000 in
set_option maxHeartbeats 4000000 in
theorem c_X1_makeNew_w32 (l : Launch) (D : va_G) (cI cJ : ClassId) (o : Nat → Nat) (τ : Nat → Nat → Int32) (sh : Nat) (hsh : sh < 4) (q : Nat) (hq : q ≤ 40) : WR l yX1_makeNew cX1_makeNew 5 none 0 D cI cJ (SH cI cJ o τ) [.ref (o 0), .int (nI sh), .int (nI 32), .int (nI q)] (none) (SH cI cJ o (va_up (va_up (va_up τ 2 (upd (τ 2) sh (nI 32))) 3 (upd (τ 3) sh (nI q))) 4 (zrw (τ 4) sh 40))) := by
  refine WR.of (by decide) (Nat.le_of_ble_eq_true rfl) (fun p e s m below meth c ls A S hr hlk hK hP hD hS hA hl => ?_)
  obtain ⟨hx, hb, hml, hown, hU⟩ := id S
  have hl : lv_has ls 5 [(0, .ref (o 0)), (1, .int (nI sh)), (2, .int (nI 32)), (3, .int (nI q))] := hl
  refine lv_aload_n hx hb dX1_makeNew_0 rfl (lv_at hl 0 rfl) ?_
  refine g11_widths S hK hP dX1_makeNew_1 ?_
  refine lv_iload_n hx hb dX1_makeNew_4 rfl (lv_at hl 1 rfl) ?_
  refine lv_iload_n hx hb dX1_makeNew_5 rfl (lv_at hl 2 rfl) ?_
  refine s1_widths S hK hP hD hS (j := sh) (by omega) dX1_makeNew_6 (fun H locs hP hD hS => ?_)
  refine lv_aload_n hx hb dX1_makeNew_7 rfl (lv_at hl 0 rfl) ?_
  refine g11_sizes S hK hP dX1_makeNew_8 ?_
  refine lv_iload_n hx hb dX1_makeNew_11 rfl (lv_at hl 1 rfl) ?_
  refine lv_iload_n hx hb dX1_makeNew_12 rfl (lv_at hl 2 rfl) ?_
  refine q_if_neN (tgt := 20) (a := 32) hx hb dX1_makeNew_13 (by decide) (by omega) (fun _ => ?_) (fun h => absurd h (by omega))
  refine lv_iload_n hx hb dX1_makeNew_20 rfl (lv_at hl 3 rfl) ?_
  refine s1_sizes S hK hP hD hS (j := sh) (by omega) dX1_makeNew_21 (fun H locs hP hD hS => ?_)
  refine lv_iconst (v := nI 0) hx hb dX1_makeNew_22 (by decide) ?_
  refine lv_istore (lv' := [(4, .int (nI 0)), (0, .ref (o 0)), (1, .int (nI sh)), (2, .int (nI 32)), (3, .int (nI q))]) hx hb dX1_makeNew_23 hl (by decide) rfl (fun ls hl => ?_)
  have L_25 : ∀ (n9 : Nat) (j : Nat) (H : Heap) (locs : List Loc) (ls : Array Slot), 40 - j < n9 → (j ≤ 40) → va_P D vwCl (SH cI cJ o (va_up (va_up (va_up τ 2 (upd (τ 2) sh (nI 32))) 3 (upd (τ 3) sh (nI q))) 4 (zrw (τ 4) sh j))) H → va_D A (SH cI cJ o (va_up (va_up (va_up τ 2 (upd (τ 2) sh (nI 32))) 3 (upd (τ 3) sh (nI q))) 4 (zrw (τ 4) sh j))) → va_S A s.heap H locs → lv_has ls 5 [(0, .ref (o 0)), (1, .int (nI sh)), (4, .int (nI j))] → W p l e (rmd 0) s m ([.ref (o 0), .int (nI sh), .int (nI 32), .int (nI q)] : List Value).toArray below meth c H locs 0 0 (ZW below ([.ref (o 0), .int (nI sh), .int (nI 32), .int (nI q)] : List Value).toArray s D (none) (SH cI cJ o (va_up (va_up (va_up τ 2 (upd (τ 2) sh (nI 32))) 3 (upd (τ 3) sh (nI q))) 4 (zrw (τ 4) sh 40))) A) (F0 m 25 ls []) := by
    intro n9
    induction n9 with
    | zero => intro j H locs ls hmeas; exact absurd hmeas (Nat.not_lt_zero _)
    | succ n9 ih_25 =>
      intro j H locs ls hmeas hj hP hD hS hl
      refine lv_iload hx hb dX1_makeNew_25 (lv_at hl 2 rfl) ?_
      refine lv_bipush (v := nI 40) hx hb dX1_makeNew_27 (by decide) ?_
      refine q_icmp_geN (tgt := 48) (a := j) (b := 40) hx hb dX1_makeNew_29 (by decide) (by omega) (by omega) (fun c_29 => ?_) (fun c_29 => ?_)
      · exact WR.vret S hr hlk hP hS (by rw [show j = 40 by omega]) dX1_makeNew_48
      · refine lv_aload_n hx hb dX1_makeNew_32 rfl (lv_at hl 0 rfl) ?_
        refine g11_rows S hK hP dX1_makeNew_33 ?_
        refine lv_iload_n hx hb dX1_makeNew_36 rfl (lv_at hl 1 rfl) ?_
        refine l1_rows S hK hP (j := sh) (by omega) dX1_makeNew_37 ?_
        refine lv_iload hx hb dX1_makeNew_38 (lv_at hl 2 rfl) ?_
        refine lv_iconst (v := nI 0) hx hb dX1_makeNew_40 (by decide) ?_
        refine s1_row S hK hP hD hS (sh := sh) (i := j) (by omega) (by omega) dX1_makeNew_41 (fun H locs hP hD hS => ?_)
        refine lv_iinc (v := nI (j + 1)) (lv' := [(4, .int (nI (j + 1))), (0, .ref (o 0)), (1, .int (nI sh))]) hx hb dX1_makeNew_42 hl (k := 2) rfl (q_inc _) (by decide) rfl (fun ls hl => ?_)
        refine lv_goto (tgt := 25) hx hb dX1_makeNew_45 (by decide) ?_
        exact ih_25 (j + 1) _ _ ls (by omega) (by omega) (by rw [← show va_up (va_up (va_up (va_up τ 2 (upd (τ 2) sh (nI 32))) 3 (upd (τ 3) sh (nI q))) 4 (zrw (τ 4) sh j)) 4 (zrw (τ 4) sh (j + 1)) = va_up (va_up (va_up τ 2 (upd (τ 2) sh (nI 32))) 3 (upd (τ 3) sh (nI q))) 4 (zrw (τ 4) sh (j + 1)) from bx_uu _ _ _ _]; exact hP) (by rw [← show va_up (va_up (va_up (va_up τ 2 (upd (τ 2) sh (nI 32))) 3 (upd (τ 3) sh (nI q))) 4 (zrw (τ 4) sh j)) 4 (zrw (τ 4) sh (j + 1)) = va_up (va_up (va_up τ 2 (upd (τ 2) sh (nI 32))) 3 (upd (τ 3) sh (nI q))) 4 (zrw (τ 4) sh (j + 1)) from bx_uu _ _ _ _]; exact hD) hS (lv_sub hl [1, 2, 0] rfl)
  exact L_25 ((40 - 0) + 1) 0 _ _ ls (Nat.lt_succ_self _) (by omega) (by rw [show va_up (va_up (va_up τ 2 (upd (τ 2) sh (nI 32))) 3 (upd (τ 3) sh (nI q))) 4 (zrw (τ 4) sh 0) = va_up (va_up τ 2 (upd (τ 2) sh (nI 32))) 3 (upd (τ 3) sh (nI q)) from va_up_self2 _ 4]; exact hP) (by rw [show va_up (va_up (va_up τ 2 (upd (τ 2) sh (nI 32))) 3 (upd (τ 3) sh (nI q))) 4 (zrw (τ 4) sh 0) = va_up (va_up τ 2 (upd (τ 2) sh (nI 32))) 3 (upd (τ 3) sh (nI q)) from va_up_self2 _ 4]; exact hD) hS (lv_sub hl [1, 2, 0] rfl)
set_option maxRecDepth 100000 in
set_option maxHeartbeats 4000000 in
theorem c_X1_isMissing (l : Launch) (D : va_G) (cI cJ : ClassId) (o : Nat → Nat) (τ : Nat → Nat → Int32) (sh : Nat) (hsh : sh < 4) : RO l yX1_isMissing cX1_isMissing 2 (some .boolean) 0 D cI cJ (SH cI cJ o τ) [.ref (o 0), .int (nI sh)] (.int (bI (τ 2 sh = 0))) := by
  refine RO.of (by decide) (Nat.le_of_ble_eq_true rfl) (fun p e s m below meth c ls S hr hlk hK hP hl => ?_)
  obtain ⟨hx, hb, hml, hown, hU⟩ := id S
  have hl : lv_has ls 2 [(0, .ref (o 0)), (1, .int (nI sh))] := hl
  refine lv_aload_n hx hb dX1_isMissing_0 rfl (lv_at hl 0 rfl) ?_
  refine g11_widths S hK hP dX1_isMissing_1 ?_
  refine lv_iload_n hx hb dX1_isMissing_4 rfl (lv_at hl 1 rfl) ?_
  refine l1_widths S hK hP (j := sh) (by omega) dX1_isMissing_5 ?_
  refine lv_if_ne (tgt := 13) hx hb dX1_isMissing_6 (by decide) (fun c_6 => ?_) (fun c_6 => ?_)
  · refine lv_iconst (v := nI 0) hx hb dX1_isMissing_13 (by decide) ?_
    exact RO.zret S hr hlk (bI_f (c_6)) dX1_isMissing_14
  · refine lv_iconst (v := nI 1) hx hb dX1_isMissing_9 (by decide) ?_
    refine lv_goto (tgt := 14) hx hb dX1_isMissing_10 (by decide) ?_
    exact RO.zret S hr hlk (bI_t (c_6)) dX1_isMissing_14
set_option maxRecDepth 100000 in
set_option maxHeartbeats 4000000 in
theorem c_X1_put_w8 (l : Launch) (D : va_G) (cI cJ : ClassId) (o : Nat → Nat) (τ : Nat → Nat → Int32) (sh : Nat) (hsh : sh < 4) (i : Nat) (hi : i < 40) (z : Int32) (hwd : τ 2 sh = nI 8) : WR l yX1_put cX1_put 4 none 0 D cI cJ (SH cI cJ o τ) [.ref (o 0), .int (nI sh), .int (nI i), .int z] (none) (SH cI cJ o (va_up τ 4 (upd (τ 4) (40 * sh + i) (z.toInt8.toInt32)))) := by
  refine WR.of (by decide) (Nat.le_of_ble_eq_true rfl) (fun p e s m below meth c ls A S hr hlk hK hP hD hS hA hl => ?_)
  obtain ⟨hx, hb, hml, hown, hU⟩ := id S
  have hl : lv_has ls 4 [(0, .ref (o 0)), (1, .int (nI sh)), (2, .int (nI i)), (3, .int z)] := hl
  refine lv_aload_n hx hb dX1_put_0 rfl (lv_at hl 0 rfl) ?_
  refine g11_widths S hK hP dX1_put_1 ?_
  refine lv_iload_n hx hb dX1_put_4 rfl (lv_at hl 1 rfl) ?_
  refine l1_widths S hK hP (j := sh) (by omega) dX1_put_5 ?_
  refine q_eqi (y := nI 8) (hwd) ?_
  refine lv_bipush (v := nI 8) hx hb dX1_put_6 (by decide) ?_
  refine q_icmp_neN (tgt := 24) (a := 8) (b := 8) hx hb dX1_put_8 (by decide) (by omega) (by omega) (fun h => absurd h (by omega)) (fun _ => ?_)
  refine lv_aload_n hx hb dX1_put_11 rfl (lv_at hl 0 rfl) ?_
  refine g11_rows S hK hP dX1_put_12 ?_
  refine lv_iload_n hx hb dX1_put_15 rfl (lv_at hl 1 rfl) ?_
  refine l1_rows S hK hP (j := sh) (by omega) dX1_put_16 ?_
  refine lv_iload_n hx hb dX1_put_17 rfl (lv_at hl 2 rfl) ?_
  refine lv_iload_n hx hb dX1_put_18 rfl (lv_at hl 3 rfl) ?_
  refine lv_i2b hx hb dX1_put_19 rfl ?_
  refine s1_row S hK hP hD hS (sh := sh) (i := i) (by omega) (by omega) dX1_put_20 (fun H locs hP hD hS => ?_)
  refine lv_goto (tgt := 57) hx hb dX1_put_21 (by decide) ?_
  exact WR.vret S hr hlk hP hS (rfl) dX1_put_57
set_option maxRecDepth 100000 in
set_option maxHeartbeats 4000000 in
theorem c_X1_put_w16 (l : Launch) (D : va_G) (cI cJ : ClassId) (o : Nat → Nat) (τ : Nat → Nat → Int32) (sh : Nat) (hsh : sh < 4) (i : Nat) (hi : i < 40) (z : Int32) (hwd : τ 2 sh = nI 16) : WR l yX1_put cX1_put 4 none 0 D cI cJ (SH cI cJ o τ) [.ref (o 0), .int (nI sh), .int (nI i), .int z] (none) (SH cI cJ o (va_up τ 4 (upd (τ 4) (40 * sh + i) (z.toInt16.toInt32)))) := by
  refine WR.of (by decide) (Nat.le_of_ble_eq_true rfl) (fun p e s m below meth c ls A S hr hlk hK hP hD hS hA hl => ?_)
  obtain ⟨hx, hb, hml, hown, hU⟩ := id S
  have hl : lv_has ls 4 [(0, .ref (o 0)), (1, .int (nI sh)), (2, .int (nI i)), (3, .int z)] := hl
  refine lv_aload_n hx hb dX1_put_0 rfl (lv_at hl 0 rfl) ?_
  refine g11_widths S hK hP dX1_put_1 ?_
  refine lv_iload_n hx hb dX1_put_4 rfl (lv_at hl 1 rfl) ?_
  refine l1_widths S hK hP (j := sh) (by omega) dX1_put_5 ?_
  refine q_eqi (y := nI 16) (hwd) ?_
  refine lv_bipush (v := nI 8) hx hb dX1_put_6 (by decide) ?_
  refine q_icmp_neN (tgt := 24) (a := 16) (b := 8) hx hb dX1_put_8 (by decide) (by omega) (by omega) (fun _ => ?_) (fun h => absurd h (by omega))
  refine lv_aload_n hx hb dX1_put_24 rfl (lv_at hl 0 rfl) ?_
  refine g11_widths S hK hP dX1_put_25 ?_
  refine lv_iload_n hx hb dX1_put_28 rfl (lv_at hl 1 rfl) ?_
  refine l1_widths S hK hP (j := sh) (by omega) dX1_put_29 ?_
  refine q_eqi (y := nI 16) (hwd) ?_
  refine lv_bipush (v := nI 16) hx hb dX1_put_30 (by decide) ?_
  refine q_icmp_neN (tgt := 48) (a := 16) (b := 16) hx hb dX1_put_32 (by decide) (by omega) (by omega) (fun h => absurd h (by omega)) (fun _ => ?_)
  refine lv_aload_n hx hb dX1_put_35 rfl (lv_at hl 0 rfl) ?_
  refine g11_rows S hK hP dX1_put_36 ?_
  refine lv_iload_n hx hb dX1_put_39 rfl (lv_at hl 1 rfl) ?_
  refine l1_rows S hK hP (j := sh) (by omega) dX1_put_40 ?_
  refine lv_iload_n hx hb dX1_put_41 rfl (lv_at hl 2 rfl) ?_
  refine lv_iload_n hx hb dX1_put_42 rfl (lv_at hl 3 rfl) ?_
  refine lv_i2s hx hb dX1_put_43 rfl ?_
  refine s1_row S hK hP hD hS (sh := sh) (i := i) (by omega) (by omega) dX1_put_44 (fun H locs hP hD hS => ?_)
  refine lv_goto (tgt := 57) hx hb dX1_put_45 (by decide) ?_
  exact WR.vret S hr hlk hP hS (rfl) dX1_put_57
set_option maxRecDepth 100000 in
set_option maxHeartbeats 4000000 in
theorem c_X1_put_w32 (l : Launch) (D : va_G) (cI cJ : ClassId) (o : Nat → Nat) (τ : Nat → Nat → Int32) (sh : Nat) (hsh : sh < 4) (i : Nat) (hi : i < 40) (z : Int32) (hwd : τ 2 sh = nI 32) : WR l yX1_put cX1_put 4 none 0 D cI cJ (SH cI cJ o τ) [.ref (o 0), .int (nI sh), .int (nI i), .int z] (none) (SH cI cJ o (va_up τ 4 (upd (τ 4) (40 * sh + i) (z)))) := by
  refine WR.of (by decide) (Nat.le_of_ble_eq_true rfl) (fun p e s m below meth c ls A S hr hlk hK hP hD hS hA hl => ?_)
  obtain ⟨hx, hb, hml, hown, hU⟩ := id S
  have hl : lv_has ls 4 [(0, .ref (o 0)), (1, .int (nI sh)), (2, .int (nI i)), (3, .int z)] := hl
  refine lv_aload_n hx hb dX1_put_0 rfl (lv_at hl 0 rfl) ?_
  refine g11_widths S hK hP dX1_put_1 ?_
  refine lv_iload_n hx hb dX1_put_4 rfl (lv_at hl 1 rfl) ?_
  refine l1_widths S hK hP (j := sh) (by omega) dX1_put_5 ?_
  refine q_eqi (y := nI 32) (hwd) ?_
  refine lv_bipush (v := nI 8) hx hb dX1_put_6 (by decide) ?_
  refine q_icmp_neN (tgt := 24) (a := 32) (b := 8) hx hb dX1_put_8 (by decide) (by omega) (by omega) (fun _ => ?_) (fun h => absurd h (by omega))
  refine lv_aload_n hx hb dX1_put_24 rfl (lv_at hl 0 rfl) ?_
  refine g11_widths S hK hP dX1_put_25 ?_
  refine lv_iload_n hx hb dX1_put_28 rfl (lv_at hl 1 rfl) ?_
  refine l1_widths S hK hP (j := sh) (by omega) dX1_put_29 ?_
  refine q_eqi (y := nI 32) (hwd) ?_
  refine lv_bipush (v := nI 16) hx hb dX1_put_30 (by decide) ?_
  refine q_icmp_neN (tgt := 48) (a := 32) (b := 16) hx hb dX1_put_32 (by decide) (by omega) (by omega) (fun _ => ?_) (fun h => absurd h (by omega))
  refine lv_aload_n hx hb dX1_put_48 rfl (lv_at hl 0 rfl) ?_
  refine g11_rows S hK hP dX1_put_49 ?_
  refine lv_iload_n hx hb dX1_put_52 rfl (lv_at hl 1 rfl) ?_
  refine l1_rows S hK hP (j := sh) (by omega) dX1_put_53 ?_
  refine lv_iload_n hx hb dX1_put_54 rfl (lv_at hl 2 rfl) ?_
  refine lv_iload_n hx hb dX1_put_55 rfl (lv_at hl 3 rfl) ?_
  refine s1_row S hK hP hD hS (sh := sh) (i := i) (by omega) (by omega) dX1_put_56 (fun H locs hP hD hS => ?_)
  exact WR.vret S hr hlk hP hS (rfl) dX1_put_57
set_option maxRecDepth 100000 in
set_option maxHeartbeats 4000000 in
theorem c_X1_hasRun (l : Launch) (D : va_G) (cI cJ : ClassId) (o : Nat → Nat) (τ : Nat → Nat → Int32) (sh : Nat) (hsh : sh < 4) (x : Int32) (y : Int32) (sz : Nat) (hm : τ 3 sh = nI sz) : RO l yX1_hasRun cX1_hasRun 4 (some .boolean) 0 D cI cJ (SH cI cJ o τ) [.ref (o 0), .int (nI sh), .int x, .int y] (.int (bI (0 ≤ x ∧ 0 ≤ y ∧ x ≤ nI sz ∧ y ≤ nI sz - x))) := by
  refine RO.of (by decide) (Nat.le_of_ble_eq_true rfl) (fun p e s m below meth c ls S hr hlk hK hP hl => ?_)
  obtain ⟨hx, hb, hml, hown, hU⟩ := id S
  have hl : lv_has ls 4 [(0, .ref (o 0)), (1, .int (nI sh)), (2, .int x), (3, .int y)] := hl
  refine lv_iload_n hx hb dX1_hasRun_0 rfl (lv_at hl 2 rfl) ?_
  refine lv_if_lt (tgt := 34) hx hb dX1_hasRun_1 (by decide) (fun c_1 => ?_) (fun c_1 => ?_)
  · refine lv_iconst (v := nI 0) hx hb dX1_hasRun_34 (by decide) ?_
    exact RO.zret S hr hlk (bI_f (fun q => i32_not_lt_of_le q.1 c_1)) dX1_hasRun_35
  · refine lv_iload_n hx hb dX1_hasRun_4 rfl (lv_at hl 3 rfl) ?_
    refine lv_if_lt (tgt := 34) hx hb dX1_hasRun_5 (by decide) (fun c_5 => ?_) (fun c_5 => ?_)
    · refine lv_iconst (v := nI 0) hx hb dX1_hasRun_34 (by decide) ?_
      exact RO.zret S hr hlk (bI_f (fun q => i32_not_lt_of_le q.2.1 c_5)) dX1_hasRun_35
    · refine lv_iload_n hx hb dX1_hasRun_8 rfl (lv_at hl 2 rfl) ?_
      refine lv_aload_n hx hb dX1_hasRun_9 rfl (lv_at hl 0 rfl) ?_
      refine g11_sizes S hK hP dX1_hasRun_10 ?_
      refine lv_iload_n hx hb dX1_hasRun_13 rfl (lv_at hl 1 rfl) ?_
      refine l1_sizes S hK hP (j := sh) (by omega) dX1_hasRun_14 ?_
      refine q_eqi (y := nI sz) (hm) ?_
      refine lv_icmp_gt (tgt := 34) hx hb dX1_hasRun_15 (by decide) (fun c_15 => ?_) (fun c_15 => ?_)
      · refine lv_iconst (v := nI 0) hx hb dX1_hasRun_34 (by decide) ?_
        exact RO.zret S hr hlk (bI_f (fun q => i32_not_lt_of_le q.2.2.1 c_15)) dX1_hasRun_35
      · refine lv_iload_n hx hb dX1_hasRun_18 rfl (lv_at hl 3 rfl) ?_
        refine lv_aload_n hx hb dX1_hasRun_19 rfl (lv_at hl 0 rfl) ?_
        refine g11_sizes S hK hP dX1_hasRun_20 ?_
        refine lv_iload_n hx hb dX1_hasRun_23 rfl (lv_at hl 1 rfl) ?_
        refine l1_sizes S hK hP (j := sh) (by omega) dX1_hasRun_24 ?_
        refine q_eqi (y := nI sz) (hm) ?_
        refine lv_iload_n hx hb dX1_hasRun_25 rfl (lv_at hl 2 rfl) ?_
        refine lv_isub hx hb dX1_hasRun_26 ?_
        refine lv_icmp_gt (tgt := 34) hx hb dX1_hasRun_27 (by decide) (fun c_27 => ?_) (fun c_27 => ?_)
        · refine lv_iconst (v := nI 0) hx hb dX1_hasRun_34 (by decide) ?_
          exact RO.zret S hr hlk (bI_f (fun q => i32_not_lt_of_le q.2.2.2 c_27)) dX1_hasRun_35
        · refine lv_iconst (v := nI 1) hx hb dX1_hasRun_30 (by decide) ?_
          refine lv_goto (tgt := 35) hx hb dX1_hasRun_31 (by decide) ?_
          exact RO.zret S hr hlk (bI_t (⟨i32_le_of_not_lt c_1, i32_le_of_not_lt c_5, i32_le_of_not_lt c_15, i32_le_of_not_lt c_27⟩)) dX1_hasRun_35
set_option maxRecDepth 100000 in
set_option maxHeartbeats 4000000 in
theorem c_X1_tells (l : Launch) (D : va_G) (cI cJ : ClassId) (o : Nat → Nat) (τ : Nat → Nat → Int32) (sh : Nat) (hsh : sh < 4) (i : Nat) (hi : i < 40) (x : Int32) : RO l yX1_tells cX1_tells 4 (some .boolean) 0 D cI cJ (SH cI cJ o τ) [.ref (o 0), .int (nI sh), .int (nI i), .int x] (.int (bI (τ 4 (40 * sh + i) = -1 ∨ τ 4 (40 * sh + i) = x))) := by
  refine RO.of (by decide) (Nat.le_of_ble_eq_true rfl) (fun p e s m below meth c ls S hr hlk hK hP hl => ?_)
  obtain ⟨hx, hb, hml, hown, hU⟩ := id S
  have hl : lv_has ls 4 [(0, .ref (o 0)), (1, .int (nI sh)), (2, .int (nI i)), (3, .int x)] := hl
  refine lv_aload_n hx hb dX1_tells_0 rfl (lv_at hl 0 rfl) ?_
  refine g11_rows S hK hP dX1_tells_1 ?_
  refine lv_iload_n hx hb dX1_tells_4 rfl (lv_at hl 1 rfl) ?_
  refine l1_rows S hK hP (j := sh) (by omega) dX1_tells_5 ?_
  refine lv_iload_n hx hb dX1_tells_6 rfl (lv_at hl 2 rfl) ?_
  refine l1_row S hK hP (sh := sh) (i := i) (by omega) (by omega) dX1_tells_7 ?_
  refine lv_iconst (v := (-1)) hx hb dX1_tells_8 (by decide) ?_
  refine lv_icmp_eq (tgt := 24) hx hb dX1_tells_9 (by decide) (fun c_9 => ?_) (fun c_9 => ?_)
  · refine lv_iconst (v := nI 1) hx hb dX1_tells_24 (by decide) ?_
    refine lv_goto (tgt := 29) hx hb dX1_tells_25 (by decide) ?_
    exact RO.zret S hr hlk (bI_t (Or.inl c_9)) dX1_tells_29
  · refine lv_aload_n hx hb dX1_tells_12 rfl (lv_at hl 0 rfl) ?_
    refine g11_rows S hK hP dX1_tells_13 ?_
    refine lv_iload_n hx hb dX1_tells_16 rfl (lv_at hl 1 rfl) ?_
    refine l1_rows S hK hP (j := sh) (by omega) dX1_tells_17 ?_
    refine lv_iload_n hx hb dX1_tells_18 rfl (lv_at hl 2 rfl) ?_
    refine l1_row S hK hP (sh := sh) (i := i) (by omega) (by omega) dX1_tells_19 ?_
    refine lv_iload_n hx hb dX1_tells_20 rfl (lv_at hl 3 rfl) ?_
    refine lv_icmp_ne (tgt := 28) hx hb dX1_tells_21 (by decide) (fun c_21 => ?_) (fun c_21 => ?_)
    · refine lv_iconst (v := nI 0) hx hb dX1_tells_28 (by decide) ?_
      exact RO.zret S hr hlk (bI_f (fun q => q.elim c_9 c_21)) dX1_tells_29
    · refine lv_iconst (v := nI 1) hx hb dX1_tells_24 (by decide) ?_
      refine lv_goto (tgt := 29) hx hb dX1_tells_25 (by decide) ?_
      exact RO.zret S hr hlk (bI_t (Or.inr c_21)) dX1_tells_29
set_option maxRecDepth 100000 in
set_option maxHeartbeats 4000000 in
theorem c_X3_wrongSheet_bad (l : Launch) (D : va_G) (cI cJ : ClassId) (t : Nat → Nat) (f g h : Nat → Int32) (τ : Nat → Nat → Int32) (x : Int32) (hs0 : ¬ (nI 0 ≤ x ∧ x ≤ nI 3)) : RO l yX3_wrongSheet cX3_wrongSheet 2 (some .int) 1 D cI cJ (TW cI cJ t f g h τ) [.ref (t 0), .int x] (.int (nI 0)) := by
  refine RO.of (by decide) (Nat.le_of_ble_eq_true rfl) (fun p e s m below meth c ls S hr hlk hK hP hl => ?_)
  obtain ⟨hx, hb, hml, hown, hU⟩ := id S
  have hl : lv_has ls 2 [(0, .ref (t 0)), (1, .int x)] := hl
  refine lv_iload_n hx hb dX3_wrongSheet_0 rfl (lv_at hl 1 rfl) ?_
  refine lv_iconst (v := nI 3) hx hb dX3_wrongSheet_1 (by decide) ?_
  refine RO.callS S ks_X3_44 (c_X3_isWithin l D cI cJ t f g h τ x (nI 3)) hK hP ⟨Nat.le_of_ble_eq_true rfl, Nat.le_of_ble_eq_true rfl⟩ hl.1 rfl rfl (Nat.le_of_ble_eq_true rfl) (Nat.zero_le _) (Nat.zero_le _) dX3_wrongSheet_2 ?_
  refine q_if_neB (tgt := 10) hx hb dX3_wrongSheet_5 (by decide) (fun h => absurd h (hs0)) (fun _ => ?_)
  refine lv_iconst (v := nI 0) hx hb dX3_wrongSheet_8 (by decide) ?_
  exact RO.iret S hr hlk rfl dX3_wrongSheet_9
set_option maxRecDepth 100000 in
set_option maxHeartbeats 4000000 in
theorem c_X3_wrongSheet_miss (l : Launch) (D : va_G) (cI cJ : ClassId) (t : Nat → Nat) (f g h : Nat → Int32) (τ : Nat → Nat → Int32) (sh : Nat) (hsh : sh < 4) (hms : τ 2 sh = 0) : RO l yX3_wrongSheet cX3_wrongSheet 2 (some .int) 1 D cI cJ (TW cI cJ t f g h τ) [.ref (t 0), .int (nI sh)] (.int (nI 5)) := by
  refine RO.of (by decide) (Nat.le_of_ble_eq_true rfl) (fun p e s m below meth c ls S hr hlk hK hP hl => ?_)
  obtain ⟨hx, hb, hml, hown, hU⟩ := id S
  have hl : lv_has ls 2 [(0, .ref (t 0)), (1, .int (nI sh))] := hl
  refine lv_iload_n hx hb dX3_wrongSheet_0 rfl (lv_at hl 1 rfl) ?_
  refine lv_iconst (v := nI 3) hx hb dX3_wrongSheet_1 (by decide) ?_
  refine RO.callS S ks_X3_44 (c_X3_isWithin l D cI cJ t f g h τ (nI sh) (nI 3)) hK hP ⟨Nat.le_of_ble_eq_true rfl, Nat.le_of_ble_eq_true rfl⟩ hl.1 rfl rfl (Nat.le_of_ble_eq_true rfl) (Nat.zero_le _) (Nat.zero_le _) dX3_wrongSheet_2 ?_
  refine q_if_neB (tgt := 10) hx hb dX3_wrongSheet_5 (by decide) (fun _ => ?_) (fun h => absurd (⟨nI_le (by omega) (by omega), nI_le (by omega) (by omega)⟩) h)
  refine lv_aload_n hx hb dX3_wrongSheet_10 rfl (lv_at hl 0 rfl) ?_
  refine g3_sheets S hK hP dX3_wrongSheet_11 ?_
  refine lv_iload_n hx hb dX3_wrongSheet_14 rfl (lv_at hl 1 rfl) ?_
  refine RO.callV S kv_X3_204 (c_X1_isMissing l D cI cJ (sf t 36) τ sh (by omega)) hK (TW_sheets hP) rfl ⟨Nat.le_of_ble_eq_true rfl, Nat.le_of_ble_eq_true rfl⟩ hl.1 rfl rfl (Nat.le_of_ble_eq_true rfl) (Nat.zero_le _) (Nat.zero_le _) dX3_wrongSheet_15 ?_
  refine q_if_eqB (tgt := 25) hx hb dX3_wrongSheet_18 (by decide) (fun h => absurd (hms) h) (fun _ => ?_)
  refine lv_iconst (v := nI 5) hx hb dX3_wrongSheet_21 (by decide) ?_
  refine lv_goto (tgt := 26) hx hb dX3_wrongSheet_22 (by decide) ?_
  exact RO.iret S hr hlk rfl dX3_wrongSheet_26
set_option maxRecDepth 100000 in
set_option maxHeartbeats 4000000 in
theorem c_X3_wrongSheet_ok (l : Launch) (D : va_G) (cI cJ : ClassId) (t : Nat → Nat) (f g h : Nat → Int32) (τ : Nat → Nat → Int32) (sh : Nat) (hsh : sh < 4) (hms : ¬ τ 2 sh = 0) : RO l yX3_wrongSheet cX3_wrongSheet 2 (some .int) 1 D cI cJ (TW cI cJ t f g h τ) [.ref (t 0), .int (nI sh)] (.int (-1)) := by
  refine RO.of (by decide) (Nat.le_of_ble_eq_true rfl) (fun p e s m below meth c ls S hr hlk hK hP hl => ?_)
  obtain ⟨hx, hb, hml, hown, hU⟩ := id S
  have hl : lv_has ls 2 [(0, .ref (t 0)), (1, .int (nI sh))] := hl
  refine lv_iload_n hx hb dX3_wrongSheet_0 rfl (lv_at hl 1 rfl) ?_
  refine lv_iconst (v := nI 3) hx hb dX3_wrongSheet_1 (by decide) ?_
  refine RO.callS S ks_X3_44 (c_X3_isWithin l D cI cJ t f g h τ (nI sh) (nI 3)) hK hP ⟨Nat.le_of_ble_eq_true rfl, Nat.le_of_ble_eq_true rfl⟩ hl.1 rfl rfl (Nat.le_of_ble_eq_true rfl) (Nat.zero_le _) (Nat.zero_le _) dX3_wrongSheet_2 ?_
  refine q_if_neB (tgt := 10) hx hb dX3_wrongSheet_5 (by decide) (fun _ => ?_) (fun h => absurd (⟨nI_le (by omega) (by omega), nI_le (by omega) (by omega)⟩) h)
  refine lv_aload_n hx hb dX3_wrongSheet_10 rfl (lv_at hl 0 rfl) ?_
  refine g3_sheets S hK hP dX3_wrongSheet_11 ?_
  refine lv_iload_n hx hb dX3_wrongSheet_14 rfl (lv_at hl 1 rfl) ?_
  refine RO.callV S kv_X3_204 (c_X1_isMissing l D cI cJ (sf t 36) τ sh (by omega)) hK (TW_sheets hP) rfl ⟨Nat.le_of_ble_eq_true rfl, Nat.le_of_ble_eq_true rfl⟩ hl.1 rfl rfl (Nat.le_of_ble_eq_true rfl) (Nat.zero_le _) (Nat.zero_le _) dX3_wrongSheet_15 ?_
  refine q_if_eqB (tgt := 25) hx hb dX3_wrongSheet_18 (by decide) (fun _ => ?_) (fun h => absurd h (hms))
  refine lv_iconst (v := (-1)) hx hb dX3_wrongSheet_25 (by decide) ?_
  exact RO.iret S hr hlk rfl dX3_wrongSheet_26
set_option maxRecDepth 100000 in
set_option maxHeartbeats 4000000 in
theorem c_X3_wrongTelling_bad (l : Launch) (D : va_G) (cI cJ : ClassId) (t : Nat → Nat) (f g h : Nat → Int32) (τ : Nat → Nat → Int32) (x : Int32) (y : Int32) (hs0 : ¬ (nI 0 ≤ x ∧ x ≤ nI 3)) : RO l yX3_wrongTelling cX3_wrongTelling 4 (some .int) 2 D cI cJ (TW cI cJ t f g h τ) [.ref (t 0), .int x, .int y] (.int (nI 0)) := by
  refine RO.of (by decide) (Nat.le_of_ble_eq_true rfl) (fun p e s m below meth c ls S hr hlk hK hP hl => ?_)
  obtain ⟨hx, hb, hml, hown, hU⟩ := id S
  have hl : lv_has ls 4 [(0, .ref (t 0)), (1, .int x), (2, .int y)] := hl
  refine lv_aload_n hx hb dX3_wrongTelling_0 rfl (lv_at hl 0 rfl) ?_
  refine lv_iload_n hx hb dX3_wrongTelling_1 rfl (lv_at hl 1 rfl) ?_
  refine RO.callV S kv_X3_198 (c_X3_wrongSheet_bad l D cI cJ t f g h τ x hs0) hK hP rfl ⟨Nat.le_of_ble_eq_true rfl, Nat.le_of_ble_eq_true rfl⟩ hl.1 rfl rfl (Nat.le_of_ble_eq_true rfl) (Nat.zero_le _) (Nat.zero_le _) dX3_wrongTelling_2 ?_
  refine lv_istore_n (lv' := [(3, .int (nI 0)), (0, .ref (t 0)), (1, .int x), (2, .int y)]) hx hb dX3_wrongTelling_5 rfl hl (by decide) rfl (fun ls hl => ?_)
  refine lv_iload_n hx hb dX3_wrongTelling_6 rfl (lv_at hl 0 rfl) ?_
  refine q_if_ltN (tgt := 12) (a := 0) hx hb dX3_wrongTelling_7 (by decide) (by omega) ?_
  refine lv_iload_n hx hb dX3_wrongTelling_10 rfl (lv_at hl 0 rfl) ?_
  exact RO.iret S hr hlk rfl dX3_wrongTelling_11
set_option maxRecDepth 100000 in
set_option maxHeartbeats 4000000 in
theorem c_X3_wrongTelling_miss (l : Launch) (D : va_G) (cI cJ : ClassId) (t : Nat → Nat) (f g h : Nat → Int32) (τ : Nat → Nat → Int32) (sh : Nat) (hsh : sh < 4) (y : Int32) (hms : τ 2 sh = 0) : RO l yX3_wrongTelling cX3_wrongTelling 4 (some .int) 2 D cI cJ (TW cI cJ t f g h τ) [.ref (t 0), .int (nI sh), .int y] (.int (nI 5)) := by
  refine RO.of (by decide) (Nat.le_of_ble_eq_true rfl) (fun p e s m below meth c ls S hr hlk hK hP hl => ?_)
  obtain ⟨hx, hb, hml, hown, hU⟩ := id S
  have hl : lv_has ls 4 [(0, .ref (t 0)), (1, .int (nI sh)), (2, .int y)] := hl
  refine lv_aload_n hx hb dX3_wrongTelling_0 rfl (lv_at hl 0 rfl) ?_
  refine lv_iload_n hx hb dX3_wrongTelling_1 rfl (lv_at hl 1 rfl) ?_
  refine RO.callV S kv_X3_198 (c_X3_wrongSheet_miss l D cI cJ t f g h τ sh (by omega) hms) hK hP rfl ⟨Nat.le_of_ble_eq_true rfl, Nat.le_of_ble_eq_true rfl⟩ hl.1 rfl rfl (Nat.le_of_ble_eq_true rfl) (Nat.zero_le _) (Nat.zero_le _) dX3_wrongTelling_2 ?_
  refine lv_istore_n (lv' := [(3, .int (nI 5)), (0, .ref (t 0)), (1, .int (nI sh)), (2, .int y)]) hx hb dX3_wrongTelling_5 rfl hl (by decide) rfl (fun ls hl => ?_)
  refine lv_iload_n hx hb dX3_wrongTelling_6 rfl (lv_at hl 0 rfl) ?_
  refine q_if_ltN (tgt := 12) (a := 5) hx hb dX3_wrongTelling_7 (by decide) (by omega) ?_
  refine lv_iload_n hx hb dX3_wrongTelling_10 rfl (lv_at hl 0 rfl) ?_
  exact RO.iret S hr hlk rfl dX3_wrongTelling_11
set_option maxRecDepth 100000 in
set_option maxHeartbeats 4000000 in
theorem c_X3_wrongTelling_badc (l : Launch) (D : va_G) (cI cJ : ClassId) (t : Nat → Nat) (f g h : Nat → Int32) (τ : Nat → Nat → Int32) (sh : Nat) (hsh : sh < 4) (y : Int32) (hms : ¬ τ 2 sh = 0) (n : Nat) (hw : Wk f n) (hb0 : ¬ (0 ≤ y ∧ y < nI n)) : RO l yX3_wrongTelling cX3_wrongTelling 4 (some .int) 2 D cI cJ (TW cI cJ t f g h τ) [.ref (t 0), .int (nI sh), .int y] (.int (nI 0)) := by
  refine RO.of (by decide) (Nat.le_of_ble_eq_true rfl) (fun p e s m below meth c ls S hr hlk hK hP hl => ?_)
  obtain ⟨hx, hb, hml, hown, hU⟩ := id S
  have hl : lv_has ls 4 [(0, .ref (t 0)), (1, .int (nI sh)), (2, .int y)] := hl
  refine lv_aload_n hx hb dX3_wrongTelling_0 rfl (lv_at hl 0 rfl) ?_
  refine lv_iload_n hx hb dX3_wrongTelling_1 rfl (lv_at hl 1 rfl) ?_
  refine RO.callV S kv_X3_198 (c_X3_wrongSheet_ok l D cI cJ t f g h τ sh (by omega) hms) hK hP rfl ⟨Nat.le_of_ble_eq_true rfl, Nat.le_of_ble_eq_true rfl⟩ hl.1 rfl rfl (Nat.le_of_ble_eq_true rfl) (Nat.zero_le _) (Nat.zero_le _) dX3_wrongTelling_2 ?_
  refine lv_istore_n (lv' := [(3, .int (-1)), (0, .ref (t 0)), (1, .int (nI sh)), (2, .int y)]) hx hb dX3_wrongTelling_5 rfl hl (by decide) rfl (fun ls hl => ?_)
  refine lv_iload_n hx hb dX3_wrongTelling_6 rfl (lv_at hl 0 rfl) ?_
  refine lv_if_lt (tgt := 12) hx hb dX3_wrongTelling_7 (by decide) (fun _ => ?_) (fun h => absurd (by decide) h)
  refine lv_aload_n hx hb dX3_wrongTelling_12 rfl (lv_at hl 1 rfl) ?_
  refine lv_iload_n hx hb dX3_wrongTelling_13 rfl (lv_at hl 3 rfl) ?_
  refine RO.callV S kv_X3_72 (c_X3_isCask l D cI cJ t f g h τ y n (hw)) hK hP rfl ⟨Nat.le_of_ble_eq_true rfl, Nat.le_of_ble_eq_true rfl⟩ hl.1 rfl rfl (Nat.le_of_ble_eq_true rfl) (Nat.zero_le _) (Nat.zero_le _) dX3_wrongTelling_14 ?_
  refine q_if_eqB (tgt := 24) hx hb dX3_wrongTelling_17 (by decide) (fun c_17 => ?_) (fun c_17 => ?_)
  · refine lv_iconst (v := nI 0) hx hb dX3_wrongTelling_24 (by decide) ?_
    exact RO.iret S hr hlk rfl dX3_wrongTelling_25
  · exact absurd (c_17) hb0
set_option maxRecDepth 100000 in
set_option maxHeartbeats 4000000 in
theorem c_X3_wrongTelling_ok (l : Launch) (D : va_G) (cI cJ : ClassId) (t : Nat → Nat) (f g h : Nat → Int32) (τ : Nat → Nat → Int32) (sh : Nat) (hsh : sh < 4) (k : Nat) (hms : ¬ τ 2 sh = 0) (n : Nat) (hw : Wk f n) (hk : k < n) : RO l yX3_wrongTelling cX3_wrongTelling 4 (some .int) 2 D cI cJ (TW cI cJ t f g h τ) [.ref (t 0), .int (nI sh), .int (nI k)] (.int (-1)) := by
  have h8 := hw.2.1
  refine RO.of (by decide) (Nat.le_of_ble_eq_true rfl) (fun p e s m below meth c ls S hr hlk hK hP hl => ?_)
  obtain ⟨hx, hb, hml, hown, hU⟩ := id S
  have hl : lv_has ls 4 [(0, .ref (t 0)), (1, .int (nI sh)), (2, .int (nI k))] := hl
  refine lv_aload_n hx hb dX3_wrongTelling_0 rfl (lv_at hl 0 rfl) ?_
  refine lv_iload_n hx hb dX3_wrongTelling_1 rfl (lv_at hl 1 rfl) ?_
  refine RO.callV S kv_X3_198 (c_X3_wrongSheet_ok l D cI cJ t f g h τ sh (by omega) hms) hK hP rfl ⟨Nat.le_of_ble_eq_true rfl, Nat.le_of_ble_eq_true rfl⟩ hl.1 rfl rfl (Nat.le_of_ble_eq_true rfl) (Nat.zero_le _) (Nat.zero_le _) dX3_wrongTelling_2 ?_
  refine lv_istore_n (lv' := [(3, .int (-1)), (0, .ref (t 0)), (1, .int (nI sh)), (2, .int (nI k))]) hx hb dX3_wrongTelling_5 rfl hl (by decide) rfl (fun ls hl => ?_)
  refine lv_iload_n hx hb dX3_wrongTelling_6 rfl (lv_at hl 0 rfl) ?_
  refine lv_if_lt (tgt := 12) hx hb dX3_wrongTelling_7 (by decide) (fun _ => ?_) (fun h => absurd (by decide) h)
  refine lv_aload_n hx hb dX3_wrongTelling_12 rfl (lv_at hl 1 rfl) ?_
  refine lv_iload_n hx hb dX3_wrongTelling_13 rfl (lv_at hl 3 rfl) ?_
  refine RO.callV S kv_X3_72 (c_X3_isCask l D cI cJ t f g h τ (nI k) n (hw)) hK hP rfl ⟨Nat.le_of_ble_eq_true rfl, Nat.le_of_ble_eq_true rfl⟩ hl.1 rfl rfl (Nat.le_of_ble_eq_true rfl) (Nat.zero_le _) (Nat.zero_le _) dX3_wrongTelling_14 ?_
  refine q_if_eqB (tgt := 24) hx hb dX3_wrongTelling_17 (by decide) (fun h => absurd (⟨nI_pos' (by omega), nI_lt (by omega) (by omega)⟩) h) (fun _ => ?_)
  refine lv_iconst (v := (-1)) hx hb dX3_wrongTelling_20 (by decide) ?_
  refine lv_goto (tgt := 25) hx hb dX3_wrongTelling_21 (by decide) ?_
  exact RO.iret S hr hlk rfl dX3_wrongTelling_25
set_option maxRecDepth 100000 in
set_option maxHeartbeats 4000000 in
theorem c_X3_sheet_bad (l : Launch) (D : va_G) (cI cJ : ClassId) (t : Nat → Nat) (f g h : Nat → Int32) (τ : Nat → Nat → Int32) (x : Int32) (y : Int32) (z : Int32) (hb0 : ¬ ((nI 0 ≤ x ∧ x ≤ nI 3) ∧ (y = 0 ∨ y = nI 8 ∨ y = nI 16 ∨ y = nI 32))) : WR l yX3_sheet cX3_sheet 5 (some .int) 1 D cI cJ (TW cI cJ t f g h τ) [.ref (t 0), .int x, .int y, .int z] (some (.int (-1000001))) (TW cI cJ t f g h (va_up τ 9 (cFi (τ 9) 0))) := by
  refine WR.of (by decide) (Nat.le_of_ble_eq_true rfl) (fun p e s m below meth c ls A S hr hlk hK hP hD hS hA hl => ?_)
  obtain ⟨hx, hb, hml, hown, hU⟩ := id S
  have hl : lv_has ls 5 [(0, .ref (t 0)), (1, .int x), (2, .int y), (3, .int z)] := hl
  refine lv_iload_n hx hb dX3_sheet_0 rfl (lv_at hl 2 rfl) ?_
  refine lv_if_eq (tgt := 22) hx hb dX3_sheet_1 (by decide) (fun c_1 => ?_) (fun c_1 => ?_)
  · refine lv_iconst (v := nI 1) hx hb dX3_sheet_22 (by decide) ?_
    refine lv_goto (tgt := 27) hx hb dX3_sheet_23 (by decide) ?_
    refine lv_istore (lv' := [(4, .int (nI 1)), (0, .ref (t 0)), (1, .int x), (2, .int y), (3, .int z)]) hx hb dX3_sheet_27 hl (by decide) rfl (fun ls hl => ?_)
    refine lv_iload_n hx hb dX3_sheet_29 rfl (lv_at hl 2 rfl) ?_
    refine lv_iconst (v := nI 3) hx hb dX3_sheet_30 (by decide) ?_
    refine RO.callS S ks_X3_44 (c_X3_isWithin l D cI cJ t f g h τ x (nI 3)) hK hP ⟨Nat.le_of_ble_eq_true rfl, Nat.le_of_ble_eq_true rfl⟩ hl.1 rfl rfl (Nat.le_of_ble_eq_true rfl) (Nat.zero_le _) (Nat.zero_le _) dX3_sheet_31 ?_
    refine q_if_eqB (tgt := 42) hx hb dX3_sheet_34 (by decide) (fun c_34 => ?_) (fun c_34 => ?_)
    · refine lv_aload_n hx hb dX3_sheet_42 rfl (lv_at hl 1 rfl) ?_
      refine lv_iconst (v := nI 0) hx hb dX3_sheet_43 (by decide) ?_
      refine WR.callV (w1 := TW cI cJ t f g h (va_up τ 9 (cFi (τ 9) 0))) S kv_X3_48 (c_X3_fd0 l D cI cJ t f g h τ) hK hP hD hS hA ([]) ([]) (List.append_nil _).symm (List.append_nil _).symm TW_fst rfl ⟨Nat.le_of_ble_eq_true rfl, Nat.le_of_ble_eq_true rfl⟩ hl.1 rfl rfl (Nat.le_of_ble_eq_true rfl) (Nat.zero_le _) (Nat.zero_le _) dX3_sheet_44 (fun H locs hP hD hS => ?_)
      exact WR.iret S hr hlk hP hS (rfl) rfl dX3_sheet_47
    · exact absurd (⟨c_34, Or.inl c_1⟩) hb0
  · refine lv_iload_n hx hb dX3_sheet_4 rfl (lv_at hl 2 rfl) ?_
    refine lv_bipush (v := nI 8) hx hb dX3_sheet_5 (by decide) ?_
    refine lv_icmp_eq (tgt := 22) hx hb dX3_sheet_7 (by decide) (fun c_7 => ?_) (fun c_7 => ?_)
    · refine lv_iconst (v := nI 1) hx hb dX3_sheet_22 (by decide) ?_
      refine lv_goto (tgt := 27) hx hb dX3_sheet_23 (by decide) ?_
      refine lv_istore (lv' := [(4, .int (nI 1)), (0, .ref (t 0)), (1, .int x), (2, .int y), (3, .int z)]) hx hb dX3_sheet_27 hl (by decide) rfl (fun ls hl => ?_)
      refine lv_iload_n hx hb dX3_sheet_29 rfl (lv_at hl 2 rfl) ?_
      refine lv_iconst (v := nI 3) hx hb dX3_sheet_30 (by decide) ?_
      refine RO.callS S ks_X3_44 (c_X3_isWithin l D cI cJ t f g h τ x (nI 3)) hK hP ⟨Nat.le_of_ble_eq_true rfl, Nat.le_of_ble_eq_true rfl⟩ hl.1 rfl rfl (Nat.le_of_ble_eq_true rfl) (Nat.zero_le _) (Nat.zero_le _) dX3_sheet_31 ?_
      refine q_if_eqB (tgt := 42) hx hb dX3_sheet_34 (by decide) (fun c_34 => ?_) (fun c_34 => ?_)
      · refine lv_aload_n hx hb dX3_sheet_42 rfl (lv_at hl 1 rfl) ?_
        refine lv_iconst (v := nI 0) hx hb dX3_sheet_43 (by decide) ?_
        refine WR.callV (w1 := TW cI cJ t f g h (va_up τ 9 (cFi (τ 9) 0))) S kv_X3_48 (c_X3_fd0 l D cI cJ t f g h τ) hK hP hD hS hA ([]) ([]) (List.append_nil _).symm (List.append_nil _).symm TW_fst rfl ⟨Nat.le_of_ble_eq_true rfl, Nat.le_of_ble_eq_true rfl⟩ hl.1 rfl rfl (Nat.le_of_ble_eq_true rfl) (Nat.zero_le _) (Nat.zero_le _) dX3_sheet_44 (fun H locs hP hD hS => ?_)
        exact WR.iret S hr hlk hP hS (rfl) rfl dX3_sheet_47
      · exact absurd (⟨c_34, Or.inr (Or.inl c_7)⟩) hb0
    · refine lv_iload_n hx hb dX3_sheet_10 rfl (lv_at hl 2 rfl) ?_
      refine lv_bipush (v := nI 16) hx hb dX3_sheet_11 (by decide) ?_
      refine lv_icmp_eq (tgt := 22) hx hb dX3_sheet_13 (by decide) (fun c_13 => ?_) (fun c_13 => ?_)
      · refine lv_iconst (v := nI 1) hx hb dX3_sheet_22 (by decide) ?_
        refine lv_goto (tgt := 27) hx hb dX3_sheet_23 (by decide) ?_
        refine lv_istore (lv' := [(4, .int (nI 1)), (0, .ref (t 0)), (1, .int x), (2, .int y), (3, .int z)]) hx hb dX3_sheet_27 hl (by decide) rfl (fun ls hl => ?_)
        refine lv_iload_n hx hb dX3_sheet_29 rfl (lv_at hl 2 rfl) ?_
        refine lv_iconst (v := nI 3) hx hb dX3_sheet_30 (by decide) ?_
        refine RO.callS S ks_X3_44 (c_X3_isWithin l D cI cJ t f g h τ x (nI 3)) hK hP ⟨Nat.le_of_ble_eq_true rfl, Nat.le_of_ble_eq_true rfl⟩ hl.1 rfl rfl (Nat.le_of_ble_eq_true rfl) (Nat.zero_le _) (Nat.zero_le _) dX3_sheet_31 ?_
        refine q_if_eqB (tgt := 42) hx hb dX3_sheet_34 (by decide) (fun c_34 => ?_) (fun c_34 => ?_)
        · refine lv_aload_n hx hb dX3_sheet_42 rfl (lv_at hl 1 rfl) ?_
          refine lv_iconst (v := nI 0) hx hb dX3_sheet_43 (by decide) ?_
          refine WR.callV (w1 := TW cI cJ t f g h (va_up τ 9 (cFi (τ 9) 0))) S kv_X3_48 (c_X3_fd0 l D cI cJ t f g h τ) hK hP hD hS hA ([]) ([]) (List.append_nil _).symm (List.append_nil _).symm TW_fst rfl ⟨Nat.le_of_ble_eq_true rfl, Nat.le_of_ble_eq_true rfl⟩ hl.1 rfl rfl (Nat.le_of_ble_eq_true rfl) (Nat.zero_le _) (Nat.zero_le _) dX3_sheet_44 (fun H locs hP hD hS => ?_)
          exact WR.iret S hr hlk hP hS (rfl) rfl dX3_sheet_47
        · exact absurd (⟨c_34, Or.inr (Or.inr (Or.inl c_13))⟩) hb0
      · refine lv_iload_n hx hb dX3_sheet_16 rfl (lv_at hl 2 rfl) ?_
        refine lv_bipush (v := nI 32) hx hb dX3_sheet_17 (by decide) ?_
        refine lv_icmp_ne (tgt := 26) hx hb dX3_sheet_19 (by decide) (fun c_19 => ?_) (fun c_19 => ?_)
        · refine lv_iconst (v := nI 0) hx hb dX3_sheet_26 (by decide) ?_
          refine lv_istore (lv' := [(4, .int (nI 0)), (0, .ref (t 0)), (1, .int x), (2, .int y), (3, .int z)]) hx hb dX3_sheet_27 hl (by decide) rfl (fun ls hl => ?_)
          refine lv_iload_n hx hb dX3_sheet_29 rfl (lv_at hl 2 rfl) ?_
          refine lv_iconst (v := nI 3) hx hb dX3_sheet_30 (by decide) ?_
          refine RO.callS S ks_X3_44 (c_X3_isWithin l D cI cJ t f g h τ x (nI 3)) hK hP ⟨Nat.le_of_ble_eq_true rfl, Nat.le_of_ble_eq_true rfl⟩ hl.1 rfl rfl (Nat.le_of_ble_eq_true rfl) (Nat.zero_le _) (Nat.zero_le _) dX3_sheet_31 ?_
          refine q_if_eqB (tgt := 42) hx hb dX3_sheet_34 (by decide) (fun c_34 => ?_) (fun c_34 => ?_)
          · refine lv_aload_n hx hb dX3_sheet_42 rfl (lv_at hl 1 rfl) ?_
            refine lv_iconst (v := nI 0) hx hb dX3_sheet_43 (by decide) ?_
            refine WR.callV (w1 := TW cI cJ t f g h (va_up τ 9 (cFi (τ 9) 0))) S kv_X3_48 (c_X3_fd0 l D cI cJ t f g h τ) hK hP hD hS hA ([]) ([]) (List.append_nil _).symm (List.append_nil _).symm TW_fst rfl ⟨Nat.le_of_ble_eq_true rfl, Nat.le_of_ble_eq_true rfl⟩ hl.1 rfl rfl (Nat.le_of_ble_eq_true rfl) (Nat.zero_le _) (Nat.zero_le _) dX3_sheet_44 (fun H locs hP hD hS => ?_)
            exact WR.iret S hr hlk hP hS (rfl) rfl dX3_sheet_47
          · refine lv_iload hx hb dX3_sheet_37 (lv_at hl 0 rfl) ?_
            refine q_if_neN (tgt := 48) (a := 0) hx hb dX3_sheet_39 (by decide) (by omega) (fun h => absurd h (by omega)) (fun _ => ?_)
            refine lv_aload_n hx hb dX3_sheet_42 rfl (lv_at hl 1 rfl) ?_
            refine lv_iconst (v := nI 0) hx hb dX3_sheet_43 (by decide) ?_
            refine WR.callV (w1 := TW cI cJ t f g h (va_up τ 9 (cFi (τ 9) 0))) S kv_X3_48 (c_X3_fd0 l D cI cJ t f g h τ) hK hP hD hS hA ([]) ([]) (List.append_nil _).symm (List.append_nil _).symm TW_fst rfl ⟨Nat.le_of_ble_eq_true rfl, Nat.le_of_ble_eq_true rfl⟩ hl.1 rfl rfl (Nat.le_of_ble_eq_true rfl) (Nat.zero_le _) (Nat.zero_le _) dX3_sheet_44 (fun H locs hP hD hS => ?_)
            exact WR.iret S hr hlk hP hS (rfl) rfl dX3_sheet_47
        · refine lv_iconst (v := nI 1) hx hb dX3_sheet_22 (by decide) ?_
          refine lv_goto (tgt := 27) hx hb dX3_sheet_23 (by decide) ?_
          refine lv_istore (lv' := [(4, .int (nI 1)), (0, .ref (t 0)), (1, .int x), (2, .int y), (3, .int z)]) hx hb dX3_sheet_27 hl (by decide) rfl (fun ls hl => ?_)
          refine lv_iload_n hx hb dX3_sheet_29 rfl (lv_at hl 2 rfl) ?_
          refine lv_iconst (v := nI 3) hx hb dX3_sheet_30 (by decide) ?_
          refine RO.callS S ks_X3_44 (c_X3_isWithin l D cI cJ t f g h τ x (nI 3)) hK hP ⟨Nat.le_of_ble_eq_true rfl, Nat.le_of_ble_eq_true rfl⟩ hl.1 rfl rfl (Nat.le_of_ble_eq_true rfl) (Nat.zero_le _) (Nat.zero_le _) dX3_sheet_31 ?_
          refine q_if_eqB (tgt := 42) hx hb dX3_sheet_34 (by decide) (fun c_34 => ?_) (fun c_34 => ?_)
          · refine lv_aload_n hx hb dX3_sheet_42 rfl (lv_at hl 1 rfl) ?_
            refine lv_iconst (v := nI 0) hx hb dX3_sheet_43 (by decide) ?_
            refine WR.callV (w1 := TW cI cJ t f g h (va_up τ 9 (cFi (τ 9) 0))) S kv_X3_48 (c_X3_fd0 l D cI cJ t f g h τ) hK hP hD hS hA ([]) ([]) (List.append_nil _).symm (List.append_nil _).symm TW_fst rfl ⟨Nat.le_of_ble_eq_true rfl, Nat.le_of_ble_eq_true rfl⟩ hl.1 rfl rfl (Nat.le_of_ble_eq_true rfl) (Nat.zero_le _) (Nat.zero_le _) dX3_sheet_44 (fun H locs hP hD hS => ?_)
            exact WR.iret S hr hlk hP hS (rfl) rfl dX3_sheet_47
          · exact absurd (⟨c_34, Or.inr (Or.inr (Or.inr c_19))⟩) hb0
set_option maxRecDepth 100000 in
set_option maxHeartbeats 4000000 in
theorem c_X3_sheet_size0 (l : Launch) (D : va_G) (cI cJ : ClassId) (t : Nat → Nat) (f g h : Nat → Int32) (τ : Nat → Nat → Int32) (sh : Nat) (hsh : sh < 4) (z : Int32) (hz : z < 0) : WR l yX3_sheet cX3_sheet 5 (some .int) 1 D cI cJ (TW cI cJ t f g h τ) [.ref (t 0), .int (nI sh), .int (nI 0), .int z] (some (.int (-1000007))) (TW cI cJ t f g h (va_up τ 9 (cFi (τ 9) 6))) := by
  refine WR.of (by decide) (Nat.le_of_ble_eq_true rfl) (fun p e s m below meth c ls A S hr hlk hK hP hD hS hA hl => ?_)
  obtain ⟨hx, hb, hml, hown, hU⟩ := id S
  have hl : lv_has ls 5 [(0, .ref (t 0)), (1, .int (nI sh)), (2, .int (nI 0)), (3, .int z)] := hl
  refine lv_iload_n hx hb dX3_sheet_0 rfl (lv_at hl 2 rfl) ?_
  refine q_if_eqN (tgt := 22) (a := 0) hx hb dX3_sheet_1 (by decide) (by omega) (fun _ => ?_) (fun h => absurd h (by omega))
  refine lv_iconst (v := nI 1) hx hb dX3_sheet_22 (by decide) ?_
  refine lv_goto (tgt := 27) hx hb dX3_sheet_23 (by decide) ?_
  refine lv_istore (lv' := [(4, .int (nI 1)), (0, .ref (t 0)), (1, .int (nI sh)), (2, .int (nI 0)), (3, .int z)]) hx hb dX3_sheet_27 hl (by decide) rfl (fun ls hl => ?_)
  refine lv_iload_n hx hb dX3_sheet_29 rfl (lv_at hl 2 rfl) ?_
  refine lv_iconst (v := nI 3) hx hb dX3_sheet_30 (by decide) ?_
  refine RO.callS S ks_X3_44 (c_X3_isWithin l D cI cJ t f g h τ (nI sh) (nI 3)) hK hP ⟨Nat.le_of_ble_eq_true rfl, Nat.le_of_ble_eq_true rfl⟩ hl.1 rfl rfl (Nat.le_of_ble_eq_true rfl) (Nat.zero_le _) (Nat.zero_le _) dX3_sheet_31 ?_
  refine q_if_eqB (tgt := 42) hx hb dX3_sheet_34 (by decide) (fun h => absurd (⟨nI_le (by omega) (by omega), nI_le (by omega) (by omega)⟩) h) (fun _ => ?_)
  refine lv_iload hx hb dX3_sheet_37 (lv_at hl 0 rfl) ?_
  refine q_if_neN (tgt := 48) (a := 1) hx hb dX3_sheet_39 (by decide) (by omega) (fun _ => ?_) (fun h => absurd h (by omega))
  refine lv_iload_n hx hb dX3_sheet_48 rfl (lv_at hl 4 rfl) ?_
  refine lv_if_ge (tgt := 59) hx hb dX3_sheet_49 (by decide) (fun c_49 => ?_) (fun c_49 => ?_)
  · exact absurd hz (i32_not_lt_of_le c_49)
  · refine lv_aload_n hx hb dX3_sheet_52 rfl (lv_at hl 1 rfl) ?_
    refine lv_bipush (v := nI 6) hx hb dX3_sheet_53 (by decide) ?_
    refine WR.callV (w1 := TW cI cJ t f g h (va_up τ 9 (cFi (τ 9) 6))) S kv_X3_48 (c_X3_fd6 l D cI cJ t f g h τ) hK hP hD hS hA ([]) ([]) (List.append_nil _).symm (List.append_nil _).symm TW_fst rfl ⟨Nat.le_of_ble_eq_true rfl, Nat.le_of_ble_eq_true rfl⟩ hl.1 rfl rfl (Nat.le_of_ble_eq_true rfl) (Nat.zero_le _) (Nat.zero_le _) dX3_sheet_55 (fun H locs hP hD hS => ?_)
    exact WR.iret S hr hlk hP hS (rfl) rfl dX3_sheet_58
set_option maxRecDepth 100000 in
set_option maxHeartbeats 4000000 in
theorem c_X3_sheet_big0 (l : Launch) (D : va_G) (cI cJ : ClassId) (t : Nat → Nat) (f g h : Nat → Int32) (τ : Nat → Nat → Int32) (sh : Nat) (hsh : sh < 4) (z : Int32) (hz : nI 40 < z) : WR l yX3_sheet cX3_sheet 5 (some .int) 1 D cI cJ (TW cI cJ t f g h τ) [.ref (t 0), .int (nI sh), .int (nI 0), .int z] (some (.int (-1000001))) (TW cI cJ t f g h (va_up τ 9 (cFi (τ 9) 0))) := by
  refine WR.of (by decide) (Nat.le_of_ble_eq_true rfl) (fun p e s m below meth c ls A S hr hlk hK hP hD hS hA hl => ?_)
  obtain ⟨hx, hb, hml, hown, hU⟩ := id S
  have hl : lv_has ls 5 [(0, .ref (t 0)), (1, .int (nI sh)), (2, .int (nI 0)), (3, .int z)] := hl
  refine lv_iload_n hx hb dX3_sheet_0 rfl (lv_at hl 2 rfl) ?_
  refine q_if_eqN (tgt := 22) (a := 0) hx hb dX3_sheet_1 (by decide) (by omega) (fun _ => ?_) (fun h => absurd h (by omega))
  refine lv_iconst (v := nI 1) hx hb dX3_sheet_22 (by decide) ?_
  refine lv_goto (tgt := 27) hx hb dX3_sheet_23 (by decide) ?_
  refine lv_istore (lv' := [(4, .int (nI 1)), (0, .ref (t 0)), (1, .int (nI sh)), (2, .int (nI 0)), (3, .int z)]) hx hb dX3_sheet_27 hl (by decide) rfl (fun ls hl => ?_)
  refine lv_iload_n hx hb dX3_sheet_29 rfl (lv_at hl 2 rfl) ?_
  refine lv_iconst (v := nI 3) hx hb dX3_sheet_30 (by decide) ?_
  refine RO.callS S ks_X3_44 (c_X3_isWithin l D cI cJ t f g h τ (nI sh) (nI 3)) hK hP ⟨Nat.le_of_ble_eq_true rfl, Nat.le_of_ble_eq_true rfl⟩ hl.1 rfl rfl (Nat.le_of_ble_eq_true rfl) (Nat.zero_le _) (Nat.zero_le _) dX3_sheet_31 ?_
  refine q_if_eqB (tgt := 42) hx hb dX3_sheet_34 (by decide) (fun h => absurd (⟨nI_le (by omega) (by omega), nI_le (by omega) (by omega)⟩) h) (fun _ => ?_)
  refine lv_iload hx hb dX3_sheet_37 (lv_at hl 0 rfl) ?_
  refine q_if_neN (tgt := 48) (a := 1) hx hb dX3_sheet_39 (by decide) (by omega) (fun _ => ?_) (fun h => absurd h (by omega))
  refine lv_iload_n hx hb dX3_sheet_48 rfl (lv_at hl 4 rfl) ?_
  refine lv_if_ge (tgt := 59) hx hb dX3_sheet_49 (by decide) (fun c_49 => ?_) (fun c_49 => ?_)
  · refine lv_iload_n hx hb dX3_sheet_59 rfl (lv_at hl 4 rfl) ?_
    refine lv_bipush (v := nI 40) hx hb dX3_sheet_60 (by decide) ?_
    refine lv_icmp_le (tgt := 71) hx hb dX3_sheet_62 (by decide) (fun c_62 => ?_) (fun c_62 => ?_)
    · exact absurd hz (i32_not_lt_of_le c_62)
    · refine lv_aload_n hx hb dX3_sheet_65 rfl (lv_at hl 1 rfl) ?_
      refine lv_iconst (v := nI 0) hx hb dX3_sheet_66 (by decide) ?_
      refine WR.callV (w1 := TW cI cJ t f g h (va_up τ 9 (cFi (τ 9) 0))) S kv_X3_48 (c_X3_fd0 l D cI cJ t f g h τ) hK hP hD hS hA ([]) ([]) (List.append_nil _).symm (List.append_nil _).symm TW_fst rfl ⟨Nat.le_of_ble_eq_true rfl, Nat.le_of_ble_eq_true rfl⟩ hl.1 rfl rfl (Nat.le_of_ble_eq_true rfl) (Nat.zero_le _) (Nat.zero_le _) dX3_sheet_67 (fun H locs hP hD hS => ?_)
      exact WR.iret S hr hlk hP hS (rfl) rfl dX3_sheet_70
  · exact absurd (i32_pos40 hz) (i32_not_le_of_lt (i32_lt_of_not_le c_49))
set_option maxRecDepth 100000 in
set_option maxHeartbeats 4000000 in
theorem c_X3_sheet_ok0 (l : Launch) (D : va_G) (cI cJ : ClassId) (t : Nat → Nat) (f g h : Nat → Int32) (τ : Nat → Nat → Int32) (sh : Nat) (hsh : sh < 4) (q : Nat) (hq : q ≤ 40) : WR l yX3_sheet cX3_sheet 5 (some .int) 1 D cI cJ (TW cI cJ t f g h τ) [.ref (t 0), .int (nI sh), .int (nI 0), .int (nI q)] (some (.int (nI 0))) (TW cI cJ t f g h (va_up (va_up (va_up τ 2 (upd (τ 2) sh (nI 0))) 3 (upd (τ 3) sh (nI 0))) 4 (zrw (τ 4) sh 40))) := by
  refine WR.of (by decide) (Nat.le_of_ble_eq_true rfl) (fun p e s m below meth c ls A S hr hlk hK hP hD hS hA hl => ?_)
  obtain ⟨hx, hb, hml, hown, hU⟩ := id S
  have hl : lv_has ls 5 [(0, .ref (t 0)), (1, .int (nI sh)), (2, .int (nI 0)), (3, .int (nI q))] := hl
  refine lv_iload_n hx hb dX3_sheet_0 rfl (lv_at hl 2 rfl) ?_
  refine q_if_eqN (tgt := 22) (a := 0) hx hb dX3_sheet_1 (by decide) (by omega) (fun _ => ?_) (fun h => absurd h (by omega))
  refine lv_iconst (v := nI 1) hx hb dX3_sheet_22 (by decide) ?_
  refine lv_goto (tgt := 27) hx hb dX3_sheet_23 (by decide) ?_
  refine lv_istore (lv' := [(4, .int (nI 1)), (0, .ref (t 0)), (1, .int (nI sh)), (2, .int (nI 0)), (3, .int (nI q))]) hx hb dX3_sheet_27 hl (by decide) rfl (fun ls hl => ?_)
  refine lv_iload_n hx hb dX3_sheet_29 rfl (lv_at hl 2 rfl) ?_
  refine lv_iconst (v := nI 3) hx hb dX3_sheet_30 (by decide) ?_
  refine RO.callS S ks_X3_44 (c_X3_isWithin l D cI cJ t f g h τ (nI sh) (nI 3)) hK hP ⟨Nat.le_of_ble_eq_true rfl, Nat.le_of_ble_eq_true rfl⟩ hl.1 rfl rfl (Nat.le_of_ble_eq_true rfl) (Nat.zero_le _) (Nat.zero_le _) dX3_sheet_31 ?_
  refine q_if_eqB (tgt := 42) hx hb dX3_sheet_34 (by decide) (fun h => absurd (⟨nI_le (by omega) (by omega), nI_le (by omega) (by omega)⟩) h) (fun _ => ?_)
  refine lv_iload hx hb dX3_sheet_37 (lv_at hl 0 rfl) ?_
  refine q_if_neN (tgt := 48) (a := 1) hx hb dX3_sheet_39 (by decide) (by omega) (fun _ => ?_) (fun h => absurd h (by omega))
  refine lv_iload_n hx hb dX3_sheet_48 rfl (lv_at hl 4 rfl) ?_
  refine q_if_geN (tgt := 59) (a := q) hx hb dX3_sheet_49 (by decide) (by omega) ?_
  refine lv_iload_n hx hb dX3_sheet_59 rfl (lv_at hl 4 rfl) ?_
  refine lv_bipush (v := nI 40) hx hb dX3_sheet_60 (by decide) ?_
  refine q_icmp_leN (tgt := 71) (a := q) (b := 40) hx hb dX3_sheet_62 (by decide) (by omega) (by omega) (fun _ => ?_) (fun h => absurd h (by omega))
  refine lv_aload_n hx hb dX3_sheet_71 rfl (lv_at hl 1 rfl) ?_
  refine g3_sheets S hK hP dX3_sheet_72 ?_
  refine lv_iload_n hx hb dX3_sheet_75 rfl (lv_at hl 2 rfl) ?_
  refine lv_iload_n hx hb dX3_sheet_76 rfl (lv_at hl 3 rfl) ?_
  refine lv_iload_n hx hb dX3_sheet_77 rfl (lv_at hl 4 rfl) ?_
  refine WR.callV (w1 := TW cI cJ t f g h (va_up (va_up (va_up τ 2 (upd (τ 2) sh (nI 0))) 3 (upd (τ 3) sh (nI 0))) 4 (zrw (τ 4) sh 40))) S kv_X3_191 (c_X1_makeNew_w0 l D cI cJ (sf t 36) τ sh (by omega) q (by omega)) hK hP hD hS hA (_) (_) TW_s5 TW_s5 SH_fst rfl ⟨Nat.le_of_ble_eq_true rfl, Nat.le_of_ble_eq_true rfl⟩ hl.1 rfl rfl (Nat.le_of_ble_eq_true rfl) (Nat.zero_le _) (Nat.zero_le _) dX3_sheet_78 (fun H locs hP hD hS => ?_)
  refine W.eq (g2 := F0 m 81 ls []) rfl ?_
  refine lv_aload_n hx hb dX3_sheet_81 rfl (lv_at hl 1 rfl) ?_
  refine g3_sheets S hK hP dX3_sheet_82 ?_
  refine g31_sizes S hK (TW_sheets hP) dX3_sheet_85 ?_
  refine lv_iload_n hx hb dX3_sheet_88 rfl (lv_at hl 2 rfl) ?_
  refine l1_sizes S hK (TW_sheets hP) (j := sh) (by omega) dX3_sheet_89 ?_
  exact WR.iret S hr hlk hP hS (rfl) (congrArg (fun z => some (Value.int z)) ((upd_at (f := τ 3)).symm)) dX3_sheet_90
set_option maxRecDepth 100000 in
set_option maxHeartbeats 4000000 in
theorem c_X3_sheet_size8 (l : Launch) (D : va_G) (cI cJ : ClassId) (t : Nat → Nat) (f g h : Nat → Int32) (τ : Nat → Nat → Int32) (sh : Nat) (hsh : sh < 4) (z : Int32) (hz : z < 0) : WR l yX3_sheet cX3_sheet 5 (some .int) 1 D cI cJ (TW cI cJ t f g h τ) [.ref (t 0), .int (nI sh), .int (nI 8), .int z] (some (.int (-1000007))) (TW cI cJ t f g h (va_up τ 9 (cFi (τ 9) 6))) := by
  refine WR.of (by decide) (Nat.le_of_ble_eq_true rfl) (fun p e s m below meth c ls A S hr hlk hK hP hD hS hA hl => ?_)
  obtain ⟨hx, hb, hml, hown, hU⟩ := id S
  have hl : lv_has ls 5 [(0, .ref (t 0)), (1, .int (nI sh)), (2, .int (nI 8)), (3, .int z)] := hl
  refine lv_iload_n hx hb dX3_sheet_0 rfl (lv_at hl 2 rfl) ?_
  refine q_if_eqN (tgt := 22) (a := 8) hx hb dX3_sheet_1 (by decide) (by omega) (fun h => absurd h (by omega)) (fun _ => ?_)
  refine lv_iload_n hx hb dX3_sheet_4 rfl (lv_at hl 2 rfl) ?_
  refine lv_bipush (v := nI 8) hx hb dX3_sheet_5 (by decide) ?_
  refine q_icmp_eqN (tgt := 22) (a := 8) (b := 8) hx hb dX3_sheet_7 (by decide) (by omega) (by omega) (fun _ => ?_) (fun h => absurd h (by omega))
  refine lv_iconst (v := nI 1) hx hb dX3_sheet_22 (by decide) ?_
  refine lv_goto (tgt := 27) hx hb dX3_sheet_23 (by decide) ?_
  refine lv_istore (lv' := [(4, .int (nI 1)), (0, .ref (t 0)), (1, .int (nI sh)), (2, .int (nI 8)), (3, .int z)]) hx hb dX3_sheet_27 hl (by decide) rfl (fun ls hl => ?_)
  refine lv_iload_n hx hb dX3_sheet_29 rfl (lv_at hl 2 rfl) ?_
  refine lv_iconst (v := nI 3) hx hb dX3_sheet_30 (by decide) ?_
  refine RO.callS S ks_X3_44 (c_X3_isWithin l D cI cJ t f g h τ (nI sh) (nI 3)) hK hP ⟨Nat.le_of_ble_eq_true rfl, Nat.le_of_ble_eq_true rfl⟩ hl.1 rfl rfl (Nat.le_of_ble_eq_true rfl) (Nat.zero_le _) (Nat.zero_le _) dX3_sheet_31 ?_
  refine q_if_eqB (tgt := 42) hx hb dX3_sheet_34 (by decide) (fun h => absurd (⟨nI_le (by omega) (by omega), nI_le (by omega) (by omega)⟩) h) (fun _ => ?_)
  refine lv_iload hx hb dX3_sheet_37 (lv_at hl 0 rfl) ?_
  refine q_if_neN (tgt := 48) (a := 1) hx hb dX3_sheet_39 (by decide) (by omega) (fun _ => ?_) (fun h => absurd h (by omega))
  refine lv_iload_n hx hb dX3_sheet_48 rfl (lv_at hl 4 rfl) ?_
  refine lv_if_ge (tgt := 59) hx hb dX3_sheet_49 (by decide) (fun c_49 => ?_) (fun c_49 => ?_)
  · exact absurd hz (i32_not_lt_of_le c_49)
  · refine lv_aload_n hx hb dX3_sheet_52 rfl (lv_at hl 1 rfl) ?_
    refine lv_bipush (v := nI 6) hx hb dX3_sheet_53 (by decide) ?_
    refine WR.callV (w1 := TW cI cJ t f g h (va_up τ 9 (cFi (τ 9) 6))) S kv_X3_48 (c_X3_fd6 l D cI cJ t f g h τ) hK hP hD hS hA ([]) ([]) (List.append_nil _).symm (List.append_nil _).symm TW_fst rfl ⟨Nat.le_of_ble_eq_true rfl, Nat.le_of_ble_eq_true rfl⟩ hl.1 rfl rfl (Nat.le_of_ble_eq_true rfl) (Nat.zero_le _) (Nat.zero_le _) dX3_sheet_55 (fun H locs hP hD hS => ?_)
    exact WR.iret S hr hlk hP hS (rfl) rfl dX3_sheet_58
set_option maxRecDepth 100000 in
set_option maxHeartbeats 4000000 in
theorem c_X3_sheet_big8 (l : Launch) (D : va_G) (cI cJ : ClassId) (t : Nat → Nat) (f g h : Nat → Int32) (τ : Nat → Nat → Int32) (sh : Nat) (hsh : sh < 4) (z : Int32) (hz : nI 40 < z) : WR l yX3_sheet cX3_sheet 5 (some .int) 1 D cI cJ (TW cI cJ t f g h τ) [.ref (t 0), .int (nI sh), .int (nI 8), .int z] (some (.int (-1000001))) (TW cI cJ t f g h (va_up τ 9 (cFi (τ 9) 0))) := by
  refine WR.of (by decide) (Nat.le_of_ble_eq_true rfl) (fun p e s m below meth c ls A S hr hlk hK hP hD hS hA hl => ?_)
  obtain ⟨hx, hb, hml, hown, hU⟩ := id S
  have hl : lv_has ls 5 [(0, .ref (t 0)), (1, .int (nI sh)), (2, .int (nI 8)), (3, .int z)] := hl
  refine lv_iload_n hx hb dX3_sheet_0 rfl (lv_at hl 2 rfl) ?_
  refine q_if_eqN (tgt := 22) (a := 8) hx hb dX3_sheet_1 (by decide) (by omega) (fun h => absurd h (by omega)) (fun _ => ?_)
  refine lv_iload_n hx hb dX3_sheet_4 rfl (lv_at hl 2 rfl) ?_
  refine lv_bipush (v := nI 8) hx hb dX3_sheet_5 (by decide) ?_
  refine q_icmp_eqN (tgt := 22) (a := 8) (b := 8) hx hb dX3_sheet_7 (by decide) (by omega) (by omega) (fun _ => ?_) (fun h => absurd h (by omega))
  refine lv_iconst (v := nI 1) hx hb dX3_sheet_22 (by decide) ?_
  refine lv_goto (tgt := 27) hx hb dX3_sheet_23 (by decide) ?_
  refine lv_istore (lv' := [(4, .int (nI 1)), (0, .ref (t 0)), (1, .int (nI sh)), (2, .int (nI 8)), (3, .int z)]) hx hb dX3_sheet_27 hl (by decide) rfl (fun ls hl => ?_)
  refine lv_iload_n hx hb dX3_sheet_29 rfl (lv_at hl 2 rfl) ?_
  refine lv_iconst (v := nI 3) hx hb dX3_sheet_30 (by decide) ?_
  refine RO.callS S ks_X3_44 (c_X3_isWithin l D cI cJ t f g h τ (nI sh) (nI 3)) hK hP ⟨Nat.le_of_ble_eq_true rfl, Nat.le_of_ble_eq_true rfl⟩ hl.1 rfl rfl (Nat.le_of_ble_eq_true rfl) (Nat.zero_le _) (Nat.zero_le _) dX3_sheet_31 ?_
  refine q_if_eqB (tgt := 42) hx hb dX3_sheet_34 (by decide) (fun h => absurd (⟨nI_le (by omega) (by omega), nI_le (by omega) (by omega)⟩) h) (fun _ => ?_)
  refine lv_iload hx hb dX3_sheet_37 (lv_at hl 0 rfl) ?_
  refine q_if_neN (tgt := 48) (a := 1) hx hb dX3_sheet_39 (by decide) (by omega) (fun _ => ?_) (fun h => absurd h (by omega))
  refine lv_iload_n hx hb dX3_sheet_48 rfl (lv_at hl 4 rfl) ?_
  refine lv_if_ge (tgt := 59) hx hb dX3_sheet_49 (by decide) (fun c_49 => ?_) (fun c_49 => ?_)
  · refine lv_iload_n hx hb dX3_sheet_59 rfl (lv_at hl 4 rfl) ?_
    refine lv_bipush (v := nI 40) hx hb dX3_sheet_60 (by decide) ?_
    refine lv_icmp_le (tgt := 71) hx hb dX3_sheet_62 (by decide) (fun c_62 => ?_) (fun c_62 => ?_)
    · exact absurd hz (i32_not_lt_of_le c_62)
    · refine lv_aload_n hx hb dX3_sheet_65 rfl (lv_at hl 1 rfl) ?_
      refine lv_iconst (v := nI 0) hx hb dX3_sheet_66 (by decide) ?_
      refine WR.callV (w1 := TW cI cJ t f g h (va_up τ 9 (cFi (τ 9) 0))) S kv_X3_48 (c_X3_fd0 l D cI cJ t f g h τ) hK hP hD hS hA ([]) ([]) (List.append_nil _).symm (List.append_nil _).symm TW_fst rfl ⟨Nat.le_of_ble_eq_true rfl, Nat.le_of_ble_eq_true rfl⟩ hl.1 rfl rfl (Nat.le_of_ble_eq_true rfl) (Nat.zero_le _) (Nat.zero_le _) dX3_sheet_67 (fun H locs hP hD hS => ?_)
      exact WR.iret S hr hlk hP hS (rfl) rfl dX3_sheet_70
  · exact absurd (i32_pos40 hz) (i32_not_le_of_lt (i32_lt_of_not_le c_49))
set_option maxRecDepth 100000 in
set_option maxHeartbeats 4000000 in
theorem c_X3_sheet_ok8 (l : Launch) (D : va_G) (cI cJ : ClassId) (t : Nat → Nat) (f g h : Nat → Int32) (τ : Nat → Nat → Int32) (sh : Nat) (hsh : sh < 4) (q : Nat) (hq : q ≤ 40) : WR l yX3_sheet cX3_sheet 5 (some .int) 1 D cI cJ (TW cI cJ t f g h τ) [.ref (t 0), .int (nI sh), .int (nI 8), .int (nI q)] (some (.int (nI q))) (TW cI cJ t f g h (va_up (va_up (va_up τ 2 (upd (τ 2) sh (nI 8))) 3 (upd (τ 3) sh (nI q))) 4 (zrw (τ 4) sh 40))) := by
  refine WR.of (by decide) (Nat.le_of_ble_eq_true rfl) (fun p e s m below meth c ls A S hr hlk hK hP hD hS hA hl => ?_)
  obtain ⟨hx, hb, hml, hown, hU⟩ := id S
  have hl : lv_has ls 5 [(0, .ref (t 0)), (1, .int (nI sh)), (2, .int (nI 8)), (3, .int (nI q))] := hl
  refine lv_iload_n hx hb dX3_sheet_0 rfl (lv_at hl 2 rfl) ?_
  refine q_if_eqN (tgt := 22) (a := 8) hx hb dX3_sheet_1 (by decide) (by omega) (fun h => absurd h (by omega)) (fun _ => ?_)
  refine lv_iload_n hx hb dX3_sheet_4 rfl (lv_at hl 2 rfl) ?_
  refine lv_bipush (v := nI 8) hx hb dX3_sheet_5 (by decide) ?_
  refine q_icmp_eqN (tgt := 22) (a := 8) (b := 8) hx hb dX3_sheet_7 (by decide) (by omega) (by omega) (fun _ => ?_) (fun h => absurd h (by omega))
  refine lv_iconst (v := nI 1) hx hb dX3_sheet_22 (by decide) ?_
  refine lv_goto (tgt := 27) hx hb dX3_sheet_23 (by decide) ?_
  refine lv_istore (lv' := [(4, .int (nI 1)), (0, .ref (t 0)), (1, .int (nI sh)), (2, .int (nI 8)), (3, .int (nI q))]) hx hb dX3_sheet_27 hl (by decide) rfl (fun ls hl => ?_)
  refine lv_iload_n hx hb dX3_sheet_29 rfl (lv_at hl 2 rfl) ?_
  refine lv_iconst (v := nI 3) hx hb dX3_sheet_30 (by decide) ?_
  refine RO.callS S ks_X3_44 (c_X3_isWithin l D cI cJ t f g h τ (nI sh) (nI 3)) hK hP ⟨Nat.le_of_ble_eq_true rfl, Nat.le_of_ble_eq_true rfl⟩ hl.1 rfl rfl (Nat.le_of_ble_eq_true rfl) (Nat.zero_le _) (Nat.zero_le _) dX3_sheet_31 ?_
  refine q_if_eqB (tgt := 42) hx hb dX3_sheet_34 (by decide) (fun h => absurd (⟨nI_le (by omega) (by omega), nI_le (by omega) (by omega)⟩) h) (fun _ => ?_)
  refine lv_iload hx hb dX3_sheet_37 (lv_at hl 0 rfl) ?_
  refine q_if_neN (tgt := 48) (a := 1) hx hb dX3_sheet_39 (by decide) (by omega) (fun _ => ?_) (fun h => absurd h (by omega))
  refine lv_iload_n hx hb dX3_sheet_48 rfl (lv_at hl 4 rfl) ?_
  refine q_if_geN (tgt := 59) (a := q) hx hb dX3_sheet_49 (by decide) (by omega) ?_
  refine lv_iload_n hx hb dX3_sheet_59 rfl (lv_at hl 4 rfl) ?_
  refine lv_bipush (v := nI 40) hx hb dX3_sheet_60 (by decide) ?_
  refine q_icmp_leN (tgt := 71) (a := q) (b := 40) hx hb dX3_sheet_62 (by decide) (by omega) (by omega) (fun _ => ?_) (fun h => absurd h (by omega))
  refine lv_aload_n hx hb dX3_sheet_71 rfl (lv_at hl 1 rfl) ?_
  refine g3_sheets S hK hP dX3_sheet_72 ?_
  refine lv_iload_n hx hb dX3_sheet_75 rfl (lv_at hl 2 rfl) ?_
  refine lv_iload_n hx hb dX3_sheet_76 rfl (lv_at hl 3 rfl) ?_
  refine lv_iload_n hx hb dX3_sheet_77 rfl (lv_at hl 4 rfl) ?_
  refine WR.callV (w1 := TW cI cJ t f g h (va_up (va_up (va_up τ 2 (upd (τ 2) sh (nI 8))) 3 (upd (τ 3) sh (nI q))) 4 (zrw (τ 4) sh 40))) S kv_X3_191 (c_X1_makeNew_w8 l D cI cJ (sf t 36) τ sh (by omega) q (by omega)) hK hP hD hS hA (_) (_) TW_s5 TW_s5 SH_fst rfl ⟨Nat.le_of_ble_eq_true rfl, Nat.le_of_ble_eq_true rfl⟩ hl.1 rfl rfl (Nat.le_of_ble_eq_true rfl) (Nat.zero_le _) (Nat.zero_le _) dX3_sheet_78 (fun H locs hP hD hS => ?_)
  refine W.eq (g2 := F0 m 81 ls []) rfl ?_
  refine lv_aload_n hx hb dX3_sheet_81 rfl (lv_at hl 1 rfl) ?_
  refine g3_sheets S hK hP dX3_sheet_82 ?_
  refine g31_sizes S hK (TW_sheets hP) dX3_sheet_85 ?_
  refine lv_iload_n hx hb dX3_sheet_88 rfl (lv_at hl 2 rfl) ?_
  refine l1_sizes S hK (TW_sheets hP) (j := sh) (by omega) dX3_sheet_89 ?_
  exact WR.iret S hr hlk hP hS (rfl) (congrArg (fun z => some (Value.int z)) ((upd_at (f := τ 3)).symm)) dX3_sheet_90
set_option maxRecDepth 100000 in
set_option maxHeartbeats 4000000 in
theorem c_X3_sheet_size16 (l : Launch) (D : va_G) (cI cJ : ClassId) (t : Nat → Nat) (f g h : Nat → Int32) (τ : Nat → Nat → Int32) (sh : Nat) (hsh : sh < 4) (z : Int32) (hz : z < 0) : WR l yX3_sheet cX3_sheet 5 (some .int) 1 D cI cJ (TW cI cJ t f g h τ) [.ref (t 0), .int (nI sh), .int (nI 16), .int z] (some (.int (-1000007))) (TW cI cJ t f g h (va_up τ 9 (cFi (τ 9) 6))) := by
  refine WR.of (by decide) (Nat.le_of_ble_eq_true rfl) (fun p e s m below meth c ls A S hr hlk hK hP hD hS hA hl => ?_)
  obtain ⟨hx, hb, hml, hown, hU⟩ := id S
  have hl : lv_has ls 5 [(0, .ref (t 0)), (1, .int (nI sh)), (2, .int (nI 16)), (3, .int z)] := hl
  refine lv_iload_n hx hb dX3_sheet_0 rfl (lv_at hl 2 rfl) ?_
  refine q_if_eqN (tgt := 22) (a := 16) hx hb dX3_sheet_1 (by decide) (by omega) (fun h => absurd h (by omega)) (fun _ => ?_)
  refine lv_iload_n hx hb dX3_sheet_4 rfl (lv_at hl 2 rfl) ?_
  refine lv_bipush (v := nI 8) hx hb dX3_sheet_5 (by decide) ?_
  refine q_icmp_eqN (tgt := 22) (a := 16) (b := 8) hx hb dX3_sheet_7 (by decide) (by omega) (by omega) (fun h => absurd h (by omega)) (fun _ => ?_)
  refine lv_iload_n hx hb dX3_sheet_10 rfl (lv_at hl 2 rfl) ?_
  refine lv_bipush (v := nI 16) hx hb dX3_sheet_11 (by decide) ?_
  refine q_icmp_eqN (tgt := 22) (a := 16) (b := 16) hx hb dX3_sheet_13 (by decide) (by omega) (by omega) (fun _ => ?_) (fun h => absurd h (by omega))
  refine lv_iconst (v := nI 1) hx hb dX3_sheet_22 (by decide) ?_
  refine lv_goto (tgt := 27) hx hb dX3_sheet_23 (by decide) ?_
  refine lv_istore (lv' := [(4, .int (nI 1)), (0, .ref (t 0)), (1, .int (nI sh)), (2, .int (nI 16)), (3, .int z)]) hx hb dX3_sheet_27 hl (by decide) rfl (fun ls hl => ?_)
  refine lv_iload_n hx hb dX3_sheet_29 rfl (lv_at hl 2 rfl) ?_
  refine lv_iconst (v := nI 3) hx hb dX3_sheet_30 (by decide) ?_
  refine RO.callS S ks_X3_44 (c_X3_isWithin l D cI cJ t f g h τ (nI sh) (nI 3)) hK hP ⟨Nat.le_of_ble_eq_true rfl, Nat.le_of_ble_eq_true rfl⟩ hl.1 rfl rfl (Nat.le_of_ble_eq_true rfl) (Nat.zero_le _) (Nat.zero_le _) dX3_sheet_31 ?_
  refine q_if_eqB (tgt := 42) hx hb dX3_sheet_34 (by decide) (fun h => absurd (⟨nI_le (by omega) (by omega), nI_le (by omega) (by omega)⟩) h) (fun _ => ?_)
  refine lv_iload hx hb dX3_sheet_37 (lv_at hl 0 rfl) ?_
  refine q_if_neN (tgt := 48) (a := 1) hx hb dX3_sheet_39 (by decide) (by omega) (fun _ => ?_) (fun h => absurd h (by omega))
  refine lv_iload_n hx hb dX3_sheet_48 rfl (lv_at hl 4 rfl) ?_
  refine lv_if_ge (tgt := 59) hx hb dX3_sheet_49 (by decide) (fun c_49 => ?_) (fun c_49 => ?_)
  · exact absurd hz (i32_not_lt_of_le c_49)
  · refine lv_aload_n hx hb dX3_sheet_52 rfl (lv_at hl 1 rfl) ?_
    refine lv_bipush (v := nI 6) hx hb dX3_sheet_53 (by decide) ?_
    refine WR.callV (w1 := TW cI cJ t f g h (va_up τ 9 (cFi (τ 9) 6))) S kv_X3_48 (c_X3_fd6 l D cI cJ t f g h τ) hK hP hD hS hA ([]) ([]) (List.append_nil _).symm (List.append_nil _).symm TW_fst rfl ⟨Nat.le_of_ble_eq_true rfl, Nat.le_of_ble_eq_true rfl⟩ hl.1 rfl rfl (Nat.le_of_ble_eq_true rfl) (Nat.zero_le _) (Nat.zero_le _) dX3_sheet_55 (fun H locs hP hD hS => ?_)
    exact WR.iret S hr hlk hP hS (rfl) rfl dX3_sheet_58
set_option maxRecDepth 100000 in
set_option maxHeartbeats 4000000 in
theorem c_X3_sheet_big16 (l : Launch) (D : va_G) (cI cJ : ClassId) (t : Nat → Nat) (f g h : Nat → Int32) (τ : Nat → Nat → Int32) (sh : Nat) (hsh : sh < 4) (z : Int32) (hz : nI 40 < z) : WR l yX3_sheet cX3_sheet 5 (some .int) 1 D cI cJ (TW cI cJ t f g h τ) [.ref (t 0), .int (nI sh), .int (nI 16), .int z] (some (.int (-1000001))) (TW cI cJ t f g h (va_up τ 9 (cFi (τ 9) 0))) := by
  refine WR.of (by decide) (Nat.le_of_ble_eq_true rfl) (fun p e s m below meth c ls A S hr hlk hK hP hD hS hA hl => ?_)
  obtain ⟨hx, hb, hml, hown, hU⟩ := id S
  have hl : lv_has ls 5 [(0, .ref (t 0)), (1, .int (nI sh)), (2, .int (nI 16)), (3, .int z)] := hl
  refine lv_iload_n hx hb dX3_sheet_0 rfl (lv_at hl 2 rfl) ?_
  refine q_if_eqN (tgt := 22) (a := 16) hx hb dX3_sheet_1 (by decide) (by omega) (fun h => absurd h (by omega)) (fun _ => ?_)
  refine lv_iload_n hx hb dX3_sheet_4 rfl (lv_at hl 2 rfl) ?_
  refine lv_bipush (v := nI 8) hx hb dX3_sheet_5 (by decide) ?_
  refine q_icmp_eqN (tgt := 22) (a := 16) (b := 8) hx hb dX3_sheet_7 (by decide) (by omega) (by omega) (fun h => absurd h (by omega)) (fun _ => ?_)
  refine lv_iload_n hx hb dX3_sheet_10 rfl (lv_at hl 2 rfl) ?_
  refine lv_bipush (v := nI 16) hx hb dX3_sheet_11 (by decide) ?_
  refine q_icmp_eqN (tgt := 22) (a := 16) (b := 16) hx hb dX3_sheet_13 (by decide) (by omega) (by omega) (fun _ => ?_) (fun h => absurd h (by omega))
  refine lv_iconst (v := nI 1) hx hb dX3_sheet_22 (by decide) ?_
  refine lv_goto (tgt := 27) hx hb dX3_sheet_23 (by decide) ?_
  refine lv_istore (lv' := [(4, .int (nI 1)), (0, .ref (t 0)), (1, .int (nI sh)), (2, .int (nI 16)), (3, .int z)]) hx hb dX3_sheet_27 hl (by decide) rfl (fun ls hl => ?_)
  refine lv_iload_n hx hb dX3_sheet_29 rfl (lv_at hl 2 rfl) ?_
  refine lv_iconst (v := nI 3) hx hb dX3_sheet_30 (by decide) ?_
  refine RO.callS S ks_X3_44 (c_X3_isWithin l D cI cJ t f g h τ (nI sh) (nI 3)) hK hP ⟨Nat.le_of_ble_eq_true rfl, Nat.le_of_ble_eq_true rfl⟩ hl.1 rfl rfl (Nat.le_of_ble_eq_true rfl) (Nat.zero_le _) (Nat.zero_le _) dX3_sheet_31 ?_
  refine q_if_eqB (tgt := 42) hx hb dX3_sheet_34 (by decide) (fun h => absurd (⟨nI_le (by omega) (by omega), nI_le (by omega) (by omega)⟩) h) (fun _ => ?_)
  refine lv_iload hx hb dX3_sheet_37 (lv_at hl 0 rfl) ?_
  refine q_if_neN (tgt := 48) (a := 1) hx hb dX3_sheet_39 (by decide) (by omega) (fun _ => ?_) (fun h => absurd h (by omega))
  refine lv_iload_n hx hb dX3_sheet_48 rfl (lv_at hl 4 rfl) ?_
  refine lv_if_ge (tgt := 59) hx hb dX3_sheet_49 (by decide) (fun c_49 => ?_) (fun c_49 => ?_)
  · refine lv_iload_n hx hb dX3_sheet_59 rfl (lv_at hl 4 rfl) ?_
    refine lv_bipush (v := nI 40) hx hb dX3_sheet_60 (by decide) ?_
    refine lv_icmp_le (tgt := 71) hx hb dX3_sheet_62 (by decide) (fun c_62 => ?_) (fun c_62 => ?_)
    · exact absurd hz (i32_not_lt_of_le c_62)
    · refine lv_aload_n hx hb dX3_sheet_65 rfl (lv_at hl 1 rfl) ?_
      refine lv_iconst (v := nI 0) hx hb dX3_sheet_66 (by decide) ?_
      refine WR.callV (w1 := TW cI cJ t f g h (va_up τ 9 (cFi (τ 9) 0))) S kv_X3_48 (c_X3_fd0 l D cI cJ t f g h τ) hK hP hD hS hA ([]) ([]) (List.append_nil _).symm (List.append_nil _).symm TW_fst rfl ⟨Nat.le_of_ble_eq_true rfl, Nat.le_of_ble_eq_true rfl⟩ hl.1 rfl rfl (Nat.le_of_ble_eq_true rfl) (Nat.zero_le _) (Nat.zero_le _) dX3_sheet_67 (fun H locs hP hD hS => ?_)
      exact WR.iret S hr hlk hP hS (rfl) rfl dX3_sheet_70
  · exact absurd (i32_pos40 hz) (i32_not_le_of_lt (i32_lt_of_not_le c_49))
set_option maxRecDepth 100000 in
set_option maxHeartbeats 4000000 in
theorem c_X3_sheet_ok16 (l : Launch) (D : va_G) (cI cJ : ClassId) (t : Nat → Nat) (f g h : Nat → Int32) (τ : Nat → Nat → Int32) (sh : Nat) (hsh : sh < 4) (q : Nat) (hq : q ≤ 40) : WR l yX3_sheet cX3_sheet 5 (some .int) 1 D cI cJ (TW cI cJ t f g h τ) [.ref (t 0), .int (nI sh), .int (nI 16), .int (nI q)] (some (.int (nI q))) (TW cI cJ t f g h (va_up (va_up (va_up τ 2 (upd (τ 2) sh (nI 16))) 3 (upd (τ 3) sh (nI q))) 4 (zrw (τ 4) sh 40))) := by
  refine WR.of (by decide) (Nat.le_of_ble_eq_true rfl) (fun p e s m below meth c ls A S hr hlk hK hP hD hS hA hl => ?_)
  obtain ⟨hx, hb, hml, hown, hU⟩ := id S
  have hl : lv_has ls 5 [(0, .ref (t 0)), (1, .int (nI sh)), (2, .int (nI 16)), (3, .int (nI q))] := hl
  refine lv_iload_n hx hb dX3_sheet_0 rfl (lv_at hl 2 rfl) ?_
  refine q_if_eqN (tgt := 22) (a := 16) hx hb dX3_sheet_1 (by decide) (by omega) (fun h => absurd h (by omega)) (fun _ => ?_)
  refine lv_iload_n hx hb dX3_sheet_4 rfl (lv_at hl 2 rfl) ?_
  refine lv_bipush (v := nI 8) hx hb dX3_sheet_5 (by decide) ?_
  refine q_icmp_eqN (tgt := 22) (a := 16) (b := 8) hx hb dX3_sheet_7 (by decide) (by omega) (by omega) (fun h => absurd h (by omega)) (fun _ => ?_)
  refine lv_iload_n hx hb dX3_sheet_10 rfl (lv_at hl 2 rfl) ?_
  refine lv_bipush (v := nI 16) hx hb dX3_sheet_11 (by decide) ?_
  refine q_icmp_eqN (tgt := 22) (a := 16) (b := 16) hx hb dX3_sheet_13 (by decide) (by omega) (by omega) (fun _ => ?_) (fun h => absurd h (by omega))
  refine lv_iconst (v := nI 1) hx hb dX3_sheet_22 (by decide) ?_
  refine lv_goto (tgt := 27) hx hb dX3_sheet_23 (by decide) ?_
  refine lv_istore (lv' := [(4, .int (nI 1)), (0, .ref (t 0)), (1, .int (nI sh)), (2, .int (nI 16)), (3, .int (nI q))]) hx hb dX3_sheet_27 hl (by decide) rfl (fun ls hl => ?_)
  refine lv_iload_n hx hb dX3_sheet_29 rfl (lv_at hl 2 rfl) ?_
  refine lv_iconst (v := nI 3) hx hb dX3_sheet_30 (by decide) ?_
  refine RO.callS S ks_X3_44 (c_X3_isWithin l D cI cJ t f g h τ (nI sh) (nI 3)) hK hP ⟨Nat.le_of_ble_eq_true rfl, Nat.le_of_ble_eq_true rfl⟩ hl.1 rfl rfl (Nat.le_of_ble_eq_true rfl) (Nat.zero_le _) (Nat.zero_le _) dX3_sheet_31 ?_
  refine q_if_eqB (tgt := 42) hx hb dX3_sheet_34 (by decide) (fun h => absurd (⟨nI_le (by omega) (by omega), nI_le (by omega) (by omega)⟩) h) (fun _ => ?_)
  refine lv_iload hx hb dX3_sheet_37 (lv_at hl 0 rfl) ?_
  refine q_if_neN (tgt := 48) (a := 1) hx hb dX3_sheet_39 (by decide) (by omega) (fun _ => ?_) (fun h => absurd h (by omega))
  refine lv_iload_n hx hb dX3_sheet_48 rfl (lv_at hl 4 rfl) ?_
  refine q_if_geN (tgt := 59) (a := q) hx hb dX3_sheet_49 (by decide) (by omega) ?_
  refine lv_iload_n hx hb dX3_sheet_59 rfl (lv_at hl 4 rfl) ?_
  refine lv_bipush (v := nI 40) hx hb dX3_sheet_60 (by decide) ?_
  refine q_icmp_leN (tgt := 71) (a := q) (b := 40) hx hb dX3_sheet_62 (by decide) (by omega) (by omega) (fun _ => ?_) (fun h => absurd h (by omega))
  refine lv_aload_n hx hb dX3_sheet_71 rfl (lv_at hl 1 rfl) ?_
  refine g3_sheets S hK hP dX3_sheet_72 ?_
  refine lv_iload_n hx hb dX3_sheet_75 rfl (lv_at hl 2 rfl) ?_
  refine lv_iload_n hx hb dX3_sheet_76 rfl (lv_at hl 3 rfl) ?_
  refine lv_iload_n hx hb dX3_sheet_77 rfl (lv_at hl 4 rfl) ?_
  refine WR.callV (w1 := TW cI cJ t f g h (va_up (va_up (va_up τ 2 (upd (τ 2) sh (nI 16))) 3 (upd (τ 3) sh (nI q))) 4 (zrw (τ 4) sh 40))) S kv_X3_191 (c_X1_makeNew_w16 l D cI cJ (sf t 36) τ sh (by omega) q (by omega)) hK hP hD hS hA (_) (_) TW_s5 TW_s5 SH_fst rfl ⟨Nat.le_of_ble_eq_true rfl, Nat.le_of_ble_eq_true rfl⟩ hl.1 rfl rfl (Nat.le_of_ble_eq_true rfl) (Nat.zero_le _) (Nat.zero_le _) dX3_sheet_78 (fun H locs hP hD hS => ?_)
  refine W.eq (g2 := F0 m 81 ls []) rfl ?_
  refine lv_aload_n hx hb dX3_sheet_81 rfl (lv_at hl 1 rfl) ?_
  refine g3_sheets S hK hP dX3_sheet_82 ?_
  refine g31_sizes S hK (TW_sheets hP) dX3_sheet_85 ?_
  refine lv_iload_n hx hb dX3_sheet_88 rfl (lv_at hl 2 rfl) ?_
  refine l1_sizes S hK (TW_sheets hP) (j := sh) (by omega) dX3_sheet_89 ?_
  exact WR.iret S hr hlk hP hS (rfl) (congrArg (fun z => some (Value.int z)) ((upd_at (f := τ 3)).symm)) dX3_sheet_90
set_option maxRecDepth 100000 in
set_option maxHeartbeats 4000000 in
theorem c_X3_sheet_size32 (l : Launch) (D : va_G) (cI cJ : ClassId) (t : Nat → Nat) (f g h : Nat → Int32) (τ : Nat → Nat → Int32) (sh : Nat) (hsh : sh < 4) (z : Int32) (hz : z < 0) : WR l yX3_sheet cX3_sheet 5 (some .int) 1 D cI cJ (TW cI cJ t f g h τ) [.ref (t 0), .int (nI sh), .int (nI 32), .int z] (some (.int (-1000007))) (TW cI cJ t f g h (va_up τ 9 (cFi (τ 9) 6))) := by
  refine WR.of (by decide) (Nat.le_of_ble_eq_true rfl) (fun p e s m below meth c ls A S hr hlk hK hP hD hS hA hl => ?_)
  obtain ⟨hx, hb, hml, hown, hU⟩ := id S
  have hl : lv_has ls 5 [(0, .ref (t 0)), (1, .int (nI sh)), (2, .int (nI 32)), (3, .int z)] := hl
  refine lv_iload_n hx hb dX3_sheet_0 rfl (lv_at hl 2 rfl) ?_
  refine q_if_eqN (tgt := 22) (a := 32) hx hb dX3_sheet_1 (by decide) (by omega) (fun h => absurd h (by omega)) (fun _ => ?_)
  refine lv_iload_n hx hb dX3_sheet_4 rfl (lv_at hl 2 rfl) ?_
  refine lv_bipush (v := nI 8) hx hb dX3_sheet_5 (by decide) ?_
  refine q_icmp_eqN (tgt := 22) (a := 32) (b := 8) hx hb dX3_sheet_7 (by decide) (by omega) (by omega) (fun h => absurd h (by omega)) (fun _ => ?_)
  refine lv_iload_n hx hb dX3_sheet_10 rfl (lv_at hl 2 rfl) ?_
  refine lv_bipush (v := nI 16) hx hb dX3_sheet_11 (by decide) ?_
  refine q_icmp_eqN (tgt := 22) (a := 32) (b := 16) hx hb dX3_sheet_13 (by decide) (by omega) (by omega) (fun h => absurd h (by omega)) (fun _ => ?_)
  refine lv_iload_n hx hb dX3_sheet_16 rfl (lv_at hl 2 rfl) ?_
  refine lv_bipush (v := nI 32) hx hb dX3_sheet_17 (by decide) ?_
  refine q_icmp_neN (tgt := 26) (a := 32) (b := 32) hx hb dX3_sheet_19 (by decide) (by omega) (by omega) (fun h => absurd h (by omega)) (fun _ => ?_)
  refine lv_iconst (v := nI 1) hx hb dX3_sheet_22 (by decide) ?_
  refine lv_goto (tgt := 27) hx hb dX3_sheet_23 (by decide) ?_
  refine lv_istore (lv' := [(4, .int (nI 1)), (0, .ref (t 0)), (1, .int (nI sh)), (2, .int (nI 32)), (3, .int z)]) hx hb dX3_sheet_27 hl (by decide) rfl (fun ls hl => ?_)
  refine lv_iload_n hx hb dX3_sheet_29 rfl (lv_at hl 2 rfl) ?_
  refine lv_iconst (v := nI 3) hx hb dX3_sheet_30 (by decide) ?_
  refine RO.callS S ks_X3_44 (c_X3_isWithin l D cI cJ t f g h τ (nI sh) (nI 3)) hK hP ⟨Nat.le_of_ble_eq_true rfl, Nat.le_of_ble_eq_true rfl⟩ hl.1 rfl rfl (Nat.le_of_ble_eq_true rfl) (Nat.zero_le _) (Nat.zero_le _) dX3_sheet_31 ?_
  refine q_if_eqB (tgt := 42) hx hb dX3_sheet_34 (by decide) (fun h => absurd (⟨nI_le (by omega) (by omega), nI_le (by omega) (by omega)⟩) h) (fun _ => ?_)
  refine lv_iload hx hb dX3_sheet_37 (lv_at hl 0 rfl) ?_
  refine q_if_neN (tgt := 48) (a := 1) hx hb dX3_sheet_39 (by decide) (by omega) (fun _ => ?_) (fun h => absurd h (by omega))
  refine lv_iload_n hx hb dX3_sheet_48 rfl (lv_at hl 4 rfl) ?_
  refine lv_if_ge (tgt := 59) hx hb dX3_sheet_49 (by decide) (fun c_49 => ?_) (fun c_49 => ?_)
  · exact absurd hz (i32_not_lt_of_le c_49)
  · refine lv_aload_n hx hb dX3_sheet_52 rfl (lv_at hl 1 rfl) ?_
    refine lv_bipush (v := nI 6) hx hb dX3_sheet_53 (by decide) ?_
    refine WR.callV (w1 := TW cI cJ t f g h (va_up τ 9 (cFi (τ 9) 6))) S kv_X3_48 (c_X3_fd6 l D cI cJ t f g h τ) hK hP hD hS hA ([]) ([]) (List.append_nil _).symm (List.append_nil _).symm TW_fst rfl ⟨Nat.le_of_ble_eq_true rfl, Nat.le_of_ble_eq_true rfl⟩ hl.1 rfl rfl (Nat.le_of_ble_eq_true rfl) (Nat.zero_le _) (Nat.zero_le _) dX3_sheet_55 (fun H locs hP hD hS => ?_)
    exact WR.iret S hr hlk hP hS (rfl) rfl dX3_sheet_58
set_option maxRecDepth 100000 in
set_option maxHeartbeats 4000000 in
theorem c_X3_sheet_big32 (l : Launch) (D : va_G) (cI cJ : ClassId) (t : Nat → Nat) (f g h : Nat → Int32) (τ : Nat → Nat → Int32) (sh : Nat) (hsh : sh < 4) (z : Int32) (hz : nI 40 < z) : WR l yX3_sheet cX3_sheet 5 (some .int) 1 D cI cJ (TW cI cJ t f g h τ) [.ref (t 0), .int (nI sh), .int (nI 32), .int z] (some (.int (-1000001))) (TW cI cJ t f g h (va_up τ 9 (cFi (τ 9) 0))) := by
  refine WR.of (by decide) (Nat.le_of_ble_eq_true rfl) (fun p e s m below meth c ls A S hr hlk hK hP hD hS hA hl => ?_)
  obtain ⟨hx, hb, hml, hown, hU⟩ := id S
  have hl : lv_has ls 5 [(0, .ref (t 0)), (1, .int (nI sh)), (2, .int (nI 32)), (3, .int z)] := hl
  refine lv_iload_n hx hb dX3_sheet_0 rfl (lv_at hl 2 rfl) ?_
  refine q_if_eqN (tgt := 22) (a := 32) hx hb dX3_sheet_1 (by decide) (by omega) (fun h => absurd h (by omega)) (fun _ => ?_)
  refine lv_iload_n hx hb dX3_sheet_4 rfl (lv_at hl 2 rfl) ?_
  refine lv_bipush (v := nI 8) hx hb dX3_sheet_5 (by decide) ?_
  refine q_icmp_eqN (tgt := 22) (a := 32) (b := 8) hx hb dX3_sheet_7 (by decide) (by omega) (by omega) (fun h => absurd h (by omega)) (fun _ => ?_)
  refine lv_iload_n hx hb dX3_sheet_10 rfl (lv_at hl 2 rfl) ?_
  refine lv_bipush (v := nI 16) hx hb dX3_sheet_11 (by decide) ?_
  refine q_icmp_eqN (tgt := 22) (a := 32) (b := 16) hx hb dX3_sheet_13 (by decide) (by omega) (by omega) (fun h => absurd h (by omega)) (fun _ => ?_)
  refine lv_iload_n hx hb dX3_sheet_16 rfl (lv_at hl 2 rfl) ?_
  refine lv_bipush (v := nI 32) hx hb dX3_sheet_17 (by decide) ?_
  refine q_icmp_neN (tgt := 26) (a := 32) (b := 32) hx hb dX3_sheet_19 (by decide) (by omega) (by omega) (fun h => absurd h (by omega)) (fun _ => ?_)
  refine lv_iconst (v := nI 1) hx hb dX3_sheet_22 (by decide) ?_
  refine lv_goto (tgt := 27) hx hb dX3_sheet_23 (by decide) ?_
  refine lv_istore (lv' := [(4, .int (nI 1)), (0, .ref (t 0)), (1, .int (nI sh)), (2, .int (nI 32)), (3, .int z)]) hx hb dX3_sheet_27 hl (by decide) rfl (fun ls hl => ?_)
  refine lv_iload_n hx hb dX3_sheet_29 rfl (lv_at hl 2 rfl) ?_
  refine lv_iconst (v := nI 3) hx hb dX3_sheet_30 (by decide) ?_
  refine RO.callS S ks_X3_44 (c_X3_isWithin l D cI cJ t f g h τ (nI sh) (nI 3)) hK hP ⟨Nat.le_of_ble_eq_true rfl, Nat.le_of_ble_eq_true rfl⟩ hl.1 rfl rfl (Nat.le_of_ble_eq_true rfl) (Nat.zero_le _) (Nat.zero_le _) dX3_sheet_31 ?_
  refine q_if_eqB (tgt := 42) hx hb dX3_sheet_34 (by decide) (fun h => absurd (⟨nI_le (by omega) (by omega), nI_le (by omega) (by omega)⟩) h) (fun _ => ?_)
  refine lv_iload hx hb dX3_sheet_37 (lv_at hl 0 rfl) ?_
  refine q_if_neN (tgt := 48) (a := 1) hx hb dX3_sheet_39 (by decide) (by omega) (fun _ => ?_) (fun h => absurd h (by omega))
  refine lv_iload_n hx hb dX3_sheet_48 rfl (lv_at hl 4 rfl) ?_
  refine lv_if_ge (tgt := 59) hx hb dX3_sheet_49 (by decide) (fun c_49 => ?_) (fun c_49 => ?_)
  · refine lv_iload_n hx hb dX3_sheet_59 rfl (lv_at hl 4 rfl) ?_
    refine lv_bipush (v := nI 40) hx hb dX3_sheet_60 (by decide) ?_
    refine lv_icmp_le (tgt := 71) hx hb dX3_sheet_62 (by decide) (fun c_62 => ?_) (fun c_62 => ?_)
    · exact absurd hz (i32_not_lt_of_le c_62)
    · refine lv_aload_n hx hb dX3_sheet_65 rfl (lv_at hl 1 rfl) ?_
      refine lv_iconst (v := nI 0) hx hb dX3_sheet_66 (by decide) ?_
      refine WR.callV (w1 := TW cI cJ t f g h (va_up τ 9 (cFi (τ 9) 0))) S kv_X3_48 (c_X3_fd0 l D cI cJ t f g h τ) hK hP hD hS hA ([]) ([]) (List.append_nil _).symm (List.append_nil _).symm TW_fst rfl ⟨Nat.le_of_ble_eq_true rfl, Nat.le_of_ble_eq_true rfl⟩ hl.1 rfl rfl (Nat.le_of_ble_eq_true rfl) (Nat.zero_le _) (Nat.zero_le _) dX3_sheet_67 (fun H locs hP hD hS => ?_)
      exact WR.iret S hr hlk hP hS (rfl) rfl dX3_sheet_70
  · exact absurd (i32_pos40 hz) (i32_not_le_of_lt (i32_lt_of_not_le c_49))
set_option maxRecDepth 100000 in
set_option maxHeartbeats 4000000 in
theorem c_X3_sheet_ok32 (l : Launch) (D : va_G) (cI cJ : ClassId) (t : Nat → Nat) (f g h : Nat → Int32) (τ : Nat → Nat → Int32) (sh : Nat) (hsh : sh < 4) (q : Nat) (hq : q ≤ 40) : WR l yX3_sheet cX3_sheet 5 (some .int) 1 D cI cJ (TW cI cJ t f g h τ) [.ref (t 0), .int (nI sh), .int (nI 32), .int (nI q)] (some (.int (nI q))) (TW cI cJ t f g h (va_up (va_up (va_up τ 2 (upd (τ 2) sh (nI 32))) 3 (upd (τ 3) sh (nI q))) 4 (zrw (τ 4) sh 40))) := by
  refine WR.of (by decide) (Nat.le_of_ble_eq_true rfl) (fun p e s m below meth c ls A S hr hlk hK hP hD hS hA hl => ?_)
  obtain ⟨hx, hb, hml, hown, hU⟩ := id S
  have hl : lv_has ls 5 [(0, .ref (t 0)), (1, .int (nI sh)), (2, .int (nI 32)), (3, .int (nI q))] := hl
  refine lv_iload_n hx hb dX3_sheet_0 rfl (lv_at hl 2 rfl) ?_
  refine q_if_eqN (tgt := 22) (a := 32) hx hb dX3_sheet_1 (by decide) (by omega) (fun h => absurd h (by omega)) (fun _ => ?_)
  refine lv_iload_n hx hb dX3_sheet_4 rfl (lv_at hl 2 rfl) ?_
  refine lv_bipush (v := nI 8) hx hb dX3_sheet_5 (by decide) ?_
  refine q_icmp_eqN (tgt := 22) (a := 32) (b := 8) hx hb dX3_sheet_7 (by decide) (by omega) (by omega) (fun h => absurd h (by omega)) (fun _ => ?_)
  refine lv_iload_n hx hb dX3_sheet_10 rfl (lv_at hl 2 rfl) ?_
  refine lv_bipush (v := nI 16) hx hb dX3_sheet_11 (by decide) ?_
  refine q_icmp_eqN (tgt := 22) (a := 32) (b := 16) hx hb dX3_sheet_13 (by decide) (by omega) (by omega) (fun h => absurd h (by omega)) (fun _ => ?_)
  refine lv_iload_n hx hb dX3_sheet_16 rfl (lv_at hl 2 rfl) ?_
  refine lv_bipush (v := nI 32) hx hb dX3_sheet_17 (by decide) ?_
  refine q_icmp_neN (tgt := 26) (a := 32) (b := 32) hx hb dX3_sheet_19 (by decide) (by omega) (by omega) (fun h => absurd h (by omega)) (fun _ => ?_)
  refine lv_iconst (v := nI 1) hx hb dX3_sheet_22 (by decide) ?_
  refine lv_goto (tgt := 27) hx hb dX3_sheet_23 (by decide) ?_
  refine lv_istore (lv' := [(4, .int (nI 1)), (0, .ref (t 0)), (1, .int (nI sh)), (2, .int (nI 32)), (3, .int (nI q))]) hx hb dX3_sheet_27 hl (by decide) rfl (fun ls hl => ?_)
  refine lv_iload_n hx hb dX3_sheet_29 rfl (lv_at hl 2 rfl) ?_
  refine lv_iconst (v := nI 3) hx hb dX3_sheet_30 (by decide) ?_
  refine RO.callS S ks_X3_44 (c_X3_isWithin l D cI cJ t f g h τ (nI sh) (nI 3)) hK hP ⟨Nat.le_of_ble_eq_true rfl, Nat.le_of_ble_eq_true rfl⟩ hl.1 rfl rfl (Nat.le_of_ble_eq_true rfl) (Nat.zero_le _) (Nat.zero_le _) dX3_sheet_31 ?_
  refine q_if_eqB (tgt := 42) hx hb dX3_sheet_34 (by decide) (fun h => absurd (⟨nI_le (by omega) (by omega), nI_le (by omega) (by omega)⟩) h) (fun _ => ?_)
  refine lv_iload hx hb dX3_sheet_37 (lv_at hl 0 rfl) ?_
  refine q_if_neN (tgt := 48) (a := 1) hx hb dX3_sheet_39 (by decide) (by omega) (fun _ => ?_) (fun h => absurd h (by omega))
  refine lv_iload_n hx hb dX3_sheet_48 rfl (lv_at hl 4 rfl) ?_
  refine q_if_geN (tgt := 59) (a := q) hx hb dX3_sheet_49 (by decide) (by omega) ?_
  refine lv_iload_n hx hb dX3_sheet_59 rfl (lv_at hl 4 rfl) ?_
  refine lv_bipush (v := nI 40) hx hb dX3_sheet_60 (by decide) ?_
  refine q_icmp_leN (tgt := 71) (a := q) (b := 40) hx hb dX3_sheet_62 (by decide) (by omega) (by omega) (fun _ => ?_) (fun h => absurd h (by omega))
  refine lv_aload_n hx hb dX3_sheet_71 rfl (lv_at hl 1 rfl) ?_
  refine g3_sheets S hK hP dX3_sheet_72 ?_
  refine lv_iload_n hx hb dX3_sheet_75 rfl (lv_at hl 2 rfl) ?_
  refine lv_iload_n hx hb dX3_sheet_76 rfl (lv_at hl 3 rfl) ?_
  refine lv_iload_n hx hb dX3_sheet_77 rfl (lv_at hl 4 rfl) ?_
  refine WR.callV (w1 := TW cI cJ t f g h (va_up (va_up (va_up τ 2 (upd (τ 2) sh (nI 32))) 3 (upd (τ 3) sh (nI q))) 4 (zrw (τ 4) sh 40))) S kv_X3_191 (c_X1_makeNew_w32 l D cI cJ (sf t 36) τ sh (by omega) q (by omega)) hK hP hD hS hA (_) (_) TW_s5 TW_s5 SH_fst rfl ⟨Nat.le_of_ble_eq_true rfl, Nat.le_of_ble_eq_true rfl⟩ hl.1 rfl rfl (Nat.le_of_ble_eq_true rfl) (Nat.zero_le _) (Nat.zero_le _) dX3_sheet_78 (fun H locs hP hD hS => ?_)
  refine W.eq (g2 := F0 m 81 ls []) rfl ?_
  refine lv_aload_n hx hb dX3_sheet_81 rfl (lv_at hl 1 rfl) ?_
  refine g3_sheets S hK hP dX3_sheet_82 ?_
  refine g31_sizes S hK (TW_sheets hP) dX3_sheet_85 ?_
  refine lv_iload_n hx hb dX3_sheet_88 rfl (lv_at hl 2 rfl) ?_
  refine l1_sizes S hK (TW_sheets hP) (j := sh) (by omega) dX3_sheet_89 ?_
  exact WR.iret S hr hlk hP hS (rfl) (congrArg (fun z => some (Value.int z)) ((upd_at (f := τ 3)).symm)) dX3_sheet_90
set_option maxRecDepth 100000 in
set_option maxHeartbeats 4000000 in
theorem c_X3_write_bad (l : Launch) (D : va_G) (cI cJ : ClassId) (t : Nat → Nat) (f g h : Nat → Int32) (τ : Nat → Nat → Int32) (x : Int32) (y : Int32) (z : Int32) (hs0 : ¬ (nI 0 ≤ x ∧ x ≤ nI 3)) : WR l yX3_write cX3_write 5 (some .int) 2 D cI cJ (TW cI cJ t f g h τ) [.ref (t 0), .int x, .int y, .int z] (some (.int (-1000001))) (TW cI cJ t f g h (va_up τ 9 (cFi (τ 9) 0))) := by
  refine WR.of (by decide) (Nat.le_of_ble_eq_true rfl) (fun p e s m below meth c ls A S hr hlk hK hP hD hS hA hl => ?_)
  obtain ⟨hx, hb, hml, hown, hU⟩ := id S
  have hl : lv_has ls 5 [(0, .ref (t 0)), (1, .int x), (2, .int y), (3, .int z)] := hl
  refine lv_aload_n hx hb dX3_write_0 rfl (lv_at hl 0 rfl) ?_
  refine lv_iload_n hx hb dX3_write_1 rfl (lv_at hl 1 rfl) ?_
  refine RO.callV S kv_X3_198 (c_X3_wrongSheet_bad l D cI cJ t f g h τ x hs0) hK hP rfl ⟨Nat.le_of_ble_eq_true rfl, Nat.le_of_ble_eq_true rfl⟩ hl.1 rfl rfl (Nat.le_of_ble_eq_true rfl) (Nat.zero_le _) (Nat.zero_le _) dX3_write_2 ?_
  refine lv_istore (lv' := [(4, .int (nI 0)), (0, .ref (t 0)), (1, .int x), (2, .int y), (3, .int z)]) hx hb dX3_write_5 hl (by decide) rfl (fun ls hl => ?_)
  refine lv_iload hx hb dX3_write_7 (lv_at hl 0 rfl) ?_
  refine q_if_ltN (tgt := 19) (a := 0) hx hb dX3_write_9 (by decide) (by omega) ?_
  refine lv_aload_n hx hb dX3_write_12 rfl (lv_at hl 1 rfl) ?_
  refine lv_iload hx hb dX3_write_13 (lv_at hl 0 rfl) ?_
  refine WR.callV (w1 := TW cI cJ t f g h (va_up τ 9 (cFi (τ 9) 0))) S kv_X3_48 (c_X3_fd0 l D cI cJ t f g h τ) hK hP hD hS hA ([]) ([]) (List.append_nil _).symm (List.append_nil _).symm TW_fst rfl ⟨Nat.le_of_ble_eq_true rfl, Nat.le_of_ble_eq_true rfl⟩ hl.1 rfl rfl (Nat.le_of_ble_eq_true rfl) (Nat.zero_le _) (Nat.zero_le _) dX3_write_15 (fun H locs hP hD hS => ?_)
  exact WR.iret S hr hlk hP hS (rfl) rfl dX3_write_18
set_option maxRecDepth 100000 in
set_option maxHeartbeats 4000000 in
theorem c_X3_write_miss (l : Launch) (D : va_G) (cI cJ : ClassId) (t : Nat → Nat) (f g h : Nat → Int32) (τ : Nat → Nat → Int32) (sh : Nat) (hsh : sh < 4) (y : Int32) (z : Int32) (hms : τ 2 sh = 0) : WR l yX3_write cX3_write 5 (some .int) 2 D cI cJ (TW cI cJ t f g h τ) [.ref (t 0), .int (nI sh), .int y, .int z] (some (.int (-1000006))) (TW cI cJ t f g h (va_up τ 9 (cFi (τ 9) 5))) := by
  refine WR.of (by decide) (Nat.le_of_ble_eq_true rfl) (fun p e s m below meth c ls A S hr hlk hK hP hD hS hA hl => ?_)
  obtain ⟨hx, hb, hml, hown, hU⟩ := id S
  have hl : lv_has ls 5 [(0, .ref (t 0)), (1, .int (nI sh)), (2, .int y), (3, .int z)] := hl
  refine lv_aload_n hx hb dX3_write_0 rfl (lv_at hl 0 rfl) ?_
  refine lv_iload_n hx hb dX3_write_1 rfl (lv_at hl 1 rfl) ?_
  refine RO.callV S kv_X3_198 (c_X3_wrongSheet_miss l D cI cJ t f g h τ sh (by omega) hms) hK hP rfl ⟨Nat.le_of_ble_eq_true rfl, Nat.le_of_ble_eq_true rfl⟩ hl.1 rfl rfl (Nat.le_of_ble_eq_true rfl) (Nat.zero_le _) (Nat.zero_le _) dX3_write_2 ?_
  refine lv_istore (lv' := [(4, .int (nI 5)), (0, .ref (t 0)), (1, .int (nI sh)), (2, .int y), (3, .int z)]) hx hb dX3_write_5 hl (by decide) rfl (fun ls hl => ?_)
  refine lv_iload hx hb dX3_write_7 (lv_at hl 0 rfl) ?_
  refine q_if_ltN (tgt := 19) (a := 5) hx hb dX3_write_9 (by decide) (by omega) ?_
  refine lv_aload_n hx hb dX3_write_12 rfl (lv_at hl 1 rfl) ?_
  refine lv_iload hx hb dX3_write_13 (lv_at hl 0 rfl) ?_
  refine WR.callV (w1 := TW cI cJ t f g h (va_up τ 9 (cFi (τ 9) 5))) S kv_X3_48 (c_X3_fd5 l D cI cJ t f g h τ) hK hP hD hS hA ([]) ([]) (List.append_nil _).symm (List.append_nil _).symm TW_fst rfl ⟨Nat.le_of_ble_eq_true rfl, Nat.le_of_ble_eq_true rfl⟩ hl.1 rfl rfl (Nat.le_of_ble_eq_true rfl) (Nat.zero_le _) (Nat.zero_le _) dX3_write_15 (fun H locs hP hD hS => ?_)
  exact WR.iret S hr hlk hP hS (rfl) rfl dX3_write_18
set_option maxRecDepth 100000 in
set_option maxHeartbeats 4000000 in
theorem c_X3_write_badi (l : Launch) (D : va_G) (cI cJ : ClassId) (t : Nat → Nat) (f g h : Nat → Int32) (τ : Nat → Nat → Int32) (sh : Nat) (hsh : sh < 4) (y : Int32) (z : Int32) (hms : ¬ τ 2 sh = 0) (sz : Nat) (hm : τ 3 sh = nI sz) (hm40 : sz ≤ 40) (hb0 : ¬ (0 ≤ y ∧ y < nI sz)) : WR l yX3_write cX3_write 5 (some .int) 2 D cI cJ (TW cI cJ t f g h τ) [.ref (t 0), .int (nI sh), .int y, .int z] (some (.int (-1000001))) (TW cI cJ t f g h (va_up τ 9 (cFi (τ 9) 0))) := by
  refine WR.of (by decide) (Nat.le_of_ble_eq_true rfl) (fun p e s m below meth c ls A S hr hlk hK hP hD hS hA hl => ?_)
  obtain ⟨hx, hb, hml, hown, hU⟩ := id S
  have hl : lv_has ls 5 [(0, .ref (t 0)), (1, .int (nI sh)), (2, .int y), (3, .int z)] := hl
  refine lv_aload_n hx hb dX3_write_0 rfl (lv_at hl 0 rfl) ?_
  refine lv_iload_n hx hb dX3_write_1 rfl (lv_at hl 1 rfl) ?_
  refine RO.callV S kv_X3_198 (c_X3_wrongSheet_ok l D cI cJ t f g h τ sh (by omega) hms) hK hP rfl ⟨Nat.le_of_ble_eq_true rfl, Nat.le_of_ble_eq_true rfl⟩ hl.1 rfl rfl (Nat.le_of_ble_eq_true rfl) (Nat.zero_le _) (Nat.zero_le _) dX3_write_2 ?_
  refine lv_istore (lv' := [(4, .int (-1)), (0, .ref (t 0)), (1, .int (nI sh)), (2, .int y), (3, .int z)]) hx hb dX3_write_5 hl (by decide) rfl (fun ls hl => ?_)
  refine lv_iload hx hb dX3_write_7 (lv_at hl 0 rfl) ?_
  refine lv_if_lt (tgt := 19) hx hb dX3_write_9 (by decide) (fun _ => ?_) (fun h => absurd (by decide) h)
  refine lv_iload_n hx hb dX3_write_19 rfl (lv_at hl 3 rfl) ?_
  refine lv_aload_n hx hb dX3_write_20 rfl (lv_at hl 1 rfl) ?_
  refine g3_sheets S hK hP dX3_write_21 ?_
  refine g31_sizes S hK (TW_sheets hP) dX3_write_24 ?_
  refine lv_iload_n hx hb dX3_write_27 rfl (lv_at hl 2 rfl) ?_
  refine l1_sizes S hK (TW_sheets hP) (j := sh) (by omega) dX3_write_28 ?_
  refine q_eqi (y := nI sz) (hm) ?_
  refine lv_iconst (v := nI 1) hx hb dX3_write_29 (by decide) ?_
  refine lv_isub hx hb dX3_write_30 ?_
  refine RO.callS S ks_X3_44 (c_X3_isWithin l D cI cJ t f g h τ y ((nI sz) - (nI 1))) hK hP ⟨Nat.le_of_ble_eq_true rfl, Nat.le_of_ble_eq_true rfl⟩ hl.1 rfl rfl (Nat.le_of_ble_eq_true rfl) (Nat.zero_le _) (Nat.zero_le _) dX3_write_31 ?_
  refine q_if_neB (tgt := 43) hx hb dX3_write_34 (by decide) (fun c_34 => ?_) (fun c_34 => ?_)
  · exact absurd ((rcn hm40).mp c_34) hb0
  · refine lv_aload_n hx hb dX3_write_37 rfl (lv_at hl 1 rfl) ?_
    refine lv_iconst (v := nI 0) hx hb dX3_write_38 (by decide) ?_
    refine WR.callV (w1 := TW cI cJ t f g h (va_up τ 9 (cFi (τ 9) 0))) S kv_X3_48 (c_X3_fd0 l D cI cJ t f g h τ) hK hP hD hS hA ([]) ([]) (List.append_nil _).symm (List.append_nil _).symm TW_fst rfl ⟨Nat.le_of_ble_eq_true rfl, Nat.le_of_ble_eq_true rfl⟩ hl.1 rfl rfl (Nat.le_of_ble_eq_true rfl) (Nat.zero_le _) (Nat.zero_le _) dX3_write_39 (fun H locs hP hD hS => ?_)
    exact WR.iret S hr hlk hP hS (rfl) rfl dX3_write_42
set_option maxRecDepth 100000 in
set_option maxHeartbeats 4000000 in
theorem c_X3_write_ok8 (l : Launch) (D : va_G) (cI cJ : ClassId) (t : Nat → Nat) (f g h : Nat → Int32) (τ : Nat → Nat → Int32) (sh : Nat) (hsh : sh < 4) (i : Nat) (z : Int32) (sz : Nat) (hm : τ 3 sh = nI sz) (hm40 : sz ≤ 40) (hi : i < sz) (hwd : τ 2 sh = nI 8) : WR l yX3_write cX3_write 5 (some .int) 2 D cI cJ (TW cI cJ t f g h τ) [.ref (t 0), .int (nI sh), .int (nI i), .int z] (some (.int (nI 1))) (TW cI cJ t f g h (va_up τ 4 (upd (τ 4) (40 * sh + i) (z.toInt8.toInt32)))) := by
  have hms : ¬ τ 2 sh = 0 := by rw [hwd]; decide
  refine WR.of (by decide) (Nat.le_of_ble_eq_true rfl) (fun p e s m below meth c ls A S hr hlk hK hP hD hS hA hl => ?_)
  obtain ⟨hx, hb, hml, hown, hU⟩ := id S
  have hl : lv_has ls 5 [(0, .ref (t 0)), (1, .int (nI sh)), (2, .int (nI i)), (3, .int z)] := hl
  refine lv_aload_n hx hb dX3_write_0 rfl (lv_at hl 0 rfl) ?_
  refine lv_iload_n hx hb dX3_write_1 rfl (lv_at hl 1 rfl) ?_
  refine RO.callV S kv_X3_198 (c_X3_wrongSheet_ok l D cI cJ t f g h τ sh (by omega) hms) hK hP rfl ⟨Nat.le_of_ble_eq_true rfl, Nat.le_of_ble_eq_true rfl⟩ hl.1 rfl rfl (Nat.le_of_ble_eq_true rfl) (Nat.zero_le _) (Nat.zero_le _) dX3_write_2 ?_
  refine lv_istore (lv' := [(4, .int (-1)), (0, .ref (t 0)), (1, .int (nI sh)), (2, .int (nI i)), (3, .int z)]) hx hb dX3_write_5 hl (by decide) rfl (fun ls hl => ?_)
  refine lv_iload hx hb dX3_write_7 (lv_at hl 0 rfl) ?_
  refine lv_if_lt (tgt := 19) hx hb dX3_write_9 (by decide) (fun _ => ?_) (fun h => absurd (by decide) h)
  refine lv_iload_n hx hb dX3_write_19 rfl (lv_at hl 3 rfl) ?_
  refine lv_aload_n hx hb dX3_write_20 rfl (lv_at hl 1 rfl) ?_
  refine g3_sheets S hK hP dX3_write_21 ?_
  refine g31_sizes S hK (TW_sheets hP) dX3_write_24 ?_
  refine lv_iload_n hx hb dX3_write_27 rfl (lv_at hl 2 rfl) ?_
  refine l1_sizes S hK (TW_sheets hP) (j := sh) (by omega) dX3_write_28 ?_
  refine q_eqi (y := nI sz) (hm) ?_
  refine lv_iconst (v := nI 1) hx hb dX3_write_29 (by decide) ?_
  refine q_isubN (a := sz) (b := 1) hx hb dX3_write_30 (by omega) ?_
  refine RO.callS S ks_X3_44 (c_X3_isWithin l D cI cJ t f g h τ (nI i) (nI (sz - 1))) hK hP ⟨Nat.le_of_ble_eq_true rfl, Nat.le_of_ble_eq_true rfl⟩ hl.1 rfl rfl (Nat.le_of_ble_eq_true rfl) (Nat.zero_le _) (Nat.zero_le _) dX3_write_31 ?_
  refine q_if_neB (tgt := 43) hx hb dX3_write_34 (by decide) (fun _ => ?_) (fun h => absurd (⟨nI_le (by omega) (by omega), nI_le (by omega) (by omega)⟩) h)
  refine lv_aload_n hx hb dX3_write_43 rfl (lv_at hl 1 rfl) ?_
  refine g3_sheets S hK hP dX3_write_44 ?_
  refine lv_iload_n hx hb dX3_write_47 rfl (lv_at hl 2 rfl) ?_
  refine lv_iload_n hx hb dX3_write_48 rfl (lv_at hl 3 rfl) ?_
  refine lv_iload_n hx hb dX3_write_49 rfl (lv_at hl 4 rfl) ?_
  refine WR.callV (w1 := TW cI cJ t f g h (va_up τ 4 (upd (τ 4) (40 * sh + i) (z.toInt8.toInt32)))) S kv_X3_201 (c_X1_put_w8 l D cI cJ (sf t 36) τ sh (by omega) i (by omega) z (hwd)) hK hP hD hS hA (_) (_) TW_s5 TW_s5 SH_fst rfl ⟨Nat.le_of_ble_eq_true rfl, Nat.le_of_ble_eq_true rfl⟩ hl.1 rfl rfl (Nat.le_of_ble_eq_true rfl) (Nat.zero_le _) (Nat.zero_le _) dX3_write_50 (fun H locs hP hD hS => ?_)
  refine W.eq (g2 := F0 m 53 ls []) rfl ?_
  refine lv_iconst (v := nI 1) hx hb dX3_write_53 (by decide) ?_
  exact WR.iret S hr hlk hP hS (rfl) rfl dX3_write_54
set_option maxRecDepth 100000 in
set_option maxHeartbeats 4000000 in
theorem c_X3_write_ok16 (l : Launch) (D : va_G) (cI cJ : ClassId) (t : Nat → Nat) (f g h : Nat → Int32) (τ : Nat → Nat → Int32) (sh : Nat) (hsh : sh < 4) (i : Nat) (z : Int32) (sz : Nat) (hm : τ 3 sh = nI sz) (hm40 : sz ≤ 40) (hi : i < sz) (hwd : τ 2 sh = nI 16) : WR l yX3_write cX3_write 5 (some .int) 2 D cI cJ (TW cI cJ t f g h τ) [.ref (t 0), .int (nI sh), .int (nI i), .int z] (some (.int (nI 1))) (TW cI cJ t f g h (va_up τ 4 (upd (τ 4) (40 * sh + i) (z.toInt16.toInt32)))) := by
  have hms : ¬ τ 2 sh = 0 := by rw [hwd]; decide
  refine WR.of (by decide) (Nat.le_of_ble_eq_true rfl) (fun p e s m below meth c ls A S hr hlk hK hP hD hS hA hl => ?_)
  obtain ⟨hx, hb, hml, hown, hU⟩ := id S
  have hl : lv_has ls 5 [(0, .ref (t 0)), (1, .int (nI sh)), (2, .int (nI i)), (3, .int z)] := hl
  refine lv_aload_n hx hb dX3_write_0 rfl (lv_at hl 0 rfl) ?_
  refine lv_iload_n hx hb dX3_write_1 rfl (lv_at hl 1 rfl) ?_
  refine RO.callV S kv_X3_198 (c_X3_wrongSheet_ok l D cI cJ t f g h τ sh (by omega) hms) hK hP rfl ⟨Nat.le_of_ble_eq_true rfl, Nat.le_of_ble_eq_true rfl⟩ hl.1 rfl rfl (Nat.le_of_ble_eq_true rfl) (Nat.zero_le _) (Nat.zero_le _) dX3_write_2 ?_
  refine lv_istore (lv' := [(4, .int (-1)), (0, .ref (t 0)), (1, .int (nI sh)), (2, .int (nI i)), (3, .int z)]) hx hb dX3_write_5 hl (by decide) rfl (fun ls hl => ?_)
  refine lv_iload hx hb dX3_write_7 (lv_at hl 0 rfl) ?_
  refine lv_if_lt (tgt := 19) hx hb dX3_write_9 (by decide) (fun _ => ?_) (fun h => absurd (by decide) h)
  refine lv_iload_n hx hb dX3_write_19 rfl (lv_at hl 3 rfl) ?_
  refine lv_aload_n hx hb dX3_write_20 rfl (lv_at hl 1 rfl) ?_
  refine g3_sheets S hK hP dX3_write_21 ?_
  refine g31_sizes S hK (TW_sheets hP) dX3_write_24 ?_
  refine lv_iload_n hx hb dX3_write_27 rfl (lv_at hl 2 rfl) ?_
  refine l1_sizes S hK (TW_sheets hP) (j := sh) (by omega) dX3_write_28 ?_
  refine q_eqi (y := nI sz) (hm) ?_
  refine lv_iconst (v := nI 1) hx hb dX3_write_29 (by decide) ?_
  refine q_isubN (a := sz) (b := 1) hx hb dX3_write_30 (by omega) ?_
  refine RO.callS S ks_X3_44 (c_X3_isWithin l D cI cJ t f g h τ (nI i) (nI (sz - 1))) hK hP ⟨Nat.le_of_ble_eq_true rfl, Nat.le_of_ble_eq_true rfl⟩ hl.1 rfl rfl (Nat.le_of_ble_eq_true rfl) (Nat.zero_le _) (Nat.zero_le _) dX3_write_31 ?_
  refine q_if_neB (tgt := 43) hx hb dX3_write_34 (by decide) (fun _ => ?_) (fun h => absurd (⟨nI_le (by omega) (by omega), nI_le (by omega) (by omega)⟩) h)
  refine lv_aload_n hx hb dX3_write_43 rfl (lv_at hl 1 rfl) ?_
  refine g3_sheets S hK hP dX3_write_44 ?_
  refine lv_iload_n hx hb dX3_write_47 rfl (lv_at hl 2 rfl) ?_
  refine lv_iload_n hx hb dX3_write_48 rfl (lv_at hl 3 rfl) ?_
  refine lv_iload_n hx hb dX3_write_49 rfl (lv_at hl 4 rfl) ?_
  refine WR.callV (w1 := TW cI cJ t f g h (va_up τ 4 (upd (τ 4) (40 * sh + i) (z.toInt16.toInt32)))) S kv_X3_201 (c_X1_put_w16 l D cI cJ (sf t 36) τ sh (by omega) i (by omega) z (hwd)) hK hP hD hS hA (_) (_) TW_s5 TW_s5 SH_fst rfl ⟨Nat.le_of_ble_eq_true rfl, Nat.le_of_ble_eq_true rfl⟩ hl.1 rfl rfl (Nat.le_of_ble_eq_true rfl) (Nat.zero_le _) (Nat.zero_le _) dX3_write_50 (fun H locs hP hD hS => ?_)
  refine W.eq (g2 := F0 m 53 ls []) rfl ?_
  refine lv_iconst (v := nI 1) hx hb dX3_write_53 (by decide) ?_
  exact WR.iret S hr hlk hP hS (rfl) rfl dX3_write_54
set_option maxRecDepth 100000 in
set_option maxHeartbeats 4000000 in
theorem c_X3_write_ok32 (l : Launch) (D : va_G) (cI cJ : ClassId) (t : Nat → Nat) (f g h : Nat → Int32) (τ : Nat → Nat → Int32) (sh : Nat) (hsh : sh < 4) (i : Nat) (z : Int32) (sz : Nat) (hm : τ 3 sh = nI sz) (hm40 : sz ≤ 40) (hi : i < sz) (hwd : τ 2 sh = nI 32) : WR l yX3_write cX3_write 5 (some .int) 2 D cI cJ (TW cI cJ t f g h τ) [.ref (t 0), .int (nI sh), .int (nI i), .int z] (some (.int (nI 1))) (TW cI cJ t f g h (va_up τ 4 (upd (τ 4) (40 * sh + i) (z)))) := by
  have hms : ¬ τ 2 sh = 0 := by rw [hwd]; decide
  refine WR.of (by decide) (Nat.le_of_ble_eq_true rfl) (fun p e s m below meth c ls A S hr hlk hK hP hD hS hA hl => ?_)
  obtain ⟨hx, hb, hml, hown, hU⟩ := id S
  have hl : lv_has ls 5 [(0, .ref (t 0)), (1, .int (nI sh)), (2, .int (nI i)), (3, .int z)] := hl
  refine lv_aload_n hx hb dX3_write_0 rfl (lv_at hl 0 rfl) ?_
  refine lv_iload_n hx hb dX3_write_1 rfl (lv_at hl 1 rfl) ?_
  refine RO.callV S kv_X3_198 (c_X3_wrongSheet_ok l D cI cJ t f g h τ sh (by omega) hms) hK hP rfl ⟨Nat.le_of_ble_eq_true rfl, Nat.le_of_ble_eq_true rfl⟩ hl.1 rfl rfl (Nat.le_of_ble_eq_true rfl) (Nat.zero_le _) (Nat.zero_le _) dX3_write_2 ?_
  refine lv_istore (lv' := [(4, .int (-1)), (0, .ref (t 0)), (1, .int (nI sh)), (2, .int (nI i)), (3, .int z)]) hx hb dX3_write_5 hl (by decide) rfl (fun ls hl => ?_)
  refine lv_iload hx hb dX3_write_7 (lv_at hl 0 rfl) ?_
  refine lv_if_lt (tgt := 19) hx hb dX3_write_9 (by decide) (fun _ => ?_) (fun h => absurd (by decide) h)
  refine lv_iload_n hx hb dX3_write_19 rfl (lv_at hl 3 rfl) ?_
  refine lv_aload_n hx hb dX3_write_20 rfl (lv_at hl 1 rfl) ?_
  refine g3_sheets S hK hP dX3_write_21 ?_
  refine g31_sizes S hK (TW_sheets hP) dX3_write_24 ?_
  refine lv_iload_n hx hb dX3_write_27 rfl (lv_at hl 2 rfl) ?_
  refine l1_sizes S hK (TW_sheets hP) (j := sh) (by omega) dX3_write_28 ?_
  refine q_eqi (y := nI sz) (hm) ?_
  refine lv_iconst (v := nI 1) hx hb dX3_write_29 (by decide) ?_
  refine q_isubN (a := sz) (b := 1) hx hb dX3_write_30 (by omega) ?_
  refine RO.callS S ks_X3_44 (c_X3_isWithin l D cI cJ t f g h τ (nI i) (nI (sz - 1))) hK hP ⟨Nat.le_of_ble_eq_true rfl, Nat.le_of_ble_eq_true rfl⟩ hl.1 rfl rfl (Nat.le_of_ble_eq_true rfl) (Nat.zero_le _) (Nat.zero_le _) dX3_write_31 ?_
  refine q_if_neB (tgt := 43) hx hb dX3_write_34 (by decide) (fun _ => ?_) (fun h => absurd (⟨nI_le (by omega) (by omega), nI_le (by omega) (by omega)⟩) h)
  refine lv_aload_n hx hb dX3_write_43 rfl (lv_at hl 1 rfl) ?_
  refine g3_sheets S hK hP dX3_write_44 ?_
  refine lv_iload_n hx hb dX3_write_47 rfl (lv_at hl 2 rfl) ?_
  refine lv_iload_n hx hb dX3_write_48 rfl (lv_at hl 3 rfl) ?_
  refine lv_iload_n hx hb dX3_write_49 rfl (lv_at hl 4 rfl) ?_
  refine WR.callV (w1 := TW cI cJ t f g h (va_up τ 4 (upd (τ 4) (40 * sh + i) (z)))) S kv_X3_201 (c_X1_put_w32 l D cI cJ (sf t 36) τ sh (by omega) i (by omega) z (hwd)) hK hP hD hS hA (_) (_) TW_s5 TW_s5 SH_fst rfl ⟨Nat.le_of_ble_eq_true rfl, Nat.le_of_ble_eq_true rfl⟩ hl.1 rfl rfl (Nat.le_of_ble_eq_true rfl) (Nat.zero_le _) (Nat.zero_le _) dX3_write_50 (fun H locs hP hD hS => ?_)
  refine W.eq (g2 := F0 m 53 ls []) rfl ?_
  refine lv_iconst (v := nI 1) hx hb dX3_write_53 (by decide) ?_
  exact WR.iret S hr hlk hP hS (rfl) rfl dX3_write_54

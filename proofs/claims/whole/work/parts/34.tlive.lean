def rsum (r : Nat → Int32) : Nat → Int32
  | 0 => nI 0
  | j + 1 => rsum r j + r j
theorem nI_ne_m1 {k : Nat} (h : k < 2147483648) : ¬ nI k = (-1) := fun e => by
  have := congrArg Int32.toInt e
  rw [nI_toInt h] at this
  exact absurd this (by intro q; have : ((k : Int)) = -1 := q; omega)
theorem m1_rg {x : Int32} (e : x = (-1)) : (-1) ≤ x ∧ x ≤ nI 6 := by
  rw [e]
  decide
theorem m1_rg2 {x : Int32} (h : nI 0 ≤ x ∧ x ≤ nI 6) : (-1) ≤ x ∧ x ≤ nI 6 := ⟨by
  have h1 := h.1
  rw [Int32.le_iff_toInt_le, nI_toInt (by omega)] at h1
  rw [Int32.le_iff_toInt_le]
  exact Int.le_trans (by decide) h1, h.2⟩
theorem Pk.s1 {f : Nat → Int32} {n : Nat} (h : Pk f n) : Pk (sS1 f) n := ((h.up (i := 2) (by decide)).up (i := 2) (by decide)).up (by omega)
theorem Sk.st {f : Nat → Int32} {j x : Nat} (h : Sk f) (hx : x ≤ 99) : Sk (upd f (10 + j) (nI x)) := fun c hc => by
  by_cases e : c = j
  · exact ⟨x, hx, by rw [e]; exact upd_at⟩
  · obtain ⟨y, h1, h2⟩ := h c hc
    exact ⟨y, h1, (upd_ne (by omega)).trans h2⟩
theorem Sk.s1 {f : Nat → Int32} (h : Sk f) : Sk (sS1 f) := ((h.up (i := 2) (by decide)).up (i := 2) (by decide)).st (by omega)
set_option maxRecDepth 100000 in
set_option maxHeartbeats 4000000 in
theorem c_X3_cellar_bad (l : Launch) (D : va_G) (cI cJ : ClassId) (t : Nat → Nat) (f g h : Nat → Int32) (τ : Nat → Nat → Int32) (x : Int32) (y : Int32) (hb0 : ¬ ((nI 0 ≤ x ∧ x ≤ nI 5) ∧ (nI 0 ≤ y ∧ y ≤ nI 3))) : WR l yX3_cellar cX3_cellar 3 (some .int) 1 D cI cJ (TW cI cJ t f g h τ) [.ref (t 0), .int x, .int y] (some (.int (-1000001))) (TW cI cJ t f g h (va_up τ 9 (cFi (τ 9) 0))) := by
  refine WR.of (by decide) (Nat.le_of_ble_eq_true rfl) (fun p e s m below meth c ls A S hr hlk hK hP hD hS hA hl => ?_)
  obtain ⟨hx, hb, hml, hown, hU⟩ := id S
  have hl : lv_has ls 3 [(0, .ref (t 0)), (1, .int x), (2, .int y)] := hl
  refine lv_iload_n hx hb dX3_cellar_0 rfl (lv_at hl 1 rfl) ?_
  refine lv_iconst (v := nI 5) hx hb dX3_cellar_1 (by decide) ?_
  refine RO.callS S ks_X3_44 (c_X3_isWithin l D cI cJ t f g h τ x (nI 5)) hK hP ⟨Nat.le_of_ble_eq_true rfl, Nat.le_of_ble_eq_true rfl⟩ hl.1 rfl rfl (Nat.le_of_ble_eq_true rfl) (Nat.zero_le _) (Nat.zero_le _) dX3_cellar_2 ?_
  refine q_if_neB (tgt := 14) hx hb dX3_cellar_5 (by decide) (fun c_5 => ?_) (fun c_5 => ?_)
  · refine lv_iload_n hx hb dX3_cellar_14 rfl (lv_at hl 2 rfl) ?_
    by_cases k_15_0 : y = nI 0
    · refine q_eqi k_15_0 ?_
      refine lv_tableIn (tgt := 44) hx hb dX3_cellar_15 (by decide) (by decide) rfl (by decide) ?_
      exact absurd (⟨c_5, rg_eq k_15_0 (by decide) (by decide)⟩) hb0
    by_cases k_15_1 : y = nI 1
    · refine q_eqi k_15_1 ?_
      refine lv_tableIn (tgt := 54) hx hb dX3_cellar_15 (by decide) (by decide) rfl (by decide) ?_
      exact absurd (⟨c_5, rg_eq k_15_1 (by decide) (by decide)⟩) hb0
    by_cases k_15_2 : y = nI 2
    · refine q_eqi k_15_2 ?_
      refine lv_tableIn (tgt := 64) hx hb dX3_cellar_15 (by decide) (by decide) rfl (by decide) ?_
      exact absurd (⟨c_5, rg_eq k_15_2 (by decide) (by decide)⟩) hb0
    by_cases k_15_3 : y = nI 3
    · refine q_eqi k_15_3 ?_
      refine lv_tableIn (tgt := 73) hx hb dX3_cellar_15 (by decide) (by decide) rfl (by decide) ?_
      exact absurd (⟨c_5, rg_eq k_15_3 (by decide) (by decide)⟩) hb0
    refine lv_tableOut (tgt := 82) hx hb dX3_cellar_15 (tsw_out (fun i h1 h2 => by
      rcases (show i = 0 ∨ i = 1 ∨ i = 2 ∨ i = 3 by omega) with rfl | rfl | rfl | rfl
      · exact k_15_0
      · exact k_15_1
      · exact k_15_2
      · exact k_15_3
      )) (by decide) ?_
    refine lv_aload_n hx hb dX3_cellar_82 rfl (lv_at hl 0 rfl) ?_
    refine lv_iconst (v := nI 0) hx hb dX3_cellar_83 (by decide) ?_
    refine WR.callV (w1 := TW cI cJ t f g h (va_up τ 9 (cFi (τ 9) 0))) S kv_X3_48 (c_X3_fd0 l D cI cJ t f g h τ) hK hP hD hS hA ([]) ([]) (List.append_nil _).symm (List.append_nil _).symm TW_fst rfl ⟨Nat.le_of_ble_eq_true rfl, Nat.le_of_ble_eq_true rfl⟩ hl.1 rfl rfl (Nat.le_of_ble_eq_true rfl) (Nat.zero_le _) (Nat.zero_le _) dX3_cellar_84 (fun H locs hP hD hS => ?_)
    exact WR.iret S hr hlk hP hS (rfl) rfl dX3_cellar_87
  · refine lv_aload_n hx hb dX3_cellar_8 rfl (lv_at hl 0 rfl) ?_
    refine lv_iconst (v := nI 0) hx hb dX3_cellar_9 (by decide) ?_
    refine WR.callV (w1 := TW cI cJ t f g h (va_up τ 9 (cFi (τ 9) 0))) S kv_X3_48 (c_X3_fd0 l D cI cJ t f g h τ) hK hP hD hS hA ([]) ([]) (List.append_nil _).symm (List.append_nil _).symm TW_fst rfl ⟨Nat.le_of_ble_eq_true rfl, Nat.le_of_ble_eq_true rfl⟩ hl.1 rfl rfl (Nat.le_of_ble_eq_true rfl) (Nat.zero_le _) (Nat.zero_le _) dX3_cellar_10 (fun H locs hP hD hS => ?_)
    exact WR.iret S hr hlk hP hS (rfl) rfl dX3_cellar_13
set_option maxRecDepth 100000 in
set_option maxHeartbeats 4000000 in
theorem c_X3_of_bad (l : Launch) (D : va_G) (cI cJ : ClassId) (t : Nat → Nat) (f g h : Nat → Int32) (τ : Nat → Nat → Int32) (x : Int32) (y : Int32) (n : Nat) (hw : Wk f n) (hb0 : ¬ ((0 ≤ x ∧ x < nI n) ∧ (nI 0 ≤ y ∧ y ≤ nI 9))) : WR l yX3_of cX3_of 3 (some .int) 3 D cI cJ (TW cI cJ t f g h τ) [.ref (t 0), .int x, .int y] (some (.int (-1000001))) (TW cI cJ t f g h (va_up τ 9 (cFi (τ 9) 0))) := by
  refine WR.of (by decide) (Nat.le_of_ble_eq_true rfl) (fun p e s m below meth c ls A S hr hlk hK hP hD hS hA hl => ?_)
  obtain ⟨hx, hb, hml, hown, hU⟩ := id S
  have hl : lv_has ls 3 [(0, .ref (t 0)), (1, .int x), (2, .int y)] := hl
  refine lv_aload_n hx hb dX3_of_0 rfl (lv_at hl 0 rfl) ?_
  refine lv_iload_n hx hb dX3_of_1 rfl (lv_at hl 1 rfl) ?_
  refine RO.callV S kv_X3_72 (c_X3_isCask l D cI cJ t f g h τ x n (hw)) hK hP rfl ⟨Nat.le_of_ble_eq_true rfl, Nat.le_of_ble_eq_true rfl⟩ hl.1 rfl rfl (Nat.le_of_ble_eq_true rfl) (Nat.zero_le _) (Nat.zero_le _) dX3_of_2 ?_
  refine q_if_neB (tgt := 14) hx hb dX3_of_5 (by decide) (fun c_5 => ?_) (fun c_5 => ?_)
  · refine lv_iload_n hx hb dX3_of_14 rfl (lv_at hl 2 rfl) ?_
    refine lv_bipush (v := nI 6) hx hb dX3_of_15 (by decide) ?_
    refine RO.callS S ks_X3_44 (c_X3_isWithin l D cI cJ t f g h τ y (nI 6)) hK hP ⟨Nat.le_of_ble_eq_true rfl, Nat.le_of_ble_eq_true rfl⟩ hl.1 rfl rfl (Nat.le_of_ble_eq_true rfl) (Nat.zero_le _) (Nat.zero_le _) dX3_of_17 ?_
    refine q_if_eqB (tgt := 34) hx hb dX3_of_20 (by decide) (fun c_20 => ?_) (fun c_20 => ?_)
    · refine lv_iload_n hx hb dX3_of_34 rfl (lv_at hl 2 rfl) ?_
      by_cases k_35_7 : y = nI 7
      · refine q_eqi k_35_7 ?_
        refine lv_tableIn (tgt := 60) hx hb dX3_of_35 (by decide) (by decide) rfl (by decide) ?_
        exact absurd (⟨c_5, rg_eq k_35_7 (by decide) (by decide)⟩) hb0
      by_cases k_35_8 : y = nI 8
      · refine q_eqi k_35_8 ?_
        refine lv_tableIn (tgt := 69) hx hb dX3_of_35 (by decide) (by decide) rfl (by decide) ?_
        exact absurd (⟨c_5, rg_eq k_35_8 (by decide) (by decide)⟩) hb0
      by_cases k_35_9 : y = nI 9
      · refine q_eqi k_35_9 ?_
        refine lv_tableIn (tgt := 78) hx hb dX3_of_35 (by decide) (by decide) rfl (by decide) ?_
        exact absurd (⟨c_5, rg_eq k_35_9 (by decide) (by decide)⟩) hb0
      refine lv_tableOut (tgt := 87) hx hb dX3_of_35 (tsw_out (fun i h1 h2 => by
        rcases (show i = 7 ∨ i = 8 ∨ i = 9 by omega) with rfl | rfl | rfl
        · exact k_35_7
        · exact k_35_8
        · exact k_35_9
        )) (by decide) ?_
      refine lv_aload_n hx hb dX3_of_87 rfl (lv_at hl 0 rfl) ?_
      refine lv_iconst (v := nI 0) hx hb dX3_of_88 (by decide) ?_
      refine WR.callV (w1 := TW cI cJ t f g h (va_up τ 9 (cFi (τ 9) 0))) S kv_X3_48 (c_X3_fd0 l D cI cJ t f g h τ) hK hP hD hS hA ([]) ([]) (List.append_nil _).symm (List.append_nil _).symm TW_fst rfl ⟨Nat.le_of_ble_eq_true rfl, Nat.le_of_ble_eq_true rfl⟩ hl.1 rfl rfl (Nat.le_of_ble_eq_true rfl) (Nat.zero_le _) (Nat.zero_le _) dX3_of_89 (fun H locs hP hD hS => ?_)
      exact WR.iret S hr hlk hP hS (rfl) rfl dX3_of_92
    · exact absurd (⟨c_5, rg_le c_20 (by decide) (by decide)⟩) hb0
  · refine lv_aload_n hx hb dX3_of_8 rfl (lv_at hl 0 rfl) ?_
    refine lv_iconst (v := nI 0) hx hb dX3_of_9 (by decide) ?_
    refine WR.callV (w1 := TW cI cJ t f g h (va_up τ 9 (cFi (τ 9) 0))) S kv_X3_48 (c_X3_fd0 l D cI cJ t f g h τ) hK hP hD hS hA ([]) ([]) (List.append_nil _).symm (List.append_nil _).symm TW_fst rfl ⟨Nat.le_of_ble_eq_true rfl, Nat.le_of_ble_eq_true rfl⟩ hl.1 rfl rfl (Nat.le_of_ble_eq_true rfl) (Nat.zero_le _) (Nat.zero_le _) dX3_of_10 (fun H locs hP hD hS => ?_)
    exact WR.iret S hr hlk hP hS (rfl) rfl dX3_of_13
set_option maxRecDepth 100000 in
set_option maxHeartbeats 4000000 in
theorem c_X3_go_ok (l : Launch) (D : va_G) (cI cJ : ClassId) (t : Nat → Nat) (f g h : Nat → Int32) (τ : Nat → Nat → Int32) (u : Nat) (n : Nat) (hw : Wk f n) (d : Nat) (hd : f 1 = nI d) (hp : Pk f n) (hs : Sk f) (ht1 : 1 ≤ u) (ht : u ≤ 60) (hd2 : d + u ≤ 99999) : WR l yX3_go cX3_go 2 (some .int) 6 D cI cJ (TW cI cJ t f g h τ) [.ref (t 0), .int (nI u)] (some (.int (sGo f n u 3))) (TW cI cJ t (sGo f n u) g h τ) := by
  have h8 := hw.2.1
  refine WR.of (by decide) (Nat.le_of_ble_eq_true rfl) (fun p e s m below meth c ls A S hr hlk hK hP hD hS hA hl => ?_)
  obtain ⟨hx, hb, hml, hown, hU⟩ := id S
  have hl : lv_has ls 2 [(0, .ref (t 0)), (1, .int (nI u))] := hl
  refine lv_iload_n hx hb dX3_go_0 rfl (lv_at hl 1 rfl) ?_
  refine lv_iconst (v := nI 1) hx hb dX3_go_1 (by decide) ?_
  refine q_icmp_ltN (tgt := 11) (a := u) (b := 1) hx hb dX3_go_2 (by decide) (by omega) (by omega) (fun h => absurd h (by omega)) (fun _ => ?_)
  refine lv_iload_n hx hb dX3_go_5 rfl (lv_at hl 1 rfl) ?_
  refine lv_bipush (v := nI 60) hx hb dX3_go_6 (by decide) ?_
  refine q_icmp_leN (tgt := 17) (a := u) (b := 60) hx hb dX3_go_8 (by decide) (by omega) (by omega) (fun _ => ?_) (fun h => absurd h (by omega))
  refine lv_aload_n hx hb dX3_go_17 rfl (lv_at hl 0 rfl) ?_
  refine g3_live S hK hP dX3_go_18 ?_
  refine g30_day S hK (TW_live hP) dX3_go_21 ?_
  refine q_eqi (y := nI d) (hd) ?_
  refine lv_iload_n hx hb dX3_go_24 rfl (lv_at hl 1 rfl) ?_
  refine q_iaddN (a := d) (b := u) hx hb dX3_go_25 ?_
  refine lv_ldc (v := nI 99999) hx hb hown (hU _ mK_X3_99) dX3_go_26 ?_
  refine q_icmp_leN (tgt := 37) (a := d + u) (b := 99999) hx hb dX3_go_28 (by decide) (by omega) (by omega) (fun _ => ?_) (fun h => absurd h (by omega))
  refine lv_aload_n hx hb dX3_go_37 rfl (lv_at hl 0 rfl) ?_
  refine g3_live S hK hP dX3_go_38 ?_
  refine lv_iload_n hx hb dX3_go_41 rfl (lv_at hl 1 rfl) ?_
  refine WR.callV (w1 := TW cI cJ t (sGo f n u) g h τ) S kv_X3_100 (c_X0_passDays l D cI cJ (sf t 1) f u n (hw) d (hd) (by omega) (hp) (hs)) hK hP hD hS hA (_) (_) TW_s1 TW_s1 PW_fst rfl ⟨Nat.le_of_ble_eq_true rfl, Nat.le_of_ble_eq_true rfl⟩ hl.1 rfl rfl (Nat.le_of_ble_eq_true rfl) (Nat.zero_le _) (Nat.zero_le _) dX3_go_42 (fun H locs hP hD hS => ?_)
  refine W.eq (g2 := F0 m 45 ls []) rfl ?_
  refine lv_aload_n hx hb dX3_go_45 rfl (lv_at hl 0 rfl) ?_
  refine g3_live S hK hP dX3_go_46 ?_
  refine g30_claps S hK (TW_live hP) dX3_go_49 ?_
  exact WR.iret S hr hlk hP hS (rfl) rfl dX3_go_52
set_option maxRecDepth 100000 in
set_option maxHeartbeats 4000000 in
theorem c_X3_go_bad (l : Launch) (D : va_G) (cI cJ : ClassId) (t : Nat → Nat) (f g h : Nat → Int32) (τ : Nat → Nat → Int32) (x : Int32) (hb0 : ¬ ((nI 1 ≤ x ∧ x ≤ nI 60))) : WR l yX3_go cX3_go 2 (some .int) 6 D cI cJ (TW cI cJ t f g h τ) [.ref (t 0), .int x] (some (.int (-1000001))) (TW cI cJ t f g h (va_up τ 9 (cFi (τ 9) 0))) := by
  refine WR.of (by decide) (Nat.le_of_ble_eq_true rfl) (fun p e s m below meth c ls A S hr hlk hK hP hD hS hA hl => ?_)
  obtain ⟨hx, hb, hml, hown, hU⟩ := id S
  have hl : lv_has ls 2 [(0, .ref (t 0)), (1, .int x)] := hl
  refine lv_iload_n hx hb dX3_go_0 rfl (lv_at hl 1 rfl) ?_
  refine lv_iconst (v := nI 1) hx hb dX3_go_1 (by decide) ?_
  refine lv_icmp_lt (tgt := 11) hx hb dX3_go_2 (by decide) (fun c_2 => ?_) (fun c_2 => ?_)
  · refine lv_aload_n hx hb dX3_go_11 rfl (lv_at hl 0 rfl) ?_
    refine lv_iconst (v := nI 0) hx hb dX3_go_12 (by decide) ?_
    refine WR.callV (w1 := TW cI cJ t f g h (va_up τ 9 (cFi (τ 9) 0))) S kv_X3_48 (c_X3_fd0 l D cI cJ t f g h τ) hK hP hD hS hA ([]) ([]) (List.append_nil _).symm (List.append_nil _).symm TW_fst rfl ⟨Nat.le_of_ble_eq_true rfl, Nat.le_of_ble_eq_true rfl⟩ hl.1 rfl rfl (Nat.le_of_ble_eq_true rfl) (Nat.zero_le _) (Nat.zero_le _) dX3_go_13 (fun H locs hP hD hS => ?_)
    exact WR.iret S hr hlk hP hS (rfl) rfl dX3_go_16
  · refine lv_iload_n hx hb dX3_go_5 rfl (lv_at hl 1 rfl) ?_
    refine lv_bipush (v := nI 60) hx hb dX3_go_6 (by decide) ?_
    refine lv_icmp_le (tgt := 17) hx hb dX3_go_8 (by decide) (fun c_8 => ?_) (fun c_8 => ?_)
    · exact absurd (⟨i32_le_of_not_lt c_2, c_8⟩) hb0
    · refine lv_aload_n hx hb dX3_go_11 rfl (lv_at hl 0 rfl) ?_
      refine lv_iconst (v := nI 0) hx hb dX3_go_12 (by decide) ?_
      refine WR.callV (w1 := TW cI cJ t f g h (va_up τ 9 (cFi (τ 9) 0))) S kv_X3_48 (c_X3_fd0 l D cI cJ t f g h τ) hK hP hD hS hA ([]) ([]) (List.append_nil _).symm (List.append_nil _).symm TW_fst rfl ⟨Nat.le_of_ble_eq_true rfl, Nat.le_of_ble_eq_true rfl⟩ hl.1 rfl rfl (Nat.le_of_ble_eq_true rfl) (Nat.zero_le _) (Nat.zero_le _) dX3_go_13 (fun H locs hP hD hS => ?_)
      exact WR.iret S hr hlk hP hS (rfl) rfl dX3_go_16
set_option maxRecDepth 100000 in
set_option maxHeartbeats 4000000 in
theorem c_X3_now_ok0 (l : Launch) (D : va_G) (cI cJ : ClassId) (t : Nat → Nat) (f g h : Nat → Int32) (τ : Nat → Nat → Int32) (n : Nat) (hw : Wk f n) : WR l yX3_now cX3_now 2 (some .int) 4 D cI cJ (TW cI cJ t f g h τ) [.ref (t 0), .int (nI 0)] (some (.int (f 1))) (TW cI cJ t f g h τ) := by
  have h8 := hw.2.1
  have hp2 : 2 ^ n ≤ 256 := Nat.pow_le_pow_right (n := 2) (by decide) h8
  have hp1 : 1 ≤ 2 ^ n := Nat.one_le_two_pow
  refine WR.of (by decide) (Nat.le_of_ble_eq_true rfl) (fun p e s m below meth c ls A S hr hlk hK hP hD hS hA hl => ?_)
  obtain ⟨hx, hb, hml, hown, hU⟩ := id S
  have hl : lv_has ls 2 [(0, .ref (t 0)), (1, .int (nI 0))] := hl
  refine lv_iload_n hx hb dX3_now_0 rfl (lv_at hl 1 rfl) ?_
  refine lv_tableIn (tgt := 44) hx hb dX3_now_1 (by decide) (by decide) rfl (by decide) ?_
  refine lv_aload_n hx hb dX3_now_44 rfl (lv_at hl 0 rfl) ?_
  refine g3_live S hK hP dX3_now_45 ?_
  refine g30_day S hK (TW_live hP) dX3_now_48 ?_
  exact WR.iret S hr hlk hP hS (rfl) rfl dX3_now_51
set_option maxRecDepth 100000 in
set_option maxHeartbeats 4000000 in
theorem c_X3_now_ok1 (l : Launch) (D : va_G) (cI cJ : ClassId) (t : Nat → Nat) (f g h : Nat → Int32) (τ : Nat → Nat → Int32) (n : Nat) (hw : Wk f n) : WR l yX3_now cX3_now 2 (some .int) 4 D cI cJ (TW cI cJ t f g h τ) [.ref (t 0), .int (nI 1)] (some (.int (f 3))) (TW cI cJ t f g h τ) := by
  have h8 := hw.2.1
  have hp2 : 2 ^ n ≤ 256 := Nat.pow_le_pow_right (n := 2) (by decide) h8
  have hp1 : 1 ≤ 2 ^ n := Nat.one_le_two_pow
  refine WR.of (by decide) (Nat.le_of_ble_eq_true rfl) (fun p e s m below meth c ls A S hr hlk hK hP hD hS hA hl => ?_)
  obtain ⟨hx, hb, hml, hown, hU⟩ := id S
  have hl : lv_has ls 2 [(0, .ref (t 0)), (1, .int (nI 1))] := hl
  refine lv_iload_n hx hb dX3_now_0 rfl (lv_at hl 1 rfl) ?_
  refine lv_tableIn (tgt := 52) hx hb dX3_now_1 (by decide) (by decide) rfl (by decide) ?_
  refine lv_aload_n hx hb dX3_now_52 rfl (lv_at hl 0 rfl) ?_
  refine g3_live S hK hP dX3_now_53 ?_
  refine g30_claps S hK (TW_live hP) dX3_now_56 ?_
  exact WR.iret S hr hlk hP hS (rfl) rfl dX3_now_59
set_option maxRecDepth 100000 in
set_option maxHeartbeats 4000000 in
theorem c_X3_now_ok2 (l : Launch) (D : va_G) (cI cJ : ClassId) (t : Nat → Nat) (f g h : Nat → Int32) (τ : Nat → Nat → Int32) (n : Nat) (hw : Wk f n) : WR l yX3_now cX3_now 2 (some .int) 4 D cI cJ (TW cI cJ t f g h τ) [.ref (t 0), .int (nI 2)] (some (.int (sSm f 2 n))) (TW cI cJ t f g h τ) := by
  have h8 := hw.2.1
  have hp2 : 2 ^ n ≤ 256 := Nat.pow_le_pow_right (n := 2) (by decide) h8
  have hp1 : 1 ≤ 2 ^ n := Nat.one_le_two_pow
  refine WR.of (by decide) (Nat.le_of_ble_eq_true rfl) (fun p e s m below meth c ls A S hr hlk hK hP hD hS hA hl => ?_)
  obtain ⟨hx, hb, hml, hown, hU⟩ := id S
  have hl : lv_has ls 2 [(0, .ref (t 0)), (1, .int (nI 2))] := hl
  refine lv_iload_n hx hb dX3_now_0 rfl (lv_at hl 1 rfl) ?_
  refine lv_tableIn (tgt := 60) hx hb dX3_now_1 (by decide) (by decide) rfl (by decide) ?_
  refine lv_aload_n hx hb dX3_now_60 rfl (lv_at hl 0 rfl) ?_
  refine g3_live S hK hP dX3_now_61 ?_
  refine lv_iconst (v := nI 2) hx hb dX3_now_64 (by decide) ?_
  refine RO.callV S kv_X3_106 (c_X0_sumOf_2 l D cI cJ (sf t 1) f n (hw)) hK (TW_live hP) rfl ⟨Nat.le_of_ble_eq_true rfl, Nat.le_of_ble_eq_true rfl⟩ hl.1 rfl rfl (Nat.le_of_ble_eq_true rfl) (Nat.zero_le _) (Nat.zero_le _) dX3_now_65 ?_
  exact WR.iret S hr hlk hP hS (rfl) rfl dX3_now_68
set_option maxRecDepth 100000 in
set_option maxHeartbeats 4000000 in
theorem c_X3_now_ok3 (l : Launch) (D : va_G) (cI cJ : ClassId) (t : Nat → Nat) (f g h : Nat → Int32) (τ : Nat → Nat → Int32) (n : Nat) (hw : Wk f n) : WR l yX3_now cX3_now 2 (some .int) 4 D cI cJ (TW cI cJ t f g h τ) [.ref (t 0), .int (nI 3)] (some (.int (sSl f n n))) (TW cI cJ t f g h τ) := by
  have h8 := hw.2.1
  have hp2 : 2 ^ n ≤ 256 := Nat.pow_le_pow_right (n := 2) (by decide) h8
  have hp1 : 1 ≤ 2 ^ n := Nat.one_le_two_pow
  refine WR.of (by decide) (Nat.le_of_ble_eq_true rfl) (fun p e s m below meth c ls A S hr hlk hK hP hD hS hA hl => ?_)
  obtain ⟨hx, hb, hml, hown, hU⟩ := id S
  have hl : lv_has ls 2 [(0, .ref (t 0)), (1, .int (nI 3))] := hl
  refine lv_iload_n hx hb dX3_now_0 rfl (lv_at hl 1 rfl) ?_
  refine lv_tableIn (tgt := 69) hx hb dX3_now_1 (by decide) (by decide) rfl (by decide) ?_
  refine lv_aload_n hx hb dX3_now_69 rfl (lv_at hl 0 rfl) ?_
  refine g3_live S hK hP dX3_now_70 ?_
  refine lv_aload_n hx hb dX3_now_73 rfl (lv_at hl 0 rfl) ?_
  refine g3_live S hK hP dX3_now_74 ?_
  refine RO.callV S kv_X3_109 (c_X0_allCasks l D cI cJ (sf t 1) f n (hw)) hK (TW_live hP) rfl ⟨Nat.le_of_ble_eq_true rfl, Nat.le_of_ble_eq_true rfl⟩ hl.1 rfl rfl (Nat.le_of_ble_eq_true rfl) (Nat.zero_le _) (Nat.zero_le _) dX3_now_77 ?_
  refine RO.callV S kv_X3_113 (c_X0_blendOf l D cI cJ (sf t 1) f (2 ^ n - 1) n (hw) (by omega)) hK (TW_live hP) rfl ⟨Nat.le_of_ble_eq_true rfl, Nat.le_of_ble_eq_true rfl⟩ hl.1 rfl rfl (Nat.le_of_ble_eq_true rfl) (Nat.zero_le _) (Nat.zero_le _) dX3_now_80 ?_
  exact WR.iret S hr hlk hP hS (rfl) (congrArg (fun z => some (Value.int z)) ((sBn_all h8 (Nat.le_refl n)).symm)) dX3_now_83
set_option maxRecDepth 100000 in
set_option maxHeartbeats 4000000 in
theorem c_X3_now_ok4 (l : Launch) (D : va_G) (cI cJ : ClassId) (t : Nat → Nat) (f g h : Nat → Int32) (τ : Nat → Nat → Int32) (n : Nat) (hw : Wk f n) : WR l yX3_now cX3_now 2 (some .int) 4 D cI cJ (TW cI cJ t f g h τ) [.ref (t 0), .int (nI 4)] (some (.int (nI (sSt f n n)))) (TW cI cJ t f g h τ) := by
  have h8 := hw.2.1
  have hp2 : 2 ^ n ≤ 256 := Nat.pow_le_pow_right (n := 2) (by decide) h8
  have hp1 : 1 ≤ 2 ^ n := Nat.one_le_two_pow
  refine WR.of (by decide) (Nat.le_of_ble_eq_true rfl) (fun p e s m below meth c ls A S hr hlk hK hP hD hS hA hl => ?_)
  obtain ⟨hx, hb, hml, hown, hU⟩ := id S
  have hl : lv_has ls 2 [(0, .ref (t 0)), (1, .int (nI 4))] := hl
  refine lv_iload_n hx hb dX3_now_0 rfl (lv_at hl 1 rfl) ?_
  refine lv_tableIn (tgt := 84) hx hb dX3_now_1 (by decide) (by decide) rfl (by decide) ?_
  refine lv_aload_n hx hb dX3_now_84 rfl (lv_at hl 0 rfl) ?_
  refine g3_live S hK hP dX3_now_85 ?_
  refine RO.callV S kv_X3_116 (c_X0_setTooLoud l D cI cJ (sf t 1) f n (hw)) hK (TW_live hP) rfl ⟨Nat.le_of_ble_eq_true rfl, Nat.le_of_ble_eq_true rfl⟩ hl.1 rfl rfl (Nat.le_of_ble_eq_true rfl) (Nat.zero_le _) (Nat.zero_le _) dX3_now_88 ?_
  exact WR.iret S hr hlk hP hS (rfl) rfl dX3_now_91
set_option maxRecDepth 100000 in
set_option maxHeartbeats 4000000 in
theorem c_X3_now_ok5 (l : Launch) (D : va_G) (cI cJ : ClassId) (t : Nat → Nat) (f g h : Nat → Int32) (τ : Nat → Nat → Int32) (n : Nat) (hw : Wk f n) (hp : Pk f n) (ha : Ak f n) : WR l yX3_now cX3_now 2 (some .int) 4 D cI cJ (TW cI cJ t f g h τ) [.ref (t 0), .int (nI 5)] (some (.int (oI (sLo f n n)))) (TW cI cJ t f g h τ) := by
  have h8 := hw.2.1
  have hp2 : 2 ^ n ≤ 256 := Nat.pow_le_pow_right (n := 2) (by decide) h8
  have hp1 : 1 ≤ 2 ^ n := Nat.one_le_two_pow
  refine WR.of (by decide) (Nat.le_of_ble_eq_true rfl) (fun p e s m below meth c ls A S hr hlk hK hP hD hS hA hl => ?_)
  obtain ⟨hx, hb, hml, hown, hU⟩ := id S
  have hl : lv_has ls 2 [(0, .ref (t 0)), (1, .int (nI 5))] := hl
  refine lv_iload_n hx hb dX3_now_0 rfl (lv_at hl 1 rfl) ?_
  refine lv_tableIn (tgt := 92) hx hb dX3_now_1 (by decide) (by decide) rfl (by decide) ?_
  refine lv_aload_n hx hb dX3_now_92 rfl (lv_at hl 0 rfl) ?_
  refine g3_live S hK hP dX3_now_93 ?_
  refine RO.callV S kv_X3_119 (c_X0_loudestCask l D cI cJ (sf t 1) f n (hw) (hp) (ha)) hK (TW_live hP) rfl ⟨Nat.le_of_ble_eq_true rfl, Nat.le_of_ble_eq_true rfl⟩ hl.1 rfl rfl (Nat.le_of_ble_eq_true rfl) (Nat.zero_le _) (Nat.zero_le _) dX3_now_96 ?_
  exact WR.iret S hr hlk hP hS (rfl) rfl dX3_now_99
set_option maxRecDepth 100000 in
set_option maxHeartbeats 4000000 in
theorem c_X3_now_ok6 (l : Launch) (D : va_G) (cI cJ : ClassId) (t : Nat → Nat) (f g h : Nat → Int32) (τ : Nat → Nat → Int32) (n : Nat) (hw : Wk f n) : WR l yX3_now cX3_now 2 (some .int) 4 D cI cJ (TW cI cJ t f g h τ) [.ref (t 0), .int (nI 6)] (some (.int (nI (sUs f n)))) (TW cI cJ t f g h τ) := by
  have h8 := hw.2.1
  have hp2 : 2 ^ n ≤ 256 := Nat.pow_le_pow_right (n := 2) (by decide) h8
  have hp1 : 1 ≤ 2 ^ n := Nat.one_le_two_pow
  refine WR.of (by decide) (Nat.le_of_ble_eq_true rfl) (fun p e s m below meth c ls A S hr hlk hK hP hD hS hA hl => ?_)
  obtain ⟨hx, hb, hml, hown, hU⟩ := id S
  have hl : lv_has ls 2 [(0, .ref (t 0)), (1, .int (nI 6))] := hl
  refine lv_iload_n hx hb dX3_now_0 rfl (lv_at hl 1 rfl) ?_
  refine lv_tableIn (tgt := 100) hx hb dX3_now_1 (by decide) (by decide) rfl (by decide) ?_
  refine lv_aload_n hx hb dX3_now_100 rfl (lv_at hl 0 rfl) ?_
  refine g3_live S hK hP dX3_now_101 ?_
  refine RO.callV S kv_X3_122 (c_X0_setOfCellars l D cI cJ (sf t 1) f n (hw)) hK (TW_live hP) rfl ⟨Nat.le_of_ble_eq_true rfl, Nat.le_of_ble_eq_true rfl⟩ hl.1 rfl rfl (Nat.le_of_ble_eq_true rfl) (Nat.zero_le _) (Nat.zero_le _) dX3_now_104 ?_
  exact WR.iret S hr hlk hP hS (rfl) rfl dX3_now_107
set_option maxRecDepth 100000 in
set_option maxHeartbeats 4000000 in
theorem c_X3_now_bad (l : Launch) (D : va_G) (cI cJ : ClassId) (t : Nat → Nat) (f g h : Nat → Int32) (τ : Nat → Nat → Int32) (x : Int32) (hb0 : ¬ ((nI 0 ≤ x ∧ x ≤ nI 6))) : WR l yX3_now cX3_now 2 (some .int) 4 D cI cJ (TW cI cJ t f g h τ) [.ref (t 0), .int x] (some (.int (-1000001))) (TW cI cJ t f g h (va_up τ 9 (cFi (τ 9) 0))) := by
  refine WR.of (by decide) (Nat.le_of_ble_eq_true rfl) (fun p e s m below meth c ls A S hr hlk hK hP hD hS hA hl => ?_)
  obtain ⟨hx, hb, hml, hown, hU⟩ := id S
  have hl : lv_has ls 2 [(0, .ref (t 0)), (1, .int x)] := hl
  refine lv_iload_n hx hb dX3_now_0 rfl (lv_at hl 1 rfl) ?_
  by_cases k_1_0 : x = nI 0
  · refine q_eqi k_1_0 ?_
    refine lv_tableIn (tgt := 44) hx hb dX3_now_1 (by decide) (by decide) rfl (by decide) ?_
    exact absurd (rg_eq k_1_0 (by decide) (by decide)) hb0
  by_cases k_1_1 : x = nI 1
  · refine q_eqi k_1_1 ?_
    refine lv_tableIn (tgt := 52) hx hb dX3_now_1 (by decide) (by decide) rfl (by decide) ?_
    exact absurd (rg_eq k_1_1 (by decide) (by decide)) hb0
  by_cases k_1_2 : x = nI 2
  · refine q_eqi k_1_2 ?_
    refine lv_tableIn (tgt := 60) hx hb dX3_now_1 (by decide) (by decide) rfl (by decide) ?_
    exact absurd (rg_eq k_1_2 (by decide) (by decide)) hb0
  by_cases k_1_3 : x = nI 3
  · refine q_eqi k_1_3 ?_
    refine lv_tableIn (tgt := 69) hx hb dX3_now_1 (by decide) (by decide) rfl (by decide) ?_
    exact absurd (rg_eq k_1_3 (by decide) (by decide)) hb0
  by_cases k_1_4 : x = nI 4
  · refine q_eqi k_1_4 ?_
    refine lv_tableIn (tgt := 84) hx hb dX3_now_1 (by decide) (by decide) rfl (by decide) ?_
    exact absurd (rg_eq k_1_4 (by decide) (by decide)) hb0
  by_cases k_1_5 : x = nI 5
  · refine q_eqi k_1_5 ?_
    refine lv_tableIn (tgt := 92) hx hb dX3_now_1 (by decide) (by decide) rfl (by decide) ?_
    exact absurd (rg_eq k_1_5 (by decide) (by decide)) hb0
  by_cases k_1_6 : x = nI 6
  · refine q_eqi k_1_6 ?_
    refine lv_tableIn (tgt := 100) hx hb dX3_now_1 (by decide) (by decide) rfl (by decide) ?_
    exact absurd (rg_eq k_1_6 (by decide) (by decide)) hb0
  refine lv_tableOut (tgt := 108) hx hb dX3_now_1 (tsw_out (fun i h1 h2 => by
    rcases (show i = 0 ∨ i = 1 ∨ i = 2 ∨ i = 3 ∨ i = 4 ∨ i = 5 ∨ i = 6 by omega) with rfl | rfl | rfl | rfl | rfl | rfl | rfl
    · exact k_1_0
    · exact k_1_1
    · exact k_1_2
    · exact k_1_3
    · exact k_1_4
    · exact k_1_5
    · exact k_1_6
    )) (by decide) ?_
  refine lv_aload_n hx hb dX3_now_108 rfl (lv_at hl 0 rfl) ?_
  refine lv_iconst (v := nI 0) hx hb dX3_now_109 (by decide) ?_
  refine WR.callV (w1 := TW cI cJ t f g h (va_up τ 9 (cFi (τ 9) 0))) S kv_X3_48 (c_X3_fd0 l D cI cJ t f g h τ) hK hP hD hS hA ([]) ([]) (List.append_nil _).symm (List.append_nil _).symm TW_fst rfl ⟨Nat.le_of_ble_eq_true rfl, Nat.le_of_ble_eq_true rfl⟩ hl.1 rfl rfl (Nat.le_of_ble_eq_true rfl) (Nat.zero_le _) (Nat.zero_le _) dX3_now_110 (fun H locs hP hD hS => ?_)
  exact WR.iret S hr hlk hP hS (rfl) rfl dX3_now_113
set_option maxRecDepth 100000 in
set_option maxHeartbeats 4000000 in
theorem c_X3_blend_ok (l : Launch) (D : va_G) (cI cJ : ClassId) (t : Nat → Nat) (f g h : Nat → Int32) (τ : Nat → Nat → Int32) (q : Nat) (n : Nat) (hw : Wk f n) (hq : q ≤ 2 ^ n - 1) : WR l yX3_blend cX3_blend 2 (some .int) 4 D cI cJ (TW cI cJ t f g h τ) [.ref (t 0), .int (nI q)] (some (.int (sBn f n q n))) (TW cI cJ t f g h τ) := by
  have h8 := hw.2.1
  have hp2 : 2 ^ n ≤ 256 := Nat.pow_le_pow_right (n := 2) (by decide) h8
  have hp1 : 1 ≤ 2 ^ n := Nat.one_le_two_pow
  refine WR.of (by decide) (Nat.le_of_ble_eq_true rfl) (fun p e s m below meth c ls A S hr hlk hK hP hD hS hA hl => ?_)
  obtain ⟨hx, hb, hml, hown, hU⟩ := id S
  have hl : lv_has ls 2 [(0, .ref (t 0)), (1, .int (nI q))] := hl
  refine lv_iload_n hx hb dX3_blend_0 rfl (lv_at hl 1 rfl) ?_
  refine lv_aload_n hx hb dX3_blend_1 rfl (lv_at hl 0 rfl) ?_
  refine g3_live S hK hP dX3_blend_2 ?_
  refine RO.callV S kv_X3_109 (c_X0_allCasks l D cI cJ (sf t 1) f n (hw)) hK (TW_live hP) rfl ⟨Nat.le_of_ble_eq_true rfl, Nat.le_of_ble_eq_true rfl⟩ hl.1 rfl rfl (Nat.le_of_ble_eq_true rfl) (Nat.zero_le _) (Nat.zero_le _) dX3_blend_5 ?_
  refine RO.callS S ks_X3_44 (c_X3_isWithin l D cI cJ t f g h τ (nI q) (nI (2 ^ n - 1))) hK hP ⟨Nat.le_of_ble_eq_true rfl, Nat.le_of_ble_eq_true rfl⟩ hl.1 rfl rfl (Nat.le_of_ble_eq_true rfl) (Nat.zero_le _) (Nat.zero_le _) dX3_blend_8 ?_
  refine q_if_neB (tgt := 20) hx hb dX3_blend_11 (by decide) (fun _ => ?_) (fun h => absurd (⟨nI_le (by omega) (by omega), nI_le (by omega) (by omega)⟩) h)
  refine lv_aload_n hx hb dX3_blend_20 rfl (lv_at hl 0 rfl) ?_
  refine g3_live S hK hP dX3_blend_21 ?_
  refine lv_iload_n hx hb dX3_blend_24 rfl (lv_at hl 1 rfl) ?_
  refine RO.callV S kv_X3_113 (c_X0_blendOf l D cI cJ (sf t 1) f q n (hw) (by omega)) hK (TW_live hP) rfl ⟨Nat.le_of_ble_eq_true rfl, Nat.le_of_ble_eq_true rfl⟩ hl.1 rfl rfl (Nat.le_of_ble_eq_true rfl) (Nat.zero_le _) (Nat.zero_le _) dX3_blend_25 ?_
  exact WR.iret S hr hlk hP hS (rfl) rfl dX3_blend_28
set_option maxRecDepth 100000 in
set_option maxHeartbeats 4000000 in
theorem c_X3_blend_bad (l : Launch) (D : va_G) (cI cJ : ClassId) (t : Nat → Nat) (f g h : Nat → Int32) (τ : Nat → Nat → Int32) (x : Int32) (n : Nat) (hw : Wk f n) (hb0 : ¬ (nI 0 ≤ x ∧ x ≤ nI (2 ^ n - 1))) : WR l yX3_blend cX3_blend 2 (some .int) 4 D cI cJ (TW cI cJ t f g h τ) [.ref (t 0), .int x] (some (.int (-1000001))) (TW cI cJ t f g h (va_up τ 9 (cFi (τ 9) 0))) := by
  have h8 := hw.2.1
  have hp2 : 2 ^ n ≤ 256 := Nat.pow_le_pow_right (n := 2) (by decide) h8
  have hp1 : 1 ≤ 2 ^ n := Nat.one_le_two_pow
  refine WR.of (by decide) (Nat.le_of_ble_eq_true rfl) (fun p e s m below meth c ls A S hr hlk hK hP hD hS hA hl => ?_)
  obtain ⟨hx, hb, hml, hown, hU⟩ := id S
  have hl : lv_has ls 2 [(0, .ref (t 0)), (1, .int x)] := hl
  refine lv_iload_n hx hb dX3_blend_0 rfl (lv_at hl 1 rfl) ?_
  refine lv_aload_n hx hb dX3_blend_1 rfl (lv_at hl 0 rfl) ?_
  refine g3_live S hK hP dX3_blend_2 ?_
  refine RO.callV S kv_X3_109 (c_X0_allCasks l D cI cJ (sf t 1) f n (hw)) hK (TW_live hP) rfl ⟨Nat.le_of_ble_eq_true rfl, Nat.le_of_ble_eq_true rfl⟩ hl.1 rfl rfl (Nat.le_of_ble_eq_true rfl) (Nat.zero_le _) (Nat.zero_le _) dX3_blend_5 ?_
  refine RO.callS S ks_X3_44 (c_X3_isWithin l D cI cJ t f g h τ x (nI (2 ^ n - 1))) hK hP ⟨Nat.le_of_ble_eq_true rfl, Nat.le_of_ble_eq_true rfl⟩ hl.1 rfl rfl (Nat.le_of_ble_eq_true rfl) (Nat.zero_le _) (Nat.zero_le _) dX3_blend_8 ?_
  refine q_if_neB (tgt := 20) hx hb dX3_blend_11 (by decide) (fun c_11 => ?_) (fun c_11 => ?_)
  · exact absurd (c_11) hb0
  · refine lv_aload_n hx hb dX3_blend_14 rfl (lv_at hl 0 rfl) ?_
    refine lv_iconst (v := nI 0) hx hb dX3_blend_15 (by decide) ?_
    refine WR.callV (w1 := TW cI cJ t f g h (va_up τ 9 (cFi (τ 9) 0))) S kv_X3_48 (c_X3_fd0 l D cI cJ t f g h τ) hK hP hD hS hA ([]) ([]) (List.append_nil _).symm (List.append_nil _).symm TW_fst rfl ⟨Nat.le_of_ble_eq_true rfl, Nat.le_of_ble_eq_true rfl⟩ hl.1 rfl rfl (Nat.le_of_ble_eq_true rfl) (Nat.zero_le _) (Nat.zero_le _) dX3_blend_16 (fun H locs hP hD hS => ?_)
    exact WR.iret S hr hlk hP hS (rfl) rfl dX3_blend_19
set_option maxRecDepth 100000 in
set_option maxHeartbeats 4000000 in
theorem c_X3_blends_ok (l : Launch) (D : va_G) (cI cJ : ClassId) (t : Nat → Nat) (f g h : Nat → Int32) (τ : Nat → Nat → Int32) (v : Nat) (w : Nat) (n : Nat) (hw : Wk f n) (hv : v ≤ 9999) (hw9 : w ≤ 9999) : WR l yX3_blends cX3_blends 7 (some .int) 4 D cI cJ (TW cI cJ t f g h τ) [.ref (t 0), .int (nI v), .int (nI w)] (some (.int (nI (cBl f n (nI v) (nI w))))) (TW cI cJ t f g h τ) := by
  have h8 := hw.2.1
  have hp2 : 2 ^ n ≤ 256 := Nat.pow_le_pow_right (n := 2) (by decide) h8
  have hp1 : 1 ≤ 2 ^ n := Nat.one_le_two_pow
  refine WR.of (by decide) (Nat.le_of_ble_eq_true rfl) (fun p e s m below meth c ls A S hr hlk hK hP hD hS hA hl => ?_)
  obtain ⟨hx, hb, hml, hown, hU⟩ := id S
  have hl : lv_has ls 7 [(0, .ref (t 0)), (1, .int (nI v)), (2, .int (nI w))] := hl
  refine lv_iload_n hx hb dX3_blends_0 rfl (lv_at hl 1 rfl) ?_
  refine lv_sipush (v := nI 9999) hx hb dX3_blends_1 (by decide) ?_
  refine RO.callS S ks_X3_44 (c_X3_isWithin l D cI cJ t f g h τ (nI v) (nI 9999)) hK hP ⟨Nat.le_of_ble_eq_true rfl, Nat.le_of_ble_eq_true rfl⟩ hl.1 rfl rfl (Nat.le_of_ble_eq_true rfl) (Nat.zero_le _) (Nat.zero_le _) dX3_blends_4 ?_
  refine q_if_eqB (tgt := 20) hx hb dX3_blends_7 (by decide) (fun h => absurd (⟨nI_le (by omega) (by omega), nI_le (by omega) (by omega)⟩) h) (fun _ => ?_)
  refine lv_iload_n hx hb dX3_blends_10 rfl (lv_at hl 2 rfl) ?_
  refine lv_sipush (v := nI 9999) hx hb dX3_blends_11 (by decide) ?_
  refine RO.callS S ks_X3_44 (c_X3_isWithin l D cI cJ t f g h τ (nI w) (nI 9999)) hK hP ⟨Nat.le_of_ble_eq_true rfl, Nat.le_of_ble_eq_true rfl⟩ hl.1 rfl rfl (Nat.le_of_ble_eq_true rfl) (Nat.zero_le _) (Nat.zero_le _) dX3_blends_14 ?_
  refine q_if_neB (tgt := 26) hx hb dX3_blends_17 (by decide) (fun _ => ?_) (fun h => absurd (⟨nI_le (by omega) (by omega), nI_le (by omega) (by omega)⟩) h)
  refine lv_aload_n hx hb dX3_blends_26 rfl (lv_at hl 0 rfl) ?_
  refine g3_live S hK hP dX3_blends_27 ?_
  refine RO.callV S kv_X3_109 (c_X0_allCasks l D cI cJ (sf t 1) f n (hw)) hK (TW_live hP) rfl ⟨Nat.le_of_ble_eq_true rfl, Nat.le_of_ble_eq_true rfl⟩ hl.1 rfl rfl (Nat.le_of_ble_eq_true rfl) (Nat.zero_le _) (Nat.zero_le _) dX3_blends_30 ?_
  refine lv_istore_n (lv' := [(3, .int (nI (2 ^ n - 1))), (0, .ref (t 0)), (1, .int (nI v)), (2, .int (nI w))]) hx hb dX3_blends_33 rfl hl (by decide) rfl (fun ls hl => ?_)
  refine lv_iconst (v := nI 0) hx hb dX3_blends_34 (by decide) ?_
  refine lv_istore (lv' := [(4, .int (nI 0)), (3, .int (nI (2 ^ n - 1))), (0, .ref (t 0)), (1, .int (nI v)), (2, .int (nI w))]) hx hb dX3_blends_35 hl (by decide) rfl (fun ls hl => ?_)
  refine lv_iconst (v := nI 0) hx hb dX3_blends_37 (by decide) ?_
  refine lv_istore (lv' := [(5, .int (nI 0)), (4, .int (nI 0)), (3, .int (nI (2 ^ n - 1))), (0, .ref (t 0)), (1, .int (nI v)), (2, .int (nI w))]) hx hb dX3_blends_38 hl (by decide) rfl (fun ls hl => ?_)
  have L_40 : ∀ (n9 : Nat) (j : Nat) (H : Heap) (locs : List Loc) (ls : Array Slot), 2 ^ n - j < n9 → (j ≤ 2 ^ n) → va_P D vwCl (TW cI cJ t f g h τ) H → va_D A (TW cI cJ t f g h τ) → va_S A s.heap H locs → lv_has ls 7 [(0, .ref (t 0)), (1, .int (nI v)), (2, .int (nI w)), (3, .int (nI (2 ^ n - 1))), (4, .int (nI (sCt (fun s => decide (nI v ≤ sBn f n s n ∧ sBn f n s n ≤ nI w)) j))), (5, .int (nI j))] → W p l e (rmd 4) s m ([.ref (t 0), .int (nI v), .int (nI w)] : List Value).toArray below meth c H locs 0 0 (ZW below ([.ref (t 0), .int (nI v), .int (nI w)] : List Value).toArray s D (some (.int (nI (cBl f n (nI v) (nI w))))) (TW cI cJ t f g h τ) A) (F0 m 40 ls []) := by
    intro n9
    induction n9 with
    | zero => intro j H locs ls hmeas; exact absurd hmeas (Nat.not_lt_zero _)
    | succ n9 ih_40 =>
      intro j H locs ls hmeas hj hP hD hS hl
      have hcl := sCt_le (p := fun s => decide (nI v ≤ sBn f n s n ∧ sBn f n s n ≤ nI w)) (j := j)
      refine lv_iload hx hb dX3_blends_40 (lv_at hl 5 rfl) ?_
      refine lv_iload_n hx hb dX3_blends_42 rfl (lv_at hl 3 rfl) ?_
      refine q_icmp_gtN (tgt := 78) (a := j) (b := 2 ^ n - 1) hx hb dX3_blends_43 (by decide) (by omega) (by omega) (fun c_43 => ?_) (fun c_43 => ?_)
      · refine lv_iload hx hb dX3_blends_78 (lv_at hl 4 rfl) ?_
        exact WR.iret S hr hlk hP hS (rfl) (congrArg (fun z => some (Value.int z)) (by rw [show j = 2 ^ n by omega]; rfl)) dX3_blends_80
      · refine lv_aload_n hx hb dX3_blends_46 rfl (lv_at hl 0 rfl) ?_
        refine g3_live S hK hP dX3_blends_47 ?_
        refine lv_iload hx hb dX3_blends_50 (lv_at hl 5 rfl) ?_
        refine RO.callV S kv_X3_113 (c_X0_blendOf l D cI cJ (sf t 1) f j n (hw) (by omega)) hK (TW_live hP) rfl ⟨Nat.le_of_ble_eq_true rfl, Nat.le_of_ble_eq_true rfl⟩ hl.1 rfl rfl (Nat.le_of_ble_eq_true rfl) (Nat.zero_le _) (Nat.zero_le _) dX3_blends_52 ?_
        refine lv_istore (lv' := [(6, .int (sBn f n j n)), (0, .ref (t 0)), (1, .int (nI v)), (2, .int (nI w)), (3, .int (nI (2 ^ n - 1))), (4, .int (nI (sCt (fun s => decide (nI v ≤ sBn f n s n ∧ sBn f n s n ≤ nI w)) j))), (5, .int (nI j))]) hx hb dX3_blends_55 hl (by decide) rfl (fun ls hl => ?_)
        refine lv_iload hx hb dX3_blends_57 (lv_at hl 0 rfl) ?_
        refine lv_iload_n hx hb dX3_blends_59 rfl (lv_at hl 2 rfl) ?_
        refine lv_icmp_lt (tgt := 72) hx hb dX3_blends_60 (by decide) (fun c_60 => ?_) (fun c_60 => ?_)
        · refine lv_iinc (v := nI (j + 1)) (lv' := [(5, .int (nI (j + 1))), (6, .int (sBn f n j n)), (0, .ref (t 0)), (1, .int (nI v)), (2, .int (nI w)), (3, .int (nI (2 ^ n - 1))), (4, .int (nI (sCt (fun s => decide (nI v ≤ sBn f n s n ∧ sBn f n s n ≤ nI w)) j)))]) hx hb dX3_blends_72 hl (k := 6) rfl (q_inc _) (by decide) rfl (fun ls hl => ?_)
          refine lv_goto (tgt := 40) hx hb dX3_blends_75 (by decide) ?_
          exact ih_40 (j + 1) _ _ ls (by omega) (by omega) hP hD hS (by rw [show nI (sCt (fun s => decide (nI v ≤ sBn f n s n ∧ sBn f n s n ≤ nI w)) (j + 1)) = nI (sCt (fun s => decide (nI v ≤ sBn f n s n ∧ sBn f n s n ≤ nI w)) j) from congrArg nI (sCt_0 (p := fun s => decide (nI v ≤ sBn f n s n ∧ sBn f n s n ≤ nI w)) (by simpa using fun q => absurd q (i32_not_le_of_lt c_60)))]; exact lv_sub hl [2, 3, 4, 5, 6, 0] rfl)
        · refine lv_iload hx hb dX3_blends_63 (lv_at hl 0 rfl) ?_
          refine lv_iload_n hx hb dX3_blends_65 rfl (lv_at hl 3 rfl) ?_
          refine lv_icmp_gt (tgt := 72) hx hb dX3_blends_66 (by decide) (fun c_66 => ?_) (fun c_66 => ?_)
          · refine lv_iinc (v := nI (j + 1)) (lv' := [(5, .int (nI (j + 1))), (6, .int (sBn f n j n)), (0, .ref (t 0)), (1, .int (nI v)), (2, .int (nI w)), (3, .int (nI (2 ^ n - 1))), (4, .int (nI (sCt (fun s => decide (nI v ≤ sBn f n s n ∧ sBn f n s n ≤ nI w)) j)))]) hx hb dX3_blends_72 hl (k := 6) rfl (q_inc _) (by decide) rfl (fun ls hl => ?_)
            refine lv_goto (tgt := 40) hx hb dX3_blends_75 (by decide) ?_
            exact ih_40 (j + 1) _ _ ls (by omega) (by omega) hP hD hS (by rw [show nI (sCt (fun s => decide (nI v ≤ sBn f n s n ∧ sBn f n s n ≤ nI w)) (j + 1)) = nI (sCt (fun s => decide (nI v ≤ sBn f n s n ∧ sBn f n s n ≤ nI w)) j) from congrArg nI (sCt_0 (p := fun s => decide (nI v ≤ sBn f n s n ∧ sBn f n s n ≤ nI w)) (by simpa using fun _ => c_66))]; exact lv_sub hl [2, 3, 4, 5, 6, 0] rfl)
          · refine lv_iinc (v := nI (sCt (fun s => decide (nI v ≤ sBn f n s n ∧ sBn f n s n ≤ nI w)) j + 1)) (lv' := [(4, .int (nI (sCt (fun s => decide (nI v ≤ sBn f n s n ∧ sBn f n s n ≤ nI w)) j + 1))), (6, .int (sBn f n j n)), (0, .ref (t 0)), (1, .int (nI v)), (2, .int (nI w)), (3, .int (nI (2 ^ n - 1))), (5, .int (nI j))]) hx hb dX3_blends_69 hl (k := 5) rfl (q_inc _) (by decide) rfl (fun ls hl => ?_)
            refine lv_iinc (v := nI (j + 1)) (lv' := [(5, .int (nI (j + 1))), (4, .int (nI (sCt (fun s => decide (nI v ≤ sBn f n s n ∧ sBn f n s n ≤ nI w)) j + 1))), (6, .int (sBn f n j n)), (0, .ref (t 0)), (1, .int (nI v)), (2, .int (nI w)), (3, .int (nI (2 ^ n - 1)))]) hx hb dX3_blends_72 hl (k := 6) rfl (q_inc _) (by decide) rfl (fun ls hl => ?_)
            refine lv_goto (tgt := 40) hx hb dX3_blends_75 (by decide) ?_
            exact ih_40 (j + 1) _ _ ls (by omega) (by omega) hP hD hS (by rw [show nI (sCt (fun s => decide (nI v ≤ sBn f n s n ∧ sBn f n s n ≤ nI w)) (j + 1)) = nI (sCt (fun s => decide (nI v ≤ sBn f n s n ∧ sBn f n s n ≤ nI w)) j + 1) from congrArg nI (sCt_1 (p := fun s => decide (nI v ≤ sBn f n s n ∧ sBn f n s n ≤ nI w)) (by simpa using ⟨i32_le_of_not_lt c_60, i32_le_of_not_lt c_66⟩))]; exact lv_sub hl [3, 4, 5, 6, 1, 0] rfl)
  exact L_40 ((2 ^ n - 0) + 1) 0 _ _ ls (Nat.lt_succ_self _) (Nat.zero_le _) hP hD hS (lv_sub hl [3, 4, 5, 2, 1, 0] rfl)
set_option maxRecDepth 100000 in
set_option maxHeartbeats 4000000 in
theorem c_X3_blends_bad (l : Launch) (D : va_G) (cI cJ : ClassId) (t : Nat → Nat) (f g h : Nat → Int32) (τ : Nat → Nat → Int32) (x : Int32) (y : Int32) (hb0 : ¬ ((nI 0 ≤ x ∧ x ≤ nI 9999) ∧ (nI 0 ≤ y ∧ y ≤ nI 9999))) : WR l yX3_blends cX3_blends 7 (some .int) 4 D cI cJ (TW cI cJ t f g h τ) [.ref (t 0), .int x, .int y] (some (.int (-1000001))) (TW cI cJ t f g h (va_up τ 9 (cFi (τ 9) 0))) := by
  refine WR.of (by decide) (Nat.le_of_ble_eq_true rfl) (fun p e s m below meth c ls A S hr hlk hK hP hD hS hA hl => ?_)
  obtain ⟨hx, hb, hml, hown, hU⟩ := id S
  have hl : lv_has ls 7 [(0, .ref (t 0)), (1, .int x), (2, .int y)] := hl
  refine lv_iload_n hx hb dX3_blends_0 rfl (lv_at hl 1 rfl) ?_
  refine lv_sipush (v := nI 9999) hx hb dX3_blends_1 (by decide) ?_
  refine RO.callS S ks_X3_44 (c_X3_isWithin l D cI cJ t f g h τ x (nI 9999)) hK hP ⟨Nat.le_of_ble_eq_true rfl, Nat.le_of_ble_eq_true rfl⟩ hl.1 rfl rfl (Nat.le_of_ble_eq_true rfl) (Nat.zero_le _) (Nat.zero_le _) dX3_blends_4 ?_
  refine q_if_eqB (tgt := 20) hx hb dX3_blends_7 (by decide) (fun c_7 => ?_) (fun c_7 => ?_)
  · refine lv_aload_n hx hb dX3_blends_20 rfl (lv_at hl 0 rfl) ?_
    refine lv_iconst (v := nI 0) hx hb dX3_blends_21 (by decide) ?_
    refine WR.callV (w1 := TW cI cJ t f g h (va_up τ 9 (cFi (τ 9) 0))) S kv_X3_48 (c_X3_fd0 l D cI cJ t f g h τ) hK hP hD hS hA ([]) ([]) (List.append_nil _).symm (List.append_nil _).symm TW_fst rfl ⟨Nat.le_of_ble_eq_true rfl, Nat.le_of_ble_eq_true rfl⟩ hl.1 rfl rfl (Nat.le_of_ble_eq_true rfl) (Nat.zero_le _) (Nat.zero_le _) dX3_blends_22 (fun H locs hP hD hS => ?_)
    exact WR.iret S hr hlk hP hS (rfl) rfl dX3_blends_25
  · refine lv_iload_n hx hb dX3_blends_10 rfl (lv_at hl 2 rfl) ?_
    refine lv_sipush (v := nI 9999) hx hb dX3_blends_11 (by decide) ?_
    refine RO.callS S ks_X3_44 (c_X3_isWithin l D cI cJ t f g h τ y (nI 9999)) hK hP ⟨Nat.le_of_ble_eq_true rfl, Nat.le_of_ble_eq_true rfl⟩ hl.1 rfl rfl (Nat.le_of_ble_eq_true rfl) (Nat.zero_le _) (Nat.zero_le _) dX3_blends_14 ?_
    refine q_if_neB (tgt := 26) hx hb dX3_blends_17 (by decide) (fun c_17 => ?_) (fun c_17 => ?_)
    · exact absurd (⟨c_7, c_17⟩) hb0
    · refine lv_aload_n hx hb dX3_blends_20 rfl (lv_at hl 0 rfl) ?_
      refine lv_iconst (v := nI 0) hx hb dX3_blends_21 (by decide) ?_
      refine WR.callV (w1 := TW cI cJ t f g h (va_up τ 9 (cFi (τ 9) 0))) S kv_X3_48 (c_X3_fd0 l D cI cJ t f g h τ) hK hP hD hS hA ([]) ([]) (List.append_nil _).symm (List.append_nil _).symm TW_fst rfl ⟨Nat.le_of_ble_eq_true rfl, Nat.le_of_ble_eq_true rfl⟩ hl.1 rfl rfl (Nat.le_of_ble_eq_true rfl) (Nat.zero_le _) (Nat.zero_le _) dX3_blends_22 (fun H locs hP hD hS => ?_)
      exact WR.iret S hr hlk hP hS (rfl) rfl dX3_blends_25
set_option maxRecDepth 100000 in
set_option maxHeartbeats 4000000 in
theorem c_X3_storms_ok (l : Launch) (D : va_G) (cI cJ : ClassId) (t : Nat → Nat) (f g h : Nat → Int32) (τ : Nat → Nat → Int32) (u : Nat) (n : Nat) (hw : Wk f n) (d : Nat) (hd : f 1 = nI d) (hp : Pk f n) (hs : Sk f) (ht1 : 1 ≤ u) (ht : u ≤ 20) (hd2 : d + 20 ≤ 99999) : WR l yX3_storms cX3_storms 4 (some .int) 6 D cI cJ (TW cI cJ t f g h τ) [.ref (t 0), .int (nI u)] (some (.int (sSs f n u 3))) (TW cI cJ t (sSs f n u) g h τ) := by
  have h8 := hw.2.1
  have hw0 := hw
  have hd0 := hd
  refine WR.of (by decide) (Nat.le_of_ble_eq_true rfl) (fun p e s m below meth c ls A S hr hlk hK hP hD hS hA hl => ?_)
  obtain ⟨hx, hb, hml, hown, hU⟩ := id S
  have hl : lv_has ls 4 [(0, .ref (t 0)), (1, .int (nI u))] := hl
  refine lv_iload_n hx hb dX3_storms_0 rfl (lv_at hl 1 rfl) ?_
  refine lv_iconst (v := nI 1) hx hb dX3_storms_1 (by decide) ?_
  refine q_icmp_ltN (tgt := 11) (a := u) (b := 1) hx hb dX3_storms_2 (by decide) (by omega) (by omega) (fun h => absurd h (by omega)) (fun _ => ?_)
  refine lv_iload_n hx hb dX3_storms_5 rfl (lv_at hl 1 rfl) ?_
  refine lv_bipush (v := nI 20) hx hb dX3_storms_6 (by decide) ?_
  refine q_icmp_leN (tgt := 17) (a := u) (b := 20) hx hb dX3_storms_8 (by decide) (by omega) (by omega) (fun _ => ?_) (fun h => absurd h (by omega))
  refine lv_aload_n hx hb dX3_storms_17 rfl (lv_at hl 0 rfl) ?_
  refine g3_live S hK hP dX3_storms_18 ?_
  refine g30_day S hK (TW_live hP) dX3_storms_21 ?_
  refine q_eqi (y := nI d) (hd) ?_
  refine lv_iload_n hx hb dX3_storms_24 rfl (lv_at hl 1 rfl) ?_
  refine q_iaddN (a := d) (b := u) hx hb dX3_storms_25 ?_
  refine lv_ldc (v := nI 99999) hx hb hown (hU _ mK_X3_99) dX3_storms_26 ?_
  refine q_icmp_leN (tgt := 37) (a := d + u) (b := 99999) hx hb dX3_storms_28 (by decide) (by omega) (by omega) (fun _ => ?_) (fun h => absurd h (by omega))
  refine lv_iconst (v := nI 0) hx hb dX3_storms_37 (by decide) ?_
  refine lv_istore_n (lv' := [(2, .int (nI 0)), (0, .ref (t 0)), (1, .int (nI u))]) hx hb dX3_storms_38 rfl hl (by decide) rfl (fun ls hl => ?_)
  have L_39 : ∀ (n9 : Nat) (j : Nat) (H : Heap) (locs : List Loc) (ls : Array Slot), u - j < n9 → (j ≤ u) → (Wk (sSs f n j) n) → (sSs f n j 1 = nI (d + j)) → (Pk (sSs f n j) n) → (Sk (sSs f n j)) → va_P D vwCl (TW cI cJ t (sSs f n j) g h τ) H → va_D A (TW cI cJ t (sSs f n j) g h τ) → va_S A s.heap H locs → lv_has ls 4 [(0, .ref (t 0)), (1, .int (nI u)), (2, .int (nI j))] → W p l e (rmd 6) s m ([.ref (t 0), .int (nI u)] : List Value).toArray below meth c H locs 0 0 (ZW below ([.ref (t 0), .int (nI u)] : List Value).toArray s D (some (.int (sSs f n u 3))) (TW cI cJ t (sSs f n u) g h τ) A) (F0 m 39 ls []) := by
    intro n9
    induction n9 with
    | zero => intro j H locs ls hmeas; exact absurd hmeas (Nat.not_lt_zero _)
    | succ n9 ih_39 =>
      intro j H locs ls hmeas hj hw hd hp hs hP hD hS hl
      have hz1 := (sDr_n (sSs f n j)).2
      have hz2 := (sDr_n (sDz (sSs f n j))).2
      refine lv_iload_n hx hb dX3_storms_39 rfl (lv_at hl 2 rfl) ?_
      refine lv_iload_n hx hb dX3_storms_40 rfl (lv_at hl 1 rfl) ?_
      refine q_icmp_geN (tgt := 88) (a := j) (b := u) hx hb dX3_storms_41 (by decide) (by omega) (by omega) (fun c_41 => ?_) (fun c_41 => ?_)
      · refine lv_aload_n hx hb dX3_storms_88 rfl (lv_at hl 0 rfl) ?_
        refine g3_live S hK hP dX3_storms_89 ?_
        refine g30_claps S hK (TW_live hP) dX3_storms_92 ?_
        exact WR.iret S hr hlk hP hS (by rw [show j = u by omega]) (congrArg (fun z => some (Value.int z)) (by rw [show j = u by omega])) dX3_storms_95
      · refine lv_aload_n hx hb dX3_storms_44 rfl (lv_at hl 0 rfl) ?_
        refine g3_live S hK hP dX3_storms_45 ?_
        refine WR.callV (w1 := TW cI cJ t (sDz (sSs f n j)) g h τ) S kv_X3_163 (c_X0_draw l D cI cJ (sf t 1) (sSs f n j)) hK hP hD hS hA (_) (_) TW_s1 TW_s1 PW_fst rfl ⟨Nat.le_of_ble_eq_true rfl, Nat.le_of_ble_eq_true rfl⟩ hl.1 rfl rfl (Nat.le_of_ble_eq_true rfl) (Nat.zero_le _) (Nat.zero_le _) dX3_storms_48 (fun H locs hP hD hS => ?_)
        refine q_eqi (y := nI (sDn (sSs f n j))) ((sDr_n (sSs f n j)).1) ?_
        refine lv_bipush (v := nI 6) hx hb dX3_storms_51 (by decide) ?_
        refine q_iremN (a := sDn (sSs f n j)) (b := 6) hx hb dX3_storms_53 (by omega) (by omega) (by omega) ?_
        refine lv_istore_n (lv' := [(3, .int (nI ((sDn (sSs f n j)) % 6))), (0, .ref (t 0)), (1, .int (nI u)), (2, .int (nI j))]) hx hb dX3_storms_54 rfl hl (by decide) rfl (fun ls hl => ?_)
        refine lv_aload_n hx hb dX3_storms_55 rfl (lv_at hl 1 rfl) ?_
        refine g3_live S hK hP dX3_storms_56 ?_
        refine g30_list S hK (TW_live hP) dX3_storms_59 ?_
        refine lv_iload_n hx hb dX3_storms_62 rfl (lv_at hl 0 rfl) ?_
        refine lv_aload_n hx hb dX3_storms_63 rfl (lv_at hl 1 rfl) ?_
        refine g3_live S hK hP dX3_storms_64 ?_
        refine WR.callV (w1 := TW cI cJ t (sDz (sDz (sSs f n j))) g h τ) S kv_X3_163 (c_X0_draw l D cI cJ (sf t 1) (sDz (sSs f n j))) hK hP hD hS hA (_) (_) TW_s1 TW_s1 PW_fst rfl ⟨Nat.le_of_ble_eq_true rfl, Nat.le_of_ble_eq_true rfl⟩ hl.1 rfl rfl (Nat.le_of_ble_eq_true rfl) (Nat.zero_le _) (Nat.zero_le _) dX3_storms_67 (fun H locs hP hD hS => ?_)
        refine q_eqi (y := nI (sDn (sDz (sSs f n j)))) ((sDr_n (sDz (sSs f n j))).1) ?_
        refine lv_bipush (v := nI 100) hx hb dX3_storms_70 (by decide) ?_
        refine q_iremN (a := sDn (sDz (sSs f n j))) (b := 100) hx hb dX3_storms_72 (by omega) (by omega) (by omega) ?_
        refine ss_list (w1 := TW cI cJ t (upd (sDz (sDz (sSs f n j))) (10 + ((sDn (sSs f n j)) % 6)) (nI ((sDn (sDz (sSs f n j))) % 100))) g h τ) S hK hP hD hS TW_s1 (j := (sDn (sSs f n j)) % 6) (by omega) TW_s1 dX3_storms_73 (fun H locs hP hD hS => ?_)
        refine lv_aload_n hx hb dX3_storms_74 rfl (lv_at hl 1 rfl) ?_
        refine g3_live S hK hP dX3_storms_75 ?_
        refine lv_iconst (v := nI 1) hx hb dX3_storms_78 (by decide) ?_
        refine WR.callV (w1 := TW cI cJ t (sGo (sS1 (sSs f n j)) n 1) g h τ) S kv_X3_100 (c_X0_passDays l D cI cJ (sf t 1) (sS1 (sSs f n j)) 1 n (hw.s1) (d + j) (sS1_1.trans hd) (by omega) (hp.s1) (hs.s1)) hK hP hD hS hA (_) (_) TW_s1 TW_s1 PW_fst rfl ⟨Nat.le_of_ble_eq_true rfl, Nat.le_of_ble_eq_true rfl⟩ hl.1 rfl rfl (Nat.le_of_ble_eq_true rfl) (Nat.zero_le _) (Nat.zero_le _) dX3_storms_79 (fun H locs hP hD hS => ?_)
        refine W.eq (g2 := F0 m 82 ls []) rfl ?_
        refine lv_iinc (v := nI (j + 1)) (lv' := [(2, .int (nI (j + 1))), (3, .int (nI ((sDn (sSs f n j)) % 6))), (0, .ref (t 0)), (1, .int (nI u))]) hx hb dX3_storms_82 hl (k := 3) rfl (q_inc _) (by decide) rfl (fun ls hl => ?_)
        refine lv_goto (tgt := 39) hx hb dX3_storms_85 (by decide) ?_
        exact ih_39 (j + 1) _ _ ls (by omega) (by omega) (hw0.ss) (sSs_1 h8 hd0) (hp.s1.dy hs.s1 (sS1_1.trans hd) (by omega)) (hs.s1.kl (sGo_kl h8 (k := 1))) hP hD hS (lv_sub hl [2, 3, 0] rfl)
  exact L_39 ((u - 0) + 1) 0 _ _ ls (Nat.lt_succ_self _) (Nat.zero_le u) (hw) (hd) (hp) (hs) hP hD hS (lv_sub hl [1, 2, 0] rfl)
set_option maxRecDepth 100000 in
set_option maxHeartbeats 4000000 in
theorem c_X3_storms_bad (l : Launch) (D : va_G) (cI cJ : ClassId) (t : Nat → Nat) (f g h : Nat → Int32) (τ : Nat → Nat → Int32) (x : Int32) (hb0 : ¬ ((nI 1 ≤ x ∧ x ≤ nI 20))) : WR l yX3_storms cX3_storms 4 (some .int) 6 D cI cJ (TW cI cJ t f g h τ) [.ref (t 0), .int x] (some (.int (-1000001))) (TW cI cJ t f g h (va_up τ 9 (cFi (τ 9) 0))) := by
  refine WR.of (by decide) (Nat.le_of_ble_eq_true rfl) (fun p e s m below meth c ls A S hr hlk hK hP hD hS hA hl => ?_)
  obtain ⟨hx, hb, hml, hown, hU⟩ := id S
  have hl : lv_has ls 4 [(0, .ref (t 0)), (1, .int x)] := hl
  refine lv_iload_n hx hb dX3_storms_0 rfl (lv_at hl 1 rfl) ?_
  refine lv_iconst (v := nI 1) hx hb dX3_storms_1 (by decide) ?_
  refine lv_icmp_lt (tgt := 11) hx hb dX3_storms_2 (by decide) (fun c_2 => ?_) (fun c_2 => ?_)
  · refine lv_aload_n hx hb dX3_storms_11 rfl (lv_at hl 0 rfl) ?_
    refine lv_iconst (v := nI 0) hx hb dX3_storms_12 (by decide) ?_
    refine WR.callV (w1 := TW cI cJ t f g h (va_up τ 9 (cFi (τ 9) 0))) S kv_X3_48 (c_X3_fd0 l D cI cJ t f g h τ) hK hP hD hS hA ([]) ([]) (List.append_nil _).symm (List.append_nil _).symm TW_fst rfl ⟨Nat.le_of_ble_eq_true rfl, Nat.le_of_ble_eq_true rfl⟩ hl.1 rfl rfl (Nat.le_of_ble_eq_true rfl) (Nat.zero_le _) (Nat.zero_le _) dX3_storms_13 (fun H locs hP hD hS => ?_)
    exact WR.iret S hr hlk hP hS (rfl) rfl dX3_storms_16
  · refine lv_iload_n hx hb dX3_storms_5 rfl (lv_at hl 1 rfl) ?_
    refine lv_bipush (v := nI 20) hx hb dX3_storms_6 (by decide) ?_
    refine lv_icmp_le (tgt := 17) hx hb dX3_storms_8 (by decide) (fun c_8 => ?_) (fun c_8 => ?_)
    · exact absurd (⟨i32_le_of_not_lt c_2, c_8⟩) hb0
    · refine lv_aload_n hx hb dX3_storms_11 rfl (lv_at hl 0 rfl) ?_
      refine lv_iconst (v := nI 0) hx hb dX3_storms_12 (by decide) ?_
      refine WR.callV (w1 := TW cI cJ t f g h (va_up τ 9 (cFi (τ 9) 0))) S kv_X3_48 (c_X3_fd0 l D cI cJ t f g h τ) hK hP hD hS hA ([]) ([]) (List.append_nil _).symm (List.append_nil _).symm TW_fst rfl ⟨Nat.le_of_ble_eq_true rfl, Nat.le_of_ble_eq_true rfl⟩ hl.1 rfl rfl (Nat.le_of_ble_eq_true rfl) (Nat.zero_le _) (Nat.zero_le _) dX3_storms_13 (fun H locs hP hD hS => ?_)
      exact WR.iret S hr hlk hP hS (rfl) rfl dX3_storms_16
set_option maxRecDepth 100000 in
set_option maxHeartbeats 4000000 in
theorem c_X3_seed_ok (l : Launch) (D : va_G) (cI cJ : ClassId) (t : Nat → Nat) (f g h : Nat → Int32) (τ : Nat → Nat → Int32) (v : Int32) : WR l yX3_seed cX3_seed 3 (some .int) 0 D cI cJ (TW cI cJ t f g h τ) [.ref (t 0), .int v] (some (.int (f 2))) (TW cI cJ t (upd f 2 v) g h τ) := by
  refine WR.of (by decide) (Nat.le_of_ble_eq_true rfl) (fun p e s m below meth c ls A S hr hlk hK hP hD hS hA hl => ?_)
  obtain ⟨hx, hb, hml, hown, hU⟩ := id S
  have hl : lv_has ls 3 [(0, .ref (t 0)), (1, .int v)] := hl
  refine lv_aload_n hx hb dX3_seed_0 rfl (lv_at hl 0 rfl) ?_
  refine g3_live S hK hP dX3_seed_1 ?_
  refine g30_z S hK (TW_live hP) dX3_seed_4 ?_
  refine lv_istore_n (lv' := [(2, .int (f 2)), (0, .ref (t 0)), (1, .int v)]) hx hb dX3_seed_7 rfl hl (by decide) rfl (fun ls hl => ?_)
  refine lv_aload_n hx hb dX3_seed_8 rfl (lv_at hl 1 rfl) ?_
  refine g3_live S hK hP dX3_seed_9 ?_
  refine lv_iload_n hx hb dX3_seed_12 rfl (lv_at hl 2 rfl) ?_
  refine p3_z S hK hP hD hS dX3_seed_13 (fun H locs hP hD hS => ?_)
  refine lv_iload_n hx hb dX3_seed_16 rfl (lv_at hl 0 rfl) ?_
  exact WR.iret S hr hlk hP hS (rfl) rfl dX3_seed_17
set_option maxRecDepth 100000 in
set_option maxHeartbeats 4000000 in
theorem c_X3_wipe_ok (l : Launch) (D : va_G) (cI cJ : ClassId) (t : Nat → Nat) (f g h : Nat → Int32) (τ : Nat → Nat → Int32) : WR l yX3_wipe cX3_wipe 2 (some .int) 0 D cI cJ (TW cI cJ t f g h τ) [.ref (t 0)] (some (.int (τ 0 1))) (TW cI cJ t f g h (m0 τ 1 (nI 0))) := by
  refine WR.of (by decide) (Nat.le_of_ble_eq_true rfl) (fun p e s m below meth c ls A S hr hlk hK hP hD hS hA hl => ?_)
  obtain ⟨hx, hb, hml, hown, hU⟩ := id S
  have hl : lv_has ls 2 [(0, .ref (t 0))] := hl
  refine lv_aload_n hx hb dX3_wipe_0 rfl (lv_at hl 0 rfl) ?_
  refine g3_tape S hK hP dX3_wipe_1 ?_
  refine g32_length S hK (TW_tape hP) dX3_wipe_4 ?_
  refine lv_istore_n (lv' := [(1, .int (τ 0 1)), (0, .ref (t 0))]) hx hb dX3_wipe_7 rfl hl (by decide) rfl (fun ls hl => ?_)
  refine lv_aload_n hx hb dX3_wipe_8 rfl (lv_at hl 1 rfl) ?_
  refine g3_tape S hK hP dX3_wipe_9 ?_
  refine lv_iconst (v := nI 0) hx hb dX3_wipe_12 (by decide) ?_
  refine p3_length S hK hP hD hS dX3_wipe_13 (fun H locs hP hD hS => ?_)
  refine lv_iload_n hx hb dX3_wipe_16 rfl (lv_at hl 0 rfl) ?_
  exact WR.iret S hr hlk hP hS (rfl) rfl dX3_wipe_17
set_option maxRecDepth 100000 in
set_option maxHeartbeats 4000000 in
theorem c_X3_hold_ok (l : Launch) (D : va_G) (cI cJ : ClassId) (t : Nat → Nat) (f g h : Nat → Int32) (τ : Nat → Nat → Int32) (q : Nat) (k : Nat) (n : Nat) (hw : Wk f n) (hq : q < 10) (hk : k < n) : WR l yX3_hold cX3_hold 3 (some .int) 2 D cI cJ (TW cI cJ t f g h τ) [.ref (t 0), .int (nI q), .int (nI k)] (some (.int (nI 1))) (TW cI cJ t (upd f (72 + q) (nI k)) g h τ) := by
  have h8 := hw.2.1
  refine WR.of (by decide) (Nat.le_of_ble_eq_true rfl) (fun p e s m below meth c ls A S hr hlk hK hP hD hS hA hl => ?_)
  obtain ⟨hx, hb, hml, hown, hU⟩ := id S
  have hl : lv_has ls 3 [(0, .ref (t 0)), (1, .int (nI q)), (2, .int (nI k))] := hl
  refine lv_iload_n hx hb dX3_hold_0 rfl (lv_at hl 1 rfl) ?_
  refine lv_bipush (v := nI 9) hx hb dX3_hold_1 (by decide) ?_
  refine RO.callS S ks_X3_44 (c_X3_isWithin l D cI cJ t f g h τ (nI q) (nI 9)) hK hP ⟨Nat.le_of_ble_eq_true rfl, Nat.le_of_ble_eq_true rfl⟩ hl.1 rfl rfl (Nat.le_of_ble_eq_true rfl) (Nat.zero_le _) (Nat.zero_le _) dX3_hold_3 ?_
  refine q_if_eqB (tgt := 22) hx hb dX3_hold_6 (by decide) (fun h => absurd (⟨nI_le (by omega) (by omega), nI_le (by omega) (by omega)⟩) h) (fun _ => ?_)
  refine lv_iload_n hx hb dX3_hold_9 rfl (lv_at hl 2 rfl) ?_
  refine lv_iconst (v := (-1)) hx hb dX3_hold_10 (by decide) ?_
  refine lv_icmp_eq (tgt := 28) hx hb dX3_hold_11 (by decide) (fun h => absurd h (nI_ne_m1 (by omega))) (fun _ => ?_)
  refine lv_aload_n hx hb dX3_hold_14 rfl (lv_at hl 0 rfl) ?_
  refine lv_iload_n hx hb dX3_hold_15 rfl (lv_at hl 2 rfl) ?_
  refine RO.callV S kv_X3_72 (c_X3_isCask l D cI cJ t f g h τ (nI k) n (hw)) hK hP rfl ⟨Nat.le_of_ble_eq_true rfl, Nat.le_of_ble_eq_true rfl⟩ hl.1 rfl rfl (Nat.le_of_ble_eq_true rfl) (Nat.zero_le _) (Nat.zero_le _) dX3_hold_16 ?_
  refine q_if_neB (tgt := 28) hx hb dX3_hold_19 (by decide) (fun _ => ?_) (fun h => absurd (⟨nI_pos' (by omega), nI_lt (by omega) (by omega)⟩) h)
  refine lv_aload_n hx hb dX3_hold_28 rfl (lv_at hl 0 rfl) ?_
  refine g3_live S hK hP dX3_hold_29 ?_
  refine g30_spots S hK (TW_live hP) dX3_hold_32 ?_
  refine lv_iload_n hx hb dX3_hold_35 rfl (lv_at hl 1 rfl) ?_
  refine lv_iload_n hx hb dX3_hold_36 rfl (lv_at hl 2 rfl) ?_
  refine ss_spots (w1 := TW cI cJ t (upd f (72 + q) (nI k)) g h τ) S hK hP hD hS TW_s1 (j := q) (by omega) TW_s1 dX3_hold_37 (fun H locs hP hD hS => ?_)
  refine lv_iconst (v := nI 1) hx hb dX3_hold_38 (by decide) ?_
  exact WR.iret S hr hlk hP hS (rfl) rfl dX3_hold_39
set_option maxRecDepth 100000 in
set_option maxHeartbeats 4000000 in
theorem c_X3_hold_none (l : Launch) (D : va_G) (cI cJ : ClassId) (t : Nat → Nat) (f g h : Nat → Int32) (τ : Nat → Nat → Int32) (q : Nat) (n : Nat) (hw : Wk f n) (hq : q < 10) : WR l yX3_hold cX3_hold 3 (some .int) 2 D cI cJ (TW cI cJ t f g h τ) [.ref (t 0), .int (nI q), .int (-1)] (some (.int (nI 1))) (TW cI cJ t (upd f (72 + q) (-1)) g h τ) := by
  have h8 := hw.2.1
  refine WR.of (by decide) (Nat.le_of_ble_eq_true rfl) (fun p e s m below meth c ls A S hr hlk hK hP hD hS hA hl => ?_)
  obtain ⟨hx, hb, hml, hown, hU⟩ := id S
  have hl : lv_has ls 3 [(0, .ref (t 0)), (1, .int (nI q)), (2, .int (-1))] := hl
  refine lv_iload_n hx hb dX3_hold_0 rfl (lv_at hl 1 rfl) ?_
  refine lv_bipush (v := nI 9) hx hb dX3_hold_1 (by decide) ?_
  refine RO.callS S ks_X3_44 (c_X3_isWithin l D cI cJ t f g h τ (nI q) (nI 9)) hK hP ⟨Nat.le_of_ble_eq_true rfl, Nat.le_of_ble_eq_true rfl⟩ hl.1 rfl rfl (Nat.le_of_ble_eq_true rfl) (Nat.zero_le _) (Nat.zero_le _) dX3_hold_3 ?_
  refine q_if_eqB (tgt := 22) hx hb dX3_hold_6 (by decide) (fun h => absurd (⟨nI_le (by omega) (by omega), nI_le (by omega) (by omega)⟩) h) (fun _ => ?_)
  refine lv_iload_n hx hb dX3_hold_9 rfl (lv_at hl 2 rfl) ?_
  refine lv_iconst (v := (-1)) hx hb dX3_hold_10 (by decide) ?_
  refine lv_icmp_eq (tgt := 28) hx hb dX3_hold_11 (by decide) (fun _ => ?_) (fun h => absurd h (fun h => h rfl))
  refine lv_aload_n hx hb dX3_hold_28 rfl (lv_at hl 0 rfl) ?_
  refine g3_live S hK hP dX3_hold_29 ?_
  refine g30_spots S hK (TW_live hP) dX3_hold_32 ?_
  refine lv_iload_n hx hb dX3_hold_35 rfl (lv_at hl 1 rfl) ?_
  refine lv_iload_n hx hb dX3_hold_36 rfl (lv_at hl 2 rfl) ?_
  refine ss_spots (w1 := TW cI cJ t (upd f (72 + q) (-1)) g h τ) S hK hP hD hS TW_s1 (j := q) (by omega) TW_s1 dX3_hold_37 (fun H locs hP hD hS => ?_)
  refine lv_iconst (v := nI 1) hx hb dX3_hold_38 (by decide) ?_
  exact WR.iret S hr hlk hP hS (rfl) rfl dX3_hold_39
set_option maxRecDepth 100000 in
set_option maxHeartbeats 4000000 in
theorem c_X3_hold_bad (l : Launch) (D : va_G) (cI cJ : ClassId) (t : Nat → Nat) (f g h : Nat → Int32) (τ : Nat → Nat → Int32) (x : Int32) (y : Int32) (n : Nat) (hw : Wk f n) (hb0 : ¬ ((nI 0 ≤ x ∧ x ≤ nI 9) ∧ (y = -1 ∨ (0 ≤ y ∧ y < nI n)))) : WR l yX3_hold cX3_hold 3 (some .int) 2 D cI cJ (TW cI cJ t f g h τ) [.ref (t 0), .int x, .int y] (some (.int (-1000001))) (TW cI cJ t f g h (va_up τ 9 (cFi (τ 9) 0))) := by
  refine WR.of (by decide) (Nat.le_of_ble_eq_true rfl) (fun p e s m below meth c ls A S hr hlk hK hP hD hS hA hl => ?_)
  obtain ⟨hx, hb, hml, hown, hU⟩ := id S
  have hl : lv_has ls 3 [(0, .ref (t 0)), (1, .int x), (2, .int y)] := hl
  refine lv_iload_n hx hb dX3_hold_0 rfl (lv_at hl 1 rfl) ?_
  refine lv_bipush (v := nI 9) hx hb dX3_hold_1 (by decide) ?_
  refine RO.callS S ks_X3_44 (c_X3_isWithin l D cI cJ t f g h τ x (nI 9)) hK hP ⟨Nat.le_of_ble_eq_true rfl, Nat.le_of_ble_eq_true rfl⟩ hl.1 rfl rfl (Nat.le_of_ble_eq_true rfl) (Nat.zero_le _) (Nat.zero_le _) dX3_hold_3 ?_
  refine q_if_eqB (tgt := 22) hx hb dX3_hold_6 (by decide) (fun c_6 => ?_) (fun c_6 => ?_)
  · refine lv_aload_n hx hb dX3_hold_22 rfl (lv_at hl 0 rfl) ?_
    refine lv_iconst (v := nI 0) hx hb dX3_hold_23 (by decide) ?_
    refine WR.callV (w1 := TW cI cJ t f g h (va_up τ 9 (cFi (τ 9) 0))) S kv_X3_48 (c_X3_fd0 l D cI cJ t f g h τ) hK hP hD hS hA ([]) ([]) (List.append_nil _).symm (List.append_nil _).symm TW_fst rfl ⟨Nat.le_of_ble_eq_true rfl, Nat.le_of_ble_eq_true rfl⟩ hl.1 rfl rfl (Nat.le_of_ble_eq_true rfl) (Nat.zero_le _) (Nat.zero_le _) dX3_hold_24 (fun H locs hP hD hS => ?_)
    exact WR.iret S hr hlk hP hS (rfl) rfl dX3_hold_27
  · refine lv_iload_n hx hb dX3_hold_9 rfl (lv_at hl 2 rfl) ?_
    refine lv_iconst (v := (-1)) hx hb dX3_hold_10 (by decide) ?_
    refine lv_icmp_eq (tgt := 28) hx hb dX3_hold_11 (by decide) (fun c_11 => ?_) (fun c_11 => ?_)
    · exact absurd (⟨c_6, Or.inl c_11⟩) hb0
    · refine lv_aload_n hx hb dX3_hold_14 rfl (lv_at hl 0 rfl) ?_
      refine lv_iload_n hx hb dX3_hold_15 rfl (lv_at hl 2 rfl) ?_
      refine RO.callV S kv_X3_72 (c_X3_isCask l D cI cJ t f g h τ y n (hw)) hK hP rfl ⟨Nat.le_of_ble_eq_true rfl, Nat.le_of_ble_eq_true rfl⟩ hl.1 rfl rfl (Nat.le_of_ble_eq_true rfl) (Nat.zero_le _) (Nat.zero_le _) dX3_hold_16 ?_
      refine q_if_neB (tgt := 28) hx hb dX3_hold_19 (by decide) (fun c_19 => ?_) (fun c_19 => ?_)
      · exact absurd (⟨c_6, Or.inr c_19⟩) hb0
      · refine lv_aload_n hx hb dX3_hold_22 rfl (lv_at hl 0 rfl) ?_
        refine lv_iconst (v := nI 0) hx hb dX3_hold_23 (by decide) ?_
        refine WR.callV (w1 := TW cI cJ t f g h (va_up τ 9 (cFi (τ 9) 0))) S kv_X3_48 (c_X3_fd0 l D cI cJ t f g h τ) hK hP hD hS hA ([]) ([]) (List.append_nil _).symm (List.append_nil _).symm TW_fst rfl ⟨Nat.le_of_ble_eq_true rfl, Nat.le_of_ble_eq_true rfl⟩ hl.1 rfl rfl (Nat.le_of_ble_eq_true rfl) (Nat.zero_le _) (Nat.zero_le _) dX3_hold_24 (fun H locs hP hD hS => ?_)
        exact WR.iret S hr hlk hP hS (rfl) rfl dX3_hold_27
set_option maxRecDepth 100000 in
set_option maxHeartbeats 4000000 in
theorem c_X3_tear_t0 (l : Launch) (D : va_G) (cI cJ : ClassId) (t : Nat → Nat) (f g h : Nat → Int32) (τ : Nat → Nat → Int32) (hi9 : τ 0 0 = nI 0) : WR l yX3_tear cX3_tear 2 (some .int) 0 D cI cJ (TW cI cJ t f g h τ) [.ref (t 0)] (some (.int (nI 0))) (TW cI cJ t f g h (m0 τ 0 (nI 0))) := by
  refine WR.of (by decide) (Nat.le_of_ble_eq_true rfl) (fun p e s m below meth c ls A S hr hlk hK hP hD hS hA hl => ?_)
  obtain ⟨hx, hb, hml, hown, hU⟩ := id S
  have hl : lv_has ls 2 [(0, .ref (t 0))] := hl
  refine lv_aload_n hx hb dX3_tear_0 rfl (lv_at hl 0 rfl) ?_
  refine g3_isKept S hK hP dX3_tear_1 ?_
  refine q_eqi (y := nI 0) (hi9) ?_
  refine q_if_eqN (tgt := 11) (a := 0) hx hb dX3_tear_4 (by decide) (by omega) (fun _ => ?_) (fun h => absurd h (by omega))
  refine lv_iconst (v := nI 0) hx hb dX3_tear_11 (by decide) ?_
  refine lv_istore_n (lv' := [(1, .int (nI 0)), (0, .ref (t 0))]) hx hb dX3_tear_12 rfl hl (by decide) rfl (fun ls hl => ?_)
  refine lv_aload_n hx hb dX3_tear_13 rfl (lv_at hl 1 rfl) ?_
  refine lv_iconst (v := nI 0) hx hb dX3_tear_14 (by decide) ?_
  refine p3_isKept S hK hP hD hS (Or.inl rfl) dX3_tear_15 (fun H locs hP hD hS => ?_)
  refine lv_iload_n hx hb dX3_tear_18 rfl (lv_at hl 0 rfl) ?_
  exact WR.iret S hr hlk hP hS (rfl) rfl dX3_tear_19
set_option maxRecDepth 100000 in
set_option maxHeartbeats 4000000 in
theorem c_X3_tear_t1 (l : Launch) (D : va_G) (cI cJ : ClassId) (t : Nat → Nat) (f g h : Nat → Int32) (τ : Nat → Nat → Int32) (hi9 : τ 0 0 = nI 1) : WR l yX3_tear cX3_tear 2 (some .int) 0 D cI cJ (TW cI cJ t f g h τ) [.ref (t 0)] (some (.int (nI 1))) (TW cI cJ t f g h (m0 τ 0 (nI 0))) := by
  refine WR.of (by decide) (Nat.le_of_ble_eq_true rfl) (fun p e s m below meth c ls A S hr hlk hK hP hD hS hA hl => ?_)
  obtain ⟨hx, hb, hml, hown, hU⟩ := id S
  have hl : lv_has ls 2 [(0, .ref (t 0))] := hl
  refine lv_aload_n hx hb dX3_tear_0 rfl (lv_at hl 0 rfl) ?_
  refine g3_isKept S hK hP dX3_tear_1 ?_
  refine q_eqi (y := nI 1) (hi9) ?_
  refine q_if_eqN (tgt := 11) (a := 1) hx hb dX3_tear_4 (by decide) (by omega) (fun h => absurd h (by omega)) (fun _ => ?_)
  refine lv_iconst (v := nI 1) hx hb dX3_tear_7 (by decide) ?_
  refine lv_goto (tgt := 12) hx hb dX3_tear_8 (by decide) ?_
  refine lv_istore_n (lv' := [(1, .int (nI 1)), (0, .ref (t 0))]) hx hb dX3_tear_12 rfl hl (by decide) rfl (fun ls hl => ?_)
  refine lv_aload_n hx hb dX3_tear_13 rfl (lv_at hl 1 rfl) ?_
  refine lv_iconst (v := nI 0) hx hb dX3_tear_14 (by decide) ?_
  refine p3_isKept S hK hP hD hS (Or.inl rfl) dX3_tear_15 (fun H locs hP hD hS => ?_)
  refine lv_iload_n hx hb dX3_tear_18 rfl (lv_at hl 0 rfl) ?_
  exact WR.iret S hr hlk hP hS (rfl) rfl dX3_tear_19
set_option maxRecDepth 100000 in
set_option maxHeartbeats 4000000 in
theorem c_X3_undo_none (l : Launch) (D : va_G) (cI cJ : ClassId) (t : Nat → Nat) (f g h : Nat → Int32) (τ : Nat → Nat → Int32) (hi9 : τ 0 0 = nI 0) : WR l yX3_undo cX3_undo 1 (some .int) 1 D cI cJ (TW cI cJ t f g h τ) [.ref (t 0)] (some (.int (-1000004))) (TW cI cJ t f g h (va_up τ 9 (cFi (τ 9) 3))) := by
  refine WR.of (by decide) (Nat.le_of_ble_eq_true rfl) (fun p e s m below meth c ls A S hr hlk hK hP hD hS hA hl => ?_)
  obtain ⟨hx, hb, hml, hown, hU⟩ := id S
  have hl : lv_has ls 1 [(0, .ref (t 0))] := hl
  refine lv_aload_n hx hb dX3_undo_0 rfl (lv_at hl 0 rfl) ?_
  refine g3_isKept S hK hP dX3_undo_1 ?_
  refine q_eqi (y := nI 0) (hi9) ?_
  refine q_if_neN (tgt := 13) (a := 0) hx hb dX3_undo_4 (by decide) (by omega) (fun h => absurd h (by omega)) (fun _ => ?_)
  refine lv_aload_n hx hb dX3_undo_7 rfl (lv_at hl 0 rfl) ?_
  refine lv_iconst (v := nI 3) hx hb dX3_undo_8 (by decide) ?_
  refine WR.callV (w1 := TW cI cJ t f g h (va_up τ 9 (cFi (τ 9) 3))) S kv_X3_48 (c_X3_fd3 l D cI cJ t f g h τ) hK hP hD hS hA ([]) ([]) (List.append_nil _).symm (List.append_nil _).symm TW_fst rfl ⟨Nat.le_of_ble_eq_true rfl, Nat.le_of_ble_eq_true rfl⟩ hl.1 rfl rfl (Nat.le_of_ble_eq_true rfl) (Nat.zero_le _) (Nat.zero_le _) dX3_undo_9 (fun H locs hP hD hS => ?_)
  exact WR.iret S hr hlk hP hS (rfl) rfl dX3_undo_12
set_option maxRecDepth 100000 in
set_option maxHeartbeats 4000000 in
theorem c_X3_count_ok0 (l : Launch) (D : va_G) (cI cJ : ClassId) (t : Nat → Nat) (f g h : Nat → Int32) (τ : Nat → Nat → Int32) (n : Nat) (hw : Wk f n) : WR l yX3_count cX3_count 2 (some .int) 2 D cI cJ (TW cI cJ t f g h τ) [.ref (t 0), .int (nI 0)] (some (.int (f 1))) (TW cI cJ t f g h τ) := by
  refine WR.of (by decide) (Nat.le_of_ble_eq_true rfl) (fun p e s m below meth c ls A S hr hlk hK hP hD hS hA hl => ?_)
  obtain ⟨hx, hb, hml, hown, hU⟩ := id S
  have hl : lv_has ls 2 [(0, .ref (t 0)), (1, .int (nI 0))] := hl
  refine lv_iload_n hx hb dX3_count_0 rfl (lv_at hl 1 rfl) ?_
  refine lv_tableIn (tgt := 48) hx hb dX3_count_1 (by decide) (by decide) rfl (by decide) ?_
  refine lv_aload_n hx hb dX3_count_48 rfl (lv_at hl 0 rfl) ?_
  refine g3_live S hK hP dX3_count_49 ?_
  refine g30_day S hK (TW_live hP) dX3_count_52 ?_
  exact WR.iret S hr hlk hP hS (rfl) rfl dX3_count_55
set_option maxRecDepth 100000 in
set_option maxHeartbeats 4000000 in
theorem c_X3_count_ok1 (l : Launch) (D : va_G) (cI cJ : ClassId) (t : Nat → Nat) (f g h : Nat → Int32) (τ : Nat → Nat → Int32) (n : Nat) (hw : Wk f n) : WR l yX3_count cX3_count 2 (some .int) 2 D cI cJ (TW cI cJ t f g h τ) [.ref (t 0), .int (nI 1)] (some (.int (nI n))) (TW cI cJ t f g h τ) := by
  refine WR.of (by decide) (Nat.le_of_ble_eq_true rfl) (fun p e s m below meth c ls A S hr hlk hK hP hD hS hA hl => ?_)
  obtain ⟨hx, hb, hml, hown, hU⟩ := id S
  have hl : lv_has ls 2 [(0, .ref (t 0)), (1, .int (nI 1))] := hl
  refine lv_iload_n hx hb dX3_count_0 rfl (lv_at hl 1 rfl) ?_
  refine lv_tableIn (tgt := 56) hx hb dX3_count_1 (by decide) (by decide) rfl (by decide) ?_
  refine lv_aload_n hx hb dX3_count_56 rfl (lv_at hl 0 rfl) ?_
  refine g3_live S hK hP dX3_count_57 ?_
  refine g30_casks S hK (TW_live hP) dX3_count_60 ?_
  refine q_eqi (y := nI n) (hw.1) ?_
  exact WR.iret S hr hlk hP hS (rfl) rfl dX3_count_63
set_option maxRecDepth 100000 in
set_option maxHeartbeats 4000000 in
theorem c_X3_count_ok2 (l : Launch) (D : va_G) (cI cJ : ClassId) (t : Nat → Nat) (f g h : Nat → Int32) (τ : Nat → Nat → Int32) (n : Nat) (hw : Wk f n) : WR l yX3_count cX3_count 2 (some .int) 2 D cI cJ (TW cI cJ t f g h τ) [.ref (t 0), .int (nI 2)] (some (.int (sSm f 2 n))) (TW cI cJ t f g h τ) := by
  refine WR.of (by decide) (Nat.le_of_ble_eq_true rfl) (fun p e s m below meth c ls A S hr hlk hK hP hD hS hA hl => ?_)
  obtain ⟨hx, hb, hml, hown, hU⟩ := id S
  have hl : lv_has ls 2 [(0, .ref (t 0)), (1, .int (nI 2))] := hl
  refine lv_iload_n hx hb dX3_count_0 rfl (lv_at hl 1 rfl) ?_
  refine lv_tableIn (tgt := 64) hx hb dX3_count_1 (by decide) (by decide) rfl (by decide) ?_
  refine lv_aload_n hx hb dX3_count_64 rfl (lv_at hl 0 rfl) ?_
  refine g3_live S hK hP dX3_count_65 ?_
  refine lv_iconst (v := nI 2) hx hb dX3_count_68 (by decide) ?_
  refine RO.callV S kv_X3_106 (c_X0_sumOf_2 l D cI cJ (sf t 1) f n (hw)) hK (TW_live hP) rfl ⟨Nat.le_of_ble_eq_true rfl, Nat.le_of_ble_eq_true rfl⟩ hl.1 rfl rfl (Nat.le_of_ble_eq_true rfl) (Nat.zero_le _) (Nat.zero_le _) dX3_count_69 ?_
  exact WR.iret S hr hlk hP hS (rfl) rfl dX3_count_72
set_option maxRecDepth 100000 in
set_option maxHeartbeats 4000000 in
theorem c_X3_count_ok3 (l : Launch) (D : va_G) (cI cJ : ClassId) (t : Nat → Nat) (f g h : Nat → Int32) (τ : Nat → Nat → Int32) (n : Nat) (hw : Wk f n) : WR l yX3_count cX3_count 2 (some .int) 2 D cI cJ (TW cI cJ t f g h τ) [.ref (t 0), .int (nI 3)] (some (.int (f 3))) (TW cI cJ t f g h τ) := by
  refine WR.of (by decide) (Nat.le_of_ble_eq_true rfl) (fun p e s m below meth c ls A S hr hlk hK hP hD hS hA hl => ?_)
  obtain ⟨hx, hb, hml, hown, hU⟩ := id S
  have hl : lv_has ls 2 [(0, .ref (t 0)), (1, .int (nI 3))] := hl
  refine lv_iload_n hx hb dX3_count_0 rfl (lv_at hl 1 rfl) ?_
  refine lv_tableIn (tgt := 73) hx hb dX3_count_1 (by decide) (by decide) rfl (by decide) ?_
  refine lv_aload_n hx hb dX3_count_73 rfl (lv_at hl 0 rfl) ?_
  refine g3_live S hK hP dX3_count_74 ?_
  refine g30_claps S hK (TW_live hP) dX3_count_77 ?_
  exact WR.iret S hr hlk hP hS (rfl) rfl dX3_count_80
set_option maxRecDepth 100000 in
set_option maxHeartbeats 4000000 in
theorem c_X3_count_ok4 (l : Launch) (D : va_G) (cI cJ : ClassId) (t : Nat → Nat) (f g h : Nat → Int32) (τ : Nat → Nat → Int32) (n : Nat) (hw : Wk f n) : WR l yX3_count cX3_count 2 (some .int) 2 D cI cJ (TW cI cJ t f g h τ) [.ref (t 0), .int (nI 4)] (some (.int (sSm f 6 n))) (TW cI cJ t f g h τ) := by
  refine WR.of (by decide) (Nat.le_of_ble_eq_true rfl) (fun p e s m below meth c ls A S hr hlk hK hP hD hS hA hl => ?_)
  obtain ⟨hx, hb, hml, hown, hU⟩ := id S
  have hl : lv_has ls 2 [(0, .ref (t 0)), (1, .int (nI 4))] := hl
  refine lv_iload_n hx hb dX3_count_0 rfl (lv_at hl 1 rfl) ?_
  refine lv_tableIn (tgt := 81) hx hb dX3_count_1 (by decide) (by decide) rfl (by decide) ?_
  refine lv_aload_n hx hb dX3_count_81 rfl (lv_at hl 0 rfl) ?_
  refine g3_live S hK hP dX3_count_82 ?_
  refine lv_bipush (v := nI 6) hx hb dX3_count_85 (by decide) ?_
  refine RO.callV S kv_X3_106 (c_X0_sumOf_6 l D cI cJ (sf t 1) f n (hw)) hK (TW_live hP) rfl ⟨Nat.le_of_ble_eq_true rfl, Nat.le_of_ble_eq_true rfl⟩ hl.1 rfl rfl (Nat.le_of_ble_eq_true rfl) (Nat.zero_le _) (Nat.zero_le _) dX3_count_87 ?_
  exact WR.iret S hr hlk hP hS (rfl) rfl dX3_count_90
set_option maxRecDepth 100000 in
set_option maxHeartbeats 4000000 in
theorem c_X3_count_ok5 (l : Launch) (D : va_G) (cI cJ : ClassId) (t : Nat → Nat) (f g h : Nat → Int32) (τ : Nat → Nat → Int32) (n : Nat) (hw : Wk f n) : WR l yX3_count cX3_count 2 (some .int) 2 D cI cJ (TW cI cJ t f g h τ) [.ref (t 0), .int (nI 5)] (some (.int (τ 0 1))) (TW cI cJ t f g h τ) := by
  refine WR.of (by decide) (Nat.le_of_ble_eq_true rfl) (fun p e s m below meth c ls A S hr hlk hK hP hD hS hA hl => ?_)
  obtain ⟨hx, hb, hml, hown, hU⟩ := id S
  have hl : lv_has ls 2 [(0, .ref (t 0)), (1, .int (nI 5))] := hl
  refine lv_iload_n hx hb dX3_count_0 rfl (lv_at hl 1 rfl) ?_
  refine lv_tableIn (tgt := 91) hx hb dX3_count_1 (by decide) (by decide) rfl (by decide) ?_
  refine lv_aload_n hx hb dX3_count_91 rfl (lv_at hl 0 rfl) ?_
  refine g3_tape S hK hP dX3_count_92 ?_
  refine g32_length S hK (TW_tape hP) dX3_count_95 ?_
  exact WR.iret S hr hlk hP hS (rfl) rfl dX3_count_98
set_option maxRecDepth 100000 in
set_option maxHeartbeats 4000000 in
theorem c_X3_count_ok6 (l : Launch) (D : va_G) (cI cJ : ClassId) (t : Nat → Nat) (f g h : Nat → Int32) (τ : Nat → Nat → Int32) (n : Nat) (hw : Wk f n) : WR l yX3_count cX3_count 2 (some .int) 2 D cI cJ (TW cI cJ t f g h τ) [.ref (t 0), .int (nI 6)] (some (.int (f 2))) (TW cI cJ t f g h τ) := by
  refine WR.of (by decide) (Nat.le_of_ble_eq_true rfl) (fun p e s m below meth c ls A S hr hlk hK hP hD hS hA hl => ?_)
  obtain ⟨hx, hb, hml, hown, hU⟩ := id S
  have hl : lv_has ls 2 [(0, .ref (t 0)), (1, .int (nI 6))] := hl
  refine lv_iload_n hx hb dX3_count_0 rfl (lv_at hl 1 rfl) ?_
  refine lv_tableIn (tgt := 99) hx hb dX3_count_1 (by decide) (by decide) rfl (by decide) ?_
  refine lv_aload_n hx hb dX3_count_99 rfl (lv_at hl 0 rfl) ?_
  refine g3_live S hK hP dX3_count_100 ?_
  refine g30_z S hK (TW_live hP) dX3_count_103 ?_
  exact WR.iret S hr hlk hP hS (rfl) rfl dX3_count_106
set_option maxRecDepth 100000 in
set_option maxHeartbeats 4000000 in
theorem c_X3_count_ok7 (l : Launch) (D : va_G) (cI cJ : ClassId) (t : Nat → Nat) (f g h : Nat → Int32) (τ : Nat → Nat → Int32) (n : Nat) (hw : Wk f n) : WR l yX3_count cX3_count 2 (some .int) 2 D cI cJ (TW cI cJ t f g h τ) [.ref (t 0), .int (nI 7)] (some (.int (nI (sSp f 10)))) (TW cI cJ t f g h τ) := by
  refine WR.of (by decide) (Nat.le_of_ble_eq_true rfl) (fun p e s m below meth c ls A S hr hlk hK hP hD hS hA hl => ?_)
  obtain ⟨hx, hb, hml, hown, hU⟩ := id S
  have hl : lv_has ls 2 [(0, .ref (t 0)), (1, .int (nI 7))] := hl
  refine lv_iload_n hx hb dX3_count_0 rfl (lv_at hl 1 rfl) ?_
  refine lv_tableIn (tgt := 107) hx hb dX3_count_1 (by decide) (by decide) rfl (by decide) ?_
  refine lv_aload_n hx hb dX3_count_107 rfl (lv_at hl 0 rfl) ?_
  refine g3_live S hK hP dX3_count_108 ?_
  refine RO.callV S kv_X3_231 (c_X0_spotsHeld l D cI cJ (sf t 1) f) hK (TW_live hP) rfl ⟨Nat.le_of_ble_eq_true rfl, Nat.le_of_ble_eq_true rfl⟩ hl.1 rfl rfl (Nat.le_of_ble_eq_true rfl) (Nat.zero_le _) (Nat.zero_le _) dX3_count_111 ?_
  exact WR.iret S hr hlk hP hS (rfl) rfl dX3_count_114
set_option maxRecDepth 100000 in
set_option maxHeartbeats 4000000 in
theorem c_X3_count_bad (l : Launch) (D : va_G) (cI cJ : ClassId) (t : Nat → Nat) (f g h : Nat → Int32) (τ : Nat → Nat → Int32) (x : Int32) (hb0 : ¬ ((nI 0 ≤ x ∧ x ≤ nI 7))) : WR l yX3_count cX3_count 2 (some .int) 2 D cI cJ (TW cI cJ t f g h τ) [.ref (t 0), .int x] (some (.int (-1000001))) (TW cI cJ t f g h (va_up τ 9 (cFi (τ 9) 0))) := by
  refine WR.of (by decide) (Nat.le_of_ble_eq_true rfl) (fun p e s m below meth c ls A S hr hlk hK hP hD hS hA hl => ?_)
  obtain ⟨hx, hb, hml, hown, hU⟩ := id S
  have hl : lv_has ls 2 [(0, .ref (t 0)), (1, .int x)] := hl
  refine lv_iload_n hx hb dX3_count_0 rfl (lv_at hl 1 rfl) ?_
  by_cases k_1_0 : x = nI 0
  · refine q_eqi k_1_0 ?_
    refine lv_tableIn (tgt := 48) hx hb dX3_count_1 (by decide) (by decide) rfl (by decide) ?_
    exact absurd (rg_eq k_1_0 (by decide) (by decide)) hb0
  by_cases k_1_1 : x = nI 1
  · refine q_eqi k_1_1 ?_
    refine lv_tableIn (tgt := 56) hx hb dX3_count_1 (by decide) (by decide) rfl (by decide) ?_
    exact absurd (rg_eq k_1_1 (by decide) (by decide)) hb0
  by_cases k_1_2 : x = nI 2
  · refine q_eqi k_1_2 ?_
    refine lv_tableIn (tgt := 64) hx hb dX3_count_1 (by decide) (by decide) rfl (by decide) ?_
    exact absurd (rg_eq k_1_2 (by decide) (by decide)) hb0
  by_cases k_1_3 : x = nI 3
  · refine q_eqi k_1_3 ?_
    refine lv_tableIn (tgt := 73) hx hb dX3_count_1 (by decide) (by decide) rfl (by decide) ?_
    exact absurd (rg_eq k_1_3 (by decide) (by decide)) hb0
  by_cases k_1_4 : x = nI 4
  · refine q_eqi k_1_4 ?_
    refine lv_tableIn (tgt := 81) hx hb dX3_count_1 (by decide) (by decide) rfl (by decide) ?_
    exact absurd (rg_eq k_1_4 (by decide) (by decide)) hb0
  by_cases k_1_5 : x = nI 5
  · refine q_eqi k_1_5 ?_
    refine lv_tableIn (tgt := 91) hx hb dX3_count_1 (by decide) (by decide) rfl (by decide) ?_
    exact absurd (rg_eq k_1_5 (by decide) (by decide)) hb0
  by_cases k_1_6 : x = nI 6
  · refine q_eqi k_1_6 ?_
    refine lv_tableIn (tgt := 99) hx hb dX3_count_1 (by decide) (by decide) rfl (by decide) ?_
    exact absurd (rg_eq k_1_6 (by decide) (by decide)) hb0
  by_cases k_1_7 : x = nI 7
  · refine q_eqi k_1_7 ?_
    refine lv_tableIn (tgt := 107) hx hb dX3_count_1 (by decide) (by decide) rfl (by decide) ?_
    exact absurd (rg_eq k_1_7 (by decide) (by decide)) hb0
  refine lv_tableOut (tgt := 115) hx hb dX3_count_1 (tsw_out (fun i h1 h2 => by
    rcases (show i = 0 ∨ i = 1 ∨ i = 2 ∨ i = 3 ∨ i = 4 ∨ i = 5 ∨ i = 6 ∨ i = 7 by omega) with rfl | rfl | rfl | rfl | rfl | rfl | rfl | rfl
    · exact k_1_0
    · exact k_1_1
    · exact k_1_2
    · exact k_1_3
    · exact k_1_4
    · exact k_1_5
    · exact k_1_6
    · exact k_1_7
    )) (by decide) ?_
  refine lv_aload_n hx hb dX3_count_115 rfl (lv_at hl 0 rfl) ?_
  refine lv_iconst (v := nI 0) hx hb dX3_count_116 (by decide) ?_
  refine WR.callV (w1 := TW cI cJ t f g h (va_up τ 9 (cFi (τ 9) 0))) S kv_X3_48 (c_X3_fd0 l D cI cJ t f g h τ) hK hP hD hS hA ([]) ([]) (List.append_nil _).symm (List.append_nil _).symm TW_fst rfl ⟨Nat.le_of_ble_eq_true rfl, Nat.le_of_ble_eq_true rfl⟩ hl.1 rfl rfl (Nat.le_of_ble_eq_true rfl) (Nat.zero_le _) (Nat.zero_le _) dX3_count_117 (fun H locs hP hD hS => ?_)
  exact WR.iret S hr hlk hP hS (rfl) rfl dX3_count_120
set_option maxRecDepth 100000 in
set_option maxHeartbeats 4000000 in
theorem c_X3_status_okm (l : Launch) (D : va_G) (cI cJ : ClassId) (t : Nat → Nat) (f g h : Nat → Int32) (τ : Nat → Nat → Int32) : WR l yX3_status cX3_status 4 (some .int) 1 D cI cJ (TW cI cJ t f g h τ) [.ref (t 0), .int (-1)] (some (.int (rsum (τ 9) 7))) (TW cI cJ t f g h τ) := by
  refine WR.of (by decide) (Nat.le_of_ble_eq_true rfl) (fun p e s m below meth c ls A S hr hlk hK hP hD hS hA hl => ?_)
  obtain ⟨hx, hb, hml, hown, hU⟩ := id S
  have hl : lv_has ls 4 [(0, .ref (t 0)), (1, .int (-1))] := hl
  refine lv_iload_n hx hb dX3_status_0 rfl (lv_at hl 1 rfl) ?_
  refine lv_iconst (v := (-1)) hx hb dX3_status_1 (by decide) ?_
  refine lv_icmp_ne (tgt := 32) hx hb dX3_status_2 (by decide) (fun h => absurd h (fun h => h rfl)) (fun _ => ?_)
  refine lv_iconst (v := nI 0) hx hb dX3_status_5 (by decide) ?_
  refine lv_istore_n (lv' := [(2, .int (nI 0)), (0, .ref (t 0)), (1, .int (-1))]) hx hb dX3_status_6 rfl hl (by decide) rfl (fun ls hl => ?_)
  refine lv_iconst (v := nI 0) hx hb dX3_status_7 (by decide) ?_
  refine lv_istore_n (lv' := [(3, .int (nI 0)), (2, .int (nI 0)), (0, .ref (t 0)), (1, .int (-1))]) hx hb dX3_status_8 rfl hl (by decide) rfl (fun ls hl => ?_)
  have L_9 : ∀ (n9 : Nat) (j : Nat) (H : Heap) (locs : List Loc) (ls : Array Slot), 7 - j < n9 → (j ≤ 7) → va_P D vwCl (TW cI cJ t f g h τ) H → va_D A (TW cI cJ t f g h τ) → va_S A s.heap H locs → lv_has ls 4 [(0, .ref (t 0)), (2, .int (rsum (τ 9) j)), (3, .int (nI j))] → W p l e (rmd 1) s m ([.ref (t 0), .int (-1)] : List Value).toArray below meth c H locs 0 0 (ZW below ([.ref (t 0), .int (-1)] : List Value).toArray s D (some (.int (rsum (τ 9) 7))) (TW cI cJ t f g h τ) A) (F0 m 9 ls []) := by
    intro n9
    induction n9 with
    | zero => intro j H locs ls hmeas; exact absurd hmeas (Nat.not_lt_zero _)
    | succ n9 ih_9 =>
      intro j H locs ls hmeas hj hP hD hS hl
      refine lv_iload_n hx hb dX3_status_9 rfl (lv_at hl 2 rfl) ?_
      refine lv_bipush (v := nI 7) hx hb dX3_status_10 (by decide) ?_
      refine q_icmp_geN (tgt := 30) (a := j) (b := 7) hx hb dX3_status_12 (by decide) (by omega) (by omega) (fun c_12 => ?_) (fun c_12 => ?_)
      · refine lv_iload_n hx hb dX3_status_30 rfl (lv_at hl 1 rfl) ?_
        exact WR.iret S hr hlk hP hS (rfl) (congrArg (fun z => some (Value.int z)) (by rw [show j = 7 by omega])) dX3_status_31
      · refine lv_iload_n hx hb dX3_status_15 rfl (lv_at hl 1 rfl) ?_
        refine lv_aload_n hx hb dX3_status_16 rfl (lv_at hl 0 rfl) ?_
        refine g3_findings S hK hP dX3_status_17 ?_
        refine lv_iload_n hx hb dX3_status_20 rfl (lv_at hl 2 rfl) ?_
        refine l3_findings S hK hP (j := j) (by omega) dX3_status_21 ?_
        refine lv_iadd hx hb dX3_status_22 ?_
        refine lv_istore_n (lv' := [(2, .int ((rsum (τ 9) j) + (τ 9 j))), (0, .ref (t 0)), (3, .int (nI j))]) hx hb dX3_status_23 rfl hl (by decide) rfl (fun ls hl => ?_)
        refine lv_iinc (v := nI (j + 1)) (lv' := [(3, .int (nI (j + 1))), (2, .int ((rsum (τ 9) j) + (τ 9 j))), (0, .ref (t 0))]) hx hb dX3_status_24 hl (k := 2) rfl (q_inc _) (by decide) rfl (fun ls hl => ?_)
        refine lv_goto (tgt := 9) hx hb dX3_status_27 (by decide) ?_
        exact ih_9 (j + 1) _ _ ls (by omega) (by omega) hP hD hS (by rw [show rsum (τ 9) (j + 1) = (rsum (τ 9) j) + (τ 9 j) from rfl]; exact lv_sub hl [2, 1, 0] rfl)
  exact L_9 ((7 - 0) + 1) 0 _ _ ls (Nat.lt_succ_self _) (Nat.zero_le _) hP hD hS (by rw [show rsum (τ 9) 0 = nI 0 from rfl]; exact lv_sub hl [2, 1, 0] rfl)
set_option maxRecDepth 100000 in
set_option maxHeartbeats 4000000 in
theorem c_X3_status_ok0 (l : Launch) (D : va_G) (cI cJ : ClassId) (t : Nat → Nat) (f g h : Nat → Int32) (τ : Nat → Nat → Int32) : WR l yX3_status cX3_status 4 (some .int) 1 D cI cJ (TW cI cJ t f g h τ) [.ref (t 0), .int (nI 0)] (some (.int (τ 9 0))) (TW cI cJ t f g h τ) := by
  refine WR.of (by decide) (Nat.le_of_ble_eq_true rfl) (fun p e s m below meth c ls A S hr hlk hK hP hD hS hA hl => ?_)
  obtain ⟨hx, hb, hml, hown, hU⟩ := id S
  have hl : lv_has ls 4 [(0, .ref (t 0)), (1, .int (nI 0))] := hl
  refine lv_iload_n hx hb dX3_status_0 rfl (lv_at hl 1 rfl) ?_
  refine lv_iconst (v := (-1)) hx hb dX3_status_1 (by decide) ?_
  refine lv_icmp_ne (tgt := 32) hx hb dX3_status_2 (by decide) (fun _ => ?_) (fun h => absurd h (nI_ne_m1 (by omega)))
  refine lv_iload_n hx hb dX3_status_32 rfl (lv_at hl 1 rfl) ?_
  refine lv_bipush (v := nI 6) hx hb dX3_status_33 (by decide) ?_
  refine RO.callS S ks_X3_44 (c_X3_isWithin l D cI cJ t f g h τ (nI 0) (nI 6)) hK hP ⟨Nat.le_of_ble_eq_true rfl, Nat.le_of_ble_eq_true rfl⟩ hl.1 rfl rfl (Nat.le_of_ble_eq_true rfl) (Nat.zero_le _) (Nat.zero_le _) dX3_status_35 ?_
  refine q_if_eqB (tgt := 50) hx hb dX3_status_38 (by decide) (fun h => absurd (⟨nI_le (by omega) (by omega), nI_le (by omega) (by omega)⟩) h) (fun _ => ?_)
  refine lv_aload_n hx hb dX3_status_41 rfl (lv_at hl 0 rfl) ?_
  refine g3_findings S hK hP dX3_status_42 ?_
  refine lv_iload_n hx hb dX3_status_45 rfl (lv_at hl 1 rfl) ?_
  refine l3_findings S hK hP (j := 0) (by omega) dX3_status_46 ?_
  refine lv_goto (tgt := 55) hx hb dX3_status_47 (by decide) ?_
  exact WR.iret S hr hlk hP hS (rfl) rfl dX3_status_55
set_option maxRecDepth 100000 in
set_option maxHeartbeats 4000000 in
theorem c_X3_status_ok1 (l : Launch) (D : va_G) (cI cJ : ClassId) (t : Nat → Nat) (f g h : Nat → Int32) (τ : Nat → Nat → Int32) : WR l yX3_status cX3_status 4 (some .int) 1 D cI cJ (TW cI cJ t f g h τ) [.ref (t 0), .int (nI 1)] (some (.int (τ 9 1))) (TW cI cJ t f g h τ) := by
  refine WR.of (by decide) (Nat.le_of_ble_eq_true rfl) (fun p e s m below meth c ls A S hr hlk hK hP hD hS hA hl => ?_)
  obtain ⟨hx, hb, hml, hown, hU⟩ := id S
  have hl : lv_has ls 4 [(0, .ref (t 0)), (1, .int (nI 1))] := hl
  refine lv_iload_n hx hb dX3_status_0 rfl (lv_at hl 1 rfl) ?_
  refine lv_iconst (v := (-1)) hx hb dX3_status_1 (by decide) ?_
  refine lv_icmp_ne (tgt := 32) hx hb dX3_status_2 (by decide) (fun _ => ?_) (fun h => absurd h (nI_ne_m1 (by omega)))
  refine lv_iload_n hx hb dX3_status_32 rfl (lv_at hl 1 rfl) ?_
  refine lv_bipush (v := nI 6) hx hb dX3_status_33 (by decide) ?_
  refine RO.callS S ks_X3_44 (c_X3_isWithin l D cI cJ t f g h τ (nI 1) (nI 6)) hK hP ⟨Nat.le_of_ble_eq_true rfl, Nat.le_of_ble_eq_true rfl⟩ hl.1 rfl rfl (Nat.le_of_ble_eq_true rfl) (Nat.zero_le _) (Nat.zero_le _) dX3_status_35 ?_
  refine q_if_eqB (tgt := 50) hx hb dX3_status_38 (by decide) (fun h => absurd (⟨nI_le (by omega) (by omega), nI_le (by omega) (by omega)⟩) h) (fun _ => ?_)
  refine lv_aload_n hx hb dX3_status_41 rfl (lv_at hl 0 rfl) ?_
  refine g3_findings S hK hP dX3_status_42 ?_
  refine lv_iload_n hx hb dX3_status_45 rfl (lv_at hl 1 rfl) ?_
  refine l3_findings S hK hP (j := 1) (by omega) dX3_status_46 ?_
  refine lv_goto (tgt := 55) hx hb dX3_status_47 (by decide) ?_
  exact WR.iret S hr hlk hP hS (rfl) rfl dX3_status_55
set_option maxRecDepth 100000 in
set_option maxHeartbeats 4000000 in
theorem c_X3_status_ok2 (l : Launch) (D : va_G) (cI cJ : ClassId) (t : Nat → Nat) (f g h : Nat → Int32) (τ : Nat → Nat → Int32) : WR l yX3_status cX3_status 4 (some .int) 1 D cI cJ (TW cI cJ t f g h τ) [.ref (t 0), .int (nI 2)] (some (.int (τ 9 2))) (TW cI cJ t f g h τ) := by
  refine WR.of (by decide) (Nat.le_of_ble_eq_true rfl) (fun p e s m below meth c ls A S hr hlk hK hP hD hS hA hl => ?_)
  obtain ⟨hx, hb, hml, hown, hU⟩ := id S
  have hl : lv_has ls 4 [(0, .ref (t 0)), (1, .int (nI 2))] := hl
  refine lv_iload_n hx hb dX3_status_0 rfl (lv_at hl 1 rfl) ?_
  refine lv_iconst (v := (-1)) hx hb dX3_status_1 (by decide) ?_
  refine lv_icmp_ne (tgt := 32) hx hb dX3_status_2 (by decide) (fun _ => ?_) (fun h => absurd h (nI_ne_m1 (by omega)))
  refine lv_iload_n hx hb dX3_status_32 rfl (lv_at hl 1 rfl) ?_
  refine lv_bipush (v := nI 6) hx hb dX3_status_33 (by decide) ?_
  refine RO.callS S ks_X3_44 (c_X3_isWithin l D cI cJ t f g h τ (nI 2) (nI 6)) hK hP ⟨Nat.le_of_ble_eq_true rfl, Nat.le_of_ble_eq_true rfl⟩ hl.1 rfl rfl (Nat.le_of_ble_eq_true rfl) (Nat.zero_le _) (Nat.zero_le _) dX3_status_35 ?_
  refine q_if_eqB (tgt := 50) hx hb dX3_status_38 (by decide) (fun h => absurd (⟨nI_le (by omega) (by omega), nI_le (by omega) (by omega)⟩) h) (fun _ => ?_)
  refine lv_aload_n hx hb dX3_status_41 rfl (lv_at hl 0 rfl) ?_
  refine g3_findings S hK hP dX3_status_42 ?_
  refine lv_iload_n hx hb dX3_status_45 rfl (lv_at hl 1 rfl) ?_
  refine l3_findings S hK hP (j := 2) (by omega) dX3_status_46 ?_
  refine lv_goto (tgt := 55) hx hb dX3_status_47 (by decide) ?_
  exact WR.iret S hr hlk hP hS (rfl) rfl dX3_status_55
set_option maxRecDepth 100000 in
set_option maxHeartbeats 4000000 in
theorem c_X3_status_ok3 (l : Launch) (D : va_G) (cI cJ : ClassId) (t : Nat → Nat) (f g h : Nat → Int32) (τ : Nat → Nat → Int32) : WR l yX3_status cX3_status 4 (some .int) 1 D cI cJ (TW cI cJ t f g h τ) [.ref (t 0), .int (nI 3)] (some (.int (τ 9 3))) (TW cI cJ t f g h τ) := by
  refine WR.of (by decide) (Nat.le_of_ble_eq_true rfl) (fun p e s m below meth c ls A S hr hlk hK hP hD hS hA hl => ?_)
  obtain ⟨hx, hb, hml, hown, hU⟩ := id S
  have hl : lv_has ls 4 [(0, .ref (t 0)), (1, .int (nI 3))] := hl
  refine lv_iload_n hx hb dX3_status_0 rfl (lv_at hl 1 rfl) ?_
  refine lv_iconst (v := (-1)) hx hb dX3_status_1 (by decide) ?_
  refine lv_icmp_ne (tgt := 32) hx hb dX3_status_2 (by decide) (fun _ => ?_) (fun h => absurd h (nI_ne_m1 (by omega)))
  refine lv_iload_n hx hb dX3_status_32 rfl (lv_at hl 1 rfl) ?_
  refine lv_bipush (v := nI 6) hx hb dX3_status_33 (by decide) ?_
  refine RO.callS S ks_X3_44 (c_X3_isWithin l D cI cJ t f g h τ (nI 3) (nI 6)) hK hP ⟨Nat.le_of_ble_eq_true rfl, Nat.le_of_ble_eq_true rfl⟩ hl.1 rfl rfl (Nat.le_of_ble_eq_true rfl) (Nat.zero_le _) (Nat.zero_le _) dX3_status_35 ?_
  refine q_if_eqB (tgt := 50) hx hb dX3_status_38 (by decide) (fun h => absurd (⟨nI_le (by omega) (by omega), nI_le (by omega) (by omega)⟩) h) (fun _ => ?_)
  refine lv_aload_n hx hb dX3_status_41 rfl (lv_at hl 0 rfl) ?_
  refine g3_findings S hK hP dX3_status_42 ?_
  refine lv_iload_n hx hb dX3_status_45 rfl (lv_at hl 1 rfl) ?_
  refine l3_findings S hK hP (j := 3) (by omega) dX3_status_46 ?_
  refine lv_goto (tgt := 55) hx hb dX3_status_47 (by decide) ?_
  exact WR.iret S hr hlk hP hS (rfl) rfl dX3_status_55
set_option maxRecDepth 100000 in
set_option maxHeartbeats 4000000 in
theorem c_X3_status_ok4 (l : Launch) (D : va_G) (cI cJ : ClassId) (t : Nat → Nat) (f g h : Nat → Int32) (τ : Nat → Nat → Int32) : WR l yX3_status cX3_status 4 (some .int) 1 D cI cJ (TW cI cJ t f g h τ) [.ref (t 0), .int (nI 4)] (some (.int (τ 9 4))) (TW cI cJ t f g h τ) := by
  refine WR.of (by decide) (Nat.le_of_ble_eq_true rfl) (fun p e s m below meth c ls A S hr hlk hK hP hD hS hA hl => ?_)
  obtain ⟨hx, hb, hml, hown, hU⟩ := id S
  have hl : lv_has ls 4 [(0, .ref (t 0)), (1, .int (nI 4))] := hl
  refine lv_iload_n hx hb dX3_status_0 rfl (lv_at hl 1 rfl) ?_
  refine lv_iconst (v := (-1)) hx hb dX3_status_1 (by decide) ?_
  refine lv_icmp_ne (tgt := 32) hx hb dX3_status_2 (by decide) (fun _ => ?_) (fun h => absurd h (nI_ne_m1 (by omega)))
  refine lv_iload_n hx hb dX3_status_32 rfl (lv_at hl 1 rfl) ?_
  refine lv_bipush (v := nI 6) hx hb dX3_status_33 (by decide) ?_
  refine RO.callS S ks_X3_44 (c_X3_isWithin l D cI cJ t f g h τ (nI 4) (nI 6)) hK hP ⟨Nat.le_of_ble_eq_true rfl, Nat.le_of_ble_eq_true rfl⟩ hl.1 rfl rfl (Nat.le_of_ble_eq_true rfl) (Nat.zero_le _) (Nat.zero_le _) dX3_status_35 ?_
  refine q_if_eqB (tgt := 50) hx hb dX3_status_38 (by decide) (fun h => absurd (⟨nI_le (by omega) (by omega), nI_le (by omega) (by omega)⟩) h) (fun _ => ?_)
  refine lv_aload_n hx hb dX3_status_41 rfl (lv_at hl 0 rfl) ?_
  refine g3_findings S hK hP dX3_status_42 ?_
  refine lv_iload_n hx hb dX3_status_45 rfl (lv_at hl 1 rfl) ?_
  refine l3_findings S hK hP (j := 4) (by omega) dX3_status_46 ?_
  refine lv_goto (tgt := 55) hx hb dX3_status_47 (by decide) ?_
  exact WR.iret S hr hlk hP hS (rfl) rfl dX3_status_55
set_option maxRecDepth 100000 in
set_option maxHeartbeats 4000000 in
theorem c_X3_status_ok5 (l : Launch) (D : va_G) (cI cJ : ClassId) (t : Nat → Nat) (f g h : Nat → Int32) (τ : Nat → Nat → Int32) : WR l yX3_status cX3_status 4 (some .int) 1 D cI cJ (TW cI cJ t f g h τ) [.ref (t 0), .int (nI 5)] (some (.int (τ 9 5))) (TW cI cJ t f g h τ) := by
  refine WR.of (by decide) (Nat.le_of_ble_eq_true rfl) (fun p e s m below meth c ls A S hr hlk hK hP hD hS hA hl => ?_)
  obtain ⟨hx, hb, hml, hown, hU⟩ := id S
  have hl : lv_has ls 4 [(0, .ref (t 0)), (1, .int (nI 5))] := hl
  refine lv_iload_n hx hb dX3_status_0 rfl (lv_at hl 1 rfl) ?_
  refine lv_iconst (v := (-1)) hx hb dX3_status_1 (by decide) ?_
  refine lv_icmp_ne (tgt := 32) hx hb dX3_status_2 (by decide) (fun _ => ?_) (fun h => absurd h (nI_ne_m1 (by omega)))
  refine lv_iload_n hx hb dX3_status_32 rfl (lv_at hl 1 rfl) ?_
  refine lv_bipush (v := nI 6) hx hb dX3_status_33 (by decide) ?_
  refine RO.callS S ks_X3_44 (c_X3_isWithin l D cI cJ t f g h τ (nI 5) (nI 6)) hK hP ⟨Nat.le_of_ble_eq_true rfl, Nat.le_of_ble_eq_true rfl⟩ hl.1 rfl rfl (Nat.le_of_ble_eq_true rfl) (Nat.zero_le _) (Nat.zero_le _) dX3_status_35 ?_
  refine q_if_eqB (tgt := 50) hx hb dX3_status_38 (by decide) (fun h => absurd (⟨nI_le (by omega) (by omega), nI_le (by omega) (by omega)⟩) h) (fun _ => ?_)
  refine lv_aload_n hx hb dX3_status_41 rfl (lv_at hl 0 rfl) ?_
  refine g3_findings S hK hP dX3_status_42 ?_
  refine lv_iload_n hx hb dX3_status_45 rfl (lv_at hl 1 rfl) ?_
  refine l3_findings S hK hP (j := 5) (by omega) dX3_status_46 ?_
  refine lv_goto (tgt := 55) hx hb dX3_status_47 (by decide) ?_
  exact WR.iret S hr hlk hP hS (rfl) rfl dX3_status_55
set_option maxRecDepth 100000 in
set_option maxHeartbeats 4000000 in
theorem c_X3_status_ok6 (l : Launch) (D : va_G) (cI cJ : ClassId) (t : Nat → Nat) (f g h : Nat → Int32) (τ : Nat → Nat → Int32) : WR l yX3_status cX3_status 4 (some .int) 1 D cI cJ (TW cI cJ t f g h τ) [.ref (t 0), .int (nI 6)] (some (.int (τ 9 6))) (TW cI cJ t f g h τ) := by
  refine WR.of (by decide) (Nat.le_of_ble_eq_true rfl) (fun p e s m below meth c ls A S hr hlk hK hP hD hS hA hl => ?_)
  obtain ⟨hx, hb, hml, hown, hU⟩ := id S
  have hl : lv_has ls 4 [(0, .ref (t 0)), (1, .int (nI 6))] := hl
  refine lv_iload_n hx hb dX3_status_0 rfl (lv_at hl 1 rfl) ?_
  refine lv_iconst (v := (-1)) hx hb dX3_status_1 (by decide) ?_
  refine lv_icmp_ne (tgt := 32) hx hb dX3_status_2 (by decide) (fun _ => ?_) (fun h => absurd h (nI_ne_m1 (by omega)))
  refine lv_iload_n hx hb dX3_status_32 rfl (lv_at hl 1 rfl) ?_
  refine lv_bipush (v := nI 6) hx hb dX3_status_33 (by decide) ?_
  refine RO.callS S ks_X3_44 (c_X3_isWithin l D cI cJ t f g h τ (nI 6) (nI 6)) hK hP ⟨Nat.le_of_ble_eq_true rfl, Nat.le_of_ble_eq_true rfl⟩ hl.1 rfl rfl (Nat.le_of_ble_eq_true rfl) (Nat.zero_le _) (Nat.zero_le _) dX3_status_35 ?_
  refine q_if_eqB (tgt := 50) hx hb dX3_status_38 (by decide) (fun h => absurd (⟨nI_le (by omega) (by omega), nI_le (by omega) (by omega)⟩) h) (fun _ => ?_)
  refine lv_aload_n hx hb dX3_status_41 rfl (lv_at hl 0 rfl) ?_
  refine g3_findings S hK hP dX3_status_42 ?_
  refine lv_iload_n hx hb dX3_status_45 rfl (lv_at hl 1 rfl) ?_
  refine l3_findings S hK hP (j := 6) (by omega) dX3_status_46 ?_
  refine lv_goto (tgt := 55) hx hb dX3_status_47 (by decide) ?_
  exact WR.iret S hr hlk hP hS (rfl) rfl dX3_status_55
set_option maxRecDepth 100000 in
set_option maxHeartbeats 4000000 in
theorem c_X3_status_bad (l : Launch) (D : va_G) (cI cJ : ClassId) (t : Nat → Nat) (f g h : Nat → Int32) (τ : Nat → Nat → Int32) (x : Int32) (hb0 : ¬ (((-1) ≤ x ∧ x ≤ nI 6))) : WR l yX3_status cX3_status 4 (some .int) 1 D cI cJ (TW cI cJ t f g h τ) [.ref (t 0), .int x] (some (.int (-1000001))) (TW cI cJ t f g h (va_up τ 9 (cFi (τ 9) 0))) := by
  refine WR.of (by decide) (Nat.le_of_ble_eq_true rfl) (fun p e s m below meth c ls A S hr hlk hK hP hD hS hA hl => ?_)
  obtain ⟨hx, hb, hml, hown, hU⟩ := id S
  have hl : lv_has ls 4 [(0, .ref (t 0)), (1, .int x)] := hl
  refine lv_iload_n hx hb dX3_status_0 rfl (lv_at hl 1 rfl) ?_
  refine lv_iconst (v := (-1)) hx hb dX3_status_1 (by decide) ?_
  refine lv_icmp_ne (tgt := 32) hx hb dX3_status_2 (by decide) (fun c_2 => ?_) (fun c_2 => ?_)
  · refine lv_iload_n hx hb dX3_status_32 rfl (lv_at hl 1 rfl) ?_
    refine lv_bipush (v := nI 6) hx hb dX3_status_33 (by decide) ?_
    refine RO.callS S ks_X3_44 (c_X3_isWithin l D cI cJ t f g h τ x (nI 6)) hK hP ⟨Nat.le_of_ble_eq_true rfl, Nat.le_of_ble_eq_true rfl⟩ hl.1 rfl rfl (Nat.le_of_ble_eq_true rfl) (Nat.zero_le _) (Nat.zero_le _) dX3_status_35 ?_
    refine q_if_eqB (tgt := 50) hx hb dX3_status_38 (by decide) (fun c_38 => ?_) (fun c_38 => ?_)
    · refine lv_aload_n hx hb dX3_status_50 rfl (lv_at hl 0 rfl) ?_
      refine lv_iconst (v := nI 0) hx hb dX3_status_51 (by decide) ?_
      refine WR.callV (w1 := TW cI cJ t f g h (va_up τ 9 (cFi (τ 9) 0))) S kv_X3_48 (c_X3_fd0 l D cI cJ t f g h τ) hK hP hD hS hA ([]) ([]) (List.append_nil _).symm (List.append_nil _).symm TW_fst rfl ⟨Nat.le_of_ble_eq_true rfl, Nat.le_of_ble_eq_true rfl⟩ hl.1 rfl rfl (Nat.le_of_ble_eq_true rfl) (Nat.zero_le _) (Nat.zero_le _) dX3_status_52 (fun H locs hP hD hS => ?_)
      exact WR.iret S hr hlk hP hS (rfl) rfl dX3_status_55
    · exact absurd (m1_rg2 c_38) hb0
  · exact absurd (m1_rg c_2) hb0

set_option maxRecDepth 100000 in
set_option maxHeartbeats 4000000 in
theorem c_X4_fails (l : Launch) (D : va_G) (cI cJ : ClassId) (a : Nat → Nat) (f : Nat → Int32) (σ : Nat → Nat → Int32) (L : Nat) (S9 : Nat) (hL : σ 9 1 = nI L) (hL120 : L ≤ 120) (hS9 : S9 ≤ L) : WR l yX4_fails cX4_fails 1 (some .boolean) 0 D cI cJ (MW cI a f (TS σ L S9)) [.ref (a 0)] (some (.int (bI False))) (MW cI a f (m9 (TS σ L S9) 8 (nI S9))) := by
  have hte := tE_le (b := σ 5) (L := L) (s := S9) hS9
  have htv := tV_lt (b := σ 5) (L := L) (s := S9)
  have htk := tK_lt (b := σ 5) (L := L) (s := S9)
  refine WR.of (by decide) (Nat.le_of_ble_eq_true rfl) (fun p e s m below meth c ls A S hr hlk hK hP hD hS hA hl => ?_)
  obtain ⟨hx, hb, hml, hown, hU⟩ := id S
  have hl : lv_has ls 1 [(0, .ref (a 0))] := hl
  refine lv_aload_n hx hb dX4_fails_0 rfl (lv_at hl 0 rfl) ?_
  refine lv_aload_n hx hb dX4_fails_1 rfl (lv_at hl 0 rfl) ?_
  refine g4_from S hK hP dX4_fails_2 ?_
  refine p4_faultAt S hK hP hD hS dX4_fails_5 (fun H locs hP hD hS => ?_)
  refine lv_iconst (v := nI 0) hx hb dX4_fails_8 (by decide) ?_
  exact WR.zret S hr hlk hP hS (rfl) (bI_f (fun q5 => q5)) dX4_fails_9
set_option maxRecDepth 100000 in
set_option maxHeartbeats 4000000 in
theorem c_X4_isNumber_ok (l : Launch) (D : va_G) (cI cJ : ClassId) (a : Nat → Nat) (f : Nat → Int32) (σ : Nat → Nat → Int32) (L : Nat) (S9 : Nat) (hL : σ 9 1 = nI L) (hL120 : L ≤ 120) (hS9 : S9 ≤ L) (mo : Nat) (hmo : mo ≤ 9999) (hnu : tK (σ 5) L S9 = 2 ∧ tV (σ 5) L S9 ≤ mo) : WR l yX4_isNumber cX4_isNumber 3 (some .boolean) 1 D cI cJ (MW cI a f (TS σ L S9)) [.ref (a 0), .int (nI 0), .int (nI mo)] (some (.int (bI True))) (MW cI a f (TS σ L S9)) := by
  have hte := tE_le (b := σ 5) (L := L) (s := S9) hS9
  have htv := tV_lt (b := σ 5) (L := L) (s := S9)
  have htk := tK_lt (b := σ 5) (L := L) (s := S9)
  refine WR.of (by decide) (Nat.le_of_ble_eq_true rfl) (fun p e s m below meth c ls A S hr hlk hK hP hD hS hA hl => ?_)
  obtain ⟨hx, hb, hml, hown, hU⟩ := id S
  have hl : lv_has ls 3 [(0, .ref (a 0)), (1, .int (nI 0)), (2, .int (nI mo))] := hl
  refine lv_aload_n hx hb dX4_isNumber_0 rfl (lv_at hl 0 rfl) ?_
  refine g4_token S hK hP dX4_isNumber_1 ?_
  refine lv_iconst (v := nI 2) hx hb dX4_isNumber_4 (by decide) ?_
  refine q_icmp_neN (tgt := 23) (a := tK (σ 5) L S9) (b := 2) hx hb dX4_isNumber_5 (by decide) (by omega) (by omega) (fun h => absurd h (fun h => h hnu.1)) (fun _ => ?_)
  refine lv_aload_n hx hb dX4_isNumber_8 rfl (lv_at hl 0 rfl) ?_
  refine g4_value S hK hP dX4_isNumber_9 ?_
  refine lv_i2l hx hb dX4_isNumber_12 rfl ?_
  refine lv_iload_n hx hb dX4_isNumber_13 rfl (lv_at hl 1 rfl) ?_
  refine lv_i2l hx hb dX4_isNumber_14 rfl ?_
  refine lv_iload_n hx hb dX4_isNumber_15 rfl (lv_at hl 2 rfl) ?_
  refine lv_i2l hx hb dX4_isNumber_16 rfl ?_
  refine RO.callS S ks_X4_49 (c_X4_isIn l D cI cJ a f (TS σ L S9) (nI (tV (σ 5) L S9)) (nI 0) (nI mo)) hK hP ⟨Nat.le_of_ble_eq_true rfl, Nat.le_of_ble_eq_true rfl⟩ hl.1 rfl rfl (Nat.le_of_ble_eq_true rfl) (Nat.zero_le _) (Nat.zero_le _) dX4_isNumber_17 ?_
  refine q_if_neB (tgt := 30) hx hb dX4_isNumber_20 (by decide) (fun _ => ?_) (fun h => absurd (⟨nI_le (by omega) (by omega), nI_le (by omega) (by omega)⟩) h)
  refine lv_iconst (v := nI 1) hx hb dX4_isNumber_30 (by decide) ?_
  refine lv_goto (tgt := 35) hx hb dX4_isNumber_31 (by decide) ?_
  exact WR.zret S hr hlk hP hS (rfl) (bI_t (trivial)) dX4_isNumber_35
set_option maxRecDepth 100000 in
set_option maxHeartbeats 4000000 in
theorem c_X4_isNumber_no (l : Launch) (D : va_G) (cI cJ : ClassId) (a : Nat → Nat) (f : Nat → Int32) (σ : Nat → Nat → Int32) (L : Nat) (S9 : Nat) (hL : σ 9 1 = nI L) (hL120 : L ≤ 120) (hS9 : S9 ≤ L) (mo : Nat) (hmo : mo ≤ 9999) (hb0 : ¬ (tK (σ 5) L S9 = 2 ∧ tV (σ 5) L S9 ≤ mo)) : WR l yX4_isNumber cX4_isNumber 3 (some .boolean) 1 D cI cJ (MW cI a f (TS σ L S9)) [.ref (a 0), .int (nI 0), .int (nI mo)] (some (.int (bI False))) (MW cI a f (m9 (TS σ L S9) 8 (nI S9))) := by
  have hte := tE_le (b := σ 5) (L := L) (s := S9) hS9
  have htv := tV_lt (b := σ 5) (L := L) (s := S9)
  have htk := tK_lt (b := σ 5) (L := L) (s := S9)
  refine WR.of (by decide) (Nat.le_of_ble_eq_true rfl) (fun p e s m below meth c ls A S hr hlk hK hP hD hS hA hl => ?_)
  obtain ⟨hx, hb, hml, hown, hU⟩ := id S
  have hl : lv_has ls 3 [(0, .ref (a 0)), (1, .int (nI 0)), (2, .int (nI mo))] := hl
  refine lv_aload_n hx hb dX4_isNumber_0 rfl (lv_at hl 0 rfl) ?_
  refine g4_token S hK hP dX4_isNumber_1 ?_
  refine lv_iconst (v := nI 2) hx hb dX4_isNumber_4 (by decide) ?_
  refine q_icmp_neN (tgt := 23) (a := tK (σ 5) L S9) (b := 2) hx hb dX4_isNumber_5 (by decide) (by omega) (by omega) (fun c_5 => ?_) (fun c_5 => ?_)
  · refine lv_aload_n hx hb dX4_isNumber_23 rfl (lv_at hl 0 rfl) ?_
    refine WR.callV (w1 := MW cI a f (m9 (TS σ L S9) 8 (nI S9))) S kv_X4_241 (c_X4_fails l D cI cJ a f σ L S9 hL hL120 (hS9)) hK hP hD hS hA ([]) ([]) rfl rfl MW_fst rfl ⟨Nat.le_of_ble_eq_true rfl, Nat.le_of_ble_eq_true rfl⟩ hl.1 rfl rfl (Nat.le_of_ble_eq_true rfl) (Nat.zero_le _) (Nat.zero_le _) dX4_isNumber_24 (fun H locs hP hD hS => ?_)
    refine q_if_eqB (tgt := 34) hx hb dX4_isNumber_27 (by decide) (fun _ => ?_) (fun h => absurd h (fun q5 => q5))
    refine lv_iconst (v := nI 0) hx hb dX4_isNumber_34 (by decide) ?_
    exact WR.zret S hr hlk hP hS (rfl) (bI_f (fun q5 => q5)) dX4_isNumber_35
  · refine lv_aload_n hx hb dX4_isNumber_8 rfl (lv_at hl 0 rfl) ?_
    refine g4_value S hK hP dX4_isNumber_9 ?_
    refine lv_i2l hx hb dX4_isNumber_12 rfl ?_
    refine lv_iload_n hx hb dX4_isNumber_13 rfl (lv_at hl 1 rfl) ?_
    refine lv_i2l hx hb dX4_isNumber_14 rfl ?_
    refine lv_iload_n hx hb dX4_isNumber_15 rfl (lv_at hl 2 rfl) ?_
    refine lv_i2l hx hb dX4_isNumber_16 rfl ?_
    refine RO.callS S ks_X4_49 (c_X4_isIn l D cI cJ a f (TS σ L S9) (nI (tV (σ 5) L S9)) (nI 0) (nI mo)) hK hP ⟨Nat.le_of_ble_eq_true rfl, Nat.le_of_ble_eq_true rfl⟩ hl.1 rfl rfl (Nat.le_of_ble_eq_true rfl) (Nat.zero_le _) (Nat.zero_le _) dX4_isNumber_17 ?_
    refine q_if_neB (tgt := 30) hx hb dX4_isNumber_20 (by decide) (fun c_20 => ?_) (fun c_20 => ?_)
    · exact absurd (⟨c_5, (nI_leI (by omega) (by omega)).mp c_20.2⟩) hb0
    · refine lv_aload_n hx hb dX4_isNumber_23 rfl (lv_at hl 0 rfl) ?_
      refine WR.callV (w1 := MW cI a f (m9 (TS σ L S9) 8 (nI S9))) S kv_X4_241 (c_X4_fails l D cI cJ a f σ L S9 hL hL120 (hS9)) hK hP hD hS hA ([]) ([]) rfl rfl MW_fst rfl ⟨Nat.le_of_ble_eq_true rfl, Nat.le_of_ble_eq_true rfl⟩ hl.1 rfl rfl (Nat.le_of_ble_eq_true rfl) (Nat.zero_le _) (Nat.zero_le _) dX4_isNumber_24 (fun H locs hP hD hS => ?_)
      refine q_if_eqB (tgt := 34) hx hb dX4_isNumber_27 (by decide) (fun _ => ?_) (fun h => absurd h (fun q5 => q5))
      refine lv_iconst (v := nI 0) hx hb dX4_isNumber_34 (by decide) ?_
      exact WR.zret S hr hlk hP hS (rfl) (bI_f (fun q5 => q5)) dX4_isNumber_35
set_option maxRecDepth 100000 in
set_option maxHeartbeats 4000000 in
theorem c_X4_perhaps_w (l : Launch) (D : va_G) (cI cJ : ClassId) (a : Nat → Nat) (f : Nat → Int32) (σ : Nat → Nat → Int32) (L : Nat) (S9 : Nat) (hL : σ 9 1 = nI L) (hL120 : L ≤ 120) (hS9 : S9 ≤ L) (hby : By (σ 5) L) (ws : List Nat) (pl : Nat) (mo : Nat) (hpl : pl < 82) (hmo : mo ≤ 9999) : WR l yX4_perhaps cX4_perhaps 4 (some .boolean) 2 D cI cJ (MW cI a f (TS σ L S9)) [.ref (a 0), .int (bI (wd (σ 5) L S9 ws = true)), .int (nI pl), .int (nI mo)] (some (.int (bI ((pP (σ 5) L (true, f, S9) ws pl mo).1 = true)))) (MW cI a ((pP (σ 5) L (true, f, S9) ws pl mo).2.1) (XS σ L (pP (σ 5) L (true, f, S9) ws pl mo))) := by
  have hte := tE_le (b := σ 5) (L := L) (s := S9) hS9
  have htv := tV_lt (b := σ 5) (L := L) (s := S9)
  have htk := tK_lt (b := σ 5) (L := L) (s := S9)
  have htv2 := tV_lt (b := σ 5) (L := L) (s := nx (σ 5) L S9)
  refine WR.of (by decide) (Nat.le_of_ble_eq_true rfl) (fun p e s m below meth c ls A S hr hlk hK hP hD hS hA hl => ?_)
  obtain ⟨hx, hb, hml, hown, hU⟩ := id S
  have hl : lv_has ls 4 [(0, .ref (a 0)), (1, .int (bI (wd (σ 5) L S9 ws = true))), (2, .int (nI pl)), (3, .int (nI mo))] := hl
  refine lv_iload_n hx hb dX4_perhaps_0 rfl (lv_at hl 1 rfl) ?_
  refine q_if_neB (tgt := 6) hx hb dX4_perhaps_1 (by decide) (fun c_1 => ?_) (fun c_1 => ?_)
  · refine lv_aload_n hx hb dX4_perhaps_6 rfl (lv_at hl 0 rfl) ?_
    refine WR.callV (w1 := MW cI a f (TS σ L (nx (σ 5) L S9))) S kv_X4_256 (c_X4_nextToken l D cI cJ a f σ (nI (tK (σ 5) L S9)) (nI S9) (tE (σ 5) L S9) (nI (tV (σ 5) L S9)) L hL hL120 (tE_le (hS9)).2 hby) hK hP hD hS hA ([]) ([]) rfl rfl MW_fst rfl ⟨Nat.le_of_ble_eq_true rfl, Nat.le_of_ble_eq_true rfl⟩ hl.1 rfl rfl (Nat.le_of_ble_eq_true rfl) (Nat.zero_le _) (Nat.zero_le _) dX4_perhaps_7 (fun H locs hP hD hS => ?_)
    refine W.eq (g2 := F0 m 10 ls []) rfl ?_
    refine lv_aload_n hx hb dX4_perhaps_10 rfl (lv_at hl 0 rfl) ?_
    refine lv_iconst (v := nI 0) hx hb dX4_perhaps_11 (by decide) ?_
    refine lv_iload_n hx hb dX4_perhaps_12 rfl (lv_at hl 3 rfl) ?_
    by_cases hnum : tK (σ 5) L (nx (σ 5) L S9) = 2 ∧ tV (σ 5) L (nx (σ 5) L S9) ≤ mo
    · refine WR.callV (w1 := MW cI a f (TS σ L (nx (σ 5) L S9))) S kv_X4_259 (c_X4_isNumber_ok l D cI cJ a f σ L (nx (σ 5) L S9) hL hL120 (nx_le (hS9)) mo (by omega) hnum) hK hP hD hS hA ([]) ([]) rfl rfl MW_fst rfl ⟨Nat.le_of_ble_eq_true rfl, Nat.le_of_ble_eq_true rfl⟩ hl.1 rfl rfl (Nat.le_of_ble_eq_true rfl) (Nat.zero_le _) (Nat.zero_le _) dX4_perhaps_13 (fun H locs hP hD hS => ?_)
      refine q_if_neB (tgt := 21) hx hb dX4_perhaps_16 (by decide) (fun _ => ?_) (fun h => absurd (trivial) h)
      refine lv_aload_n hx hb dX4_perhaps_21 rfl (lv_at hl 0 rfl) ?_
      refine g4_s S hK hP dX4_perhaps_22 ?_
      refine lv_iload_n hx hb dX4_perhaps_25 rfl (lv_at hl 2 rfl) ?_
      refine lv_aload_n hx hb dX4_perhaps_26 rfl (lv_at hl 0 rfl) ?_
      refine g4_value S hK hP dX4_perhaps_27 ?_
      refine s4_s S hK hP hD hS (j := pl) (by omega) dX4_perhaps_30 (fun H locs hP hD hS => ?_)
      refine lv_aload_n hx hb dX4_perhaps_31 rfl (lv_at hl 0 rfl) ?_
      refine WR.callV (w1 := MW cI a (upd f pl (nI (tV (σ 5) L (nx (σ 5) L S9)))) (TS σ L (nx (σ 5) L (nx (σ 5) L S9)))) S kv_X4_256 (c_X4_nextToken l D cI cJ a (upd f pl (nI (tV (σ 5) L (nx (σ 5) L S9)))) σ (nI (tK (σ 5) L (nx (σ 5) L S9))) (nI (nx (σ 5) L S9)) (tE (σ 5) L (nx (σ 5) L S9)) (nI (tV (σ 5) L (nx (σ 5) L S9))) L hL hL120 (tE_le (nx_le (hS9))).2 hby) hK hP hD hS hA ([]) ([]) rfl rfl MW_fst rfl ⟨Nat.le_of_ble_eq_true rfl, Nat.le_of_ble_eq_true rfl⟩ hl.1 rfl rfl (Nat.le_of_ble_eq_true rfl) (Nat.zero_le _) (Nat.zero_le _) dX4_perhaps_32 (fun H locs hP hD hS => ?_)
      refine W.eq (g2 := F0 m 35 ls []) rfl ?_
      refine lv_iconst (v := nI 1) hx hb dX4_perhaps_35 (by decide) ?_
      exact WR.zret S hr hlk hP hS (by rw [pP_w c_1, pN_t hnum]; rfl) (bI_t (by rw [pP_w c_1, pN_t hnum])) dX4_perhaps_36
    · refine WR.callV (w1 := MW cI a f (m9 (TS σ L (nx (σ 5) L S9)) 8 (nI (nx (σ 5) L S9)))) S kv_X4_259 (c_X4_isNumber_no l D cI cJ a f σ L (nx (σ 5) L S9) hL hL120 (nx_le (hS9)) mo (by omega) hnum) hK hP hD hS hA ([]) ([]) rfl rfl MW_fst rfl ⟨Nat.le_of_ble_eq_true rfl, Nat.le_of_ble_eq_true rfl⟩ hl.1 rfl rfl (Nat.le_of_ble_eq_true rfl) (Nat.zero_le _) (Nat.zero_le _) dX4_perhaps_13 (fun H locs hP hD hS => ?_)
      refine q_if_neB (tgt := 21) hx hb dX4_perhaps_16 (by decide) (fun h => absurd h (fun q5 => q5)) (fun _ => ?_)
      refine lv_iconst (v := nI 0) hx hb dX4_perhaps_19 (by decide) ?_
      exact WR.zret S hr hlk hP hS (by rw [pP_w c_1, pN_f hnum]; rfl) (bI_f (by rw [pP_w c_1, pN_f hnum]; exact Bool.false_ne_true)) dX4_perhaps_20
  · refine lv_iconst (v := nI 1) hx hb dX4_perhaps_4 (by decide) ?_
    exact WR.zret S hr hlk hP hS (by rw [pP_n c_1]; rfl) (bI_t (by rw [pP_n c_1])) dX4_perhaps_5
set_option maxRecDepth 100000 in
set_option maxHeartbeats 4000000 in
theorem c_X4_perhaps_one (l : Launch) (D : va_G) (cI cJ : ClassId) (a : Nat → Nat) (f : Nat → Int32) (σ : Nat → Nat → Int32) (L : Nat) (S9 : Nat) (hL : σ 9 1 = nI L) (hL120 : L ≤ 120) (hS9 : S9 ≤ L) (hby : By (σ 5) L) (pl : Nat) (mo : Nat) (hpl : pl < 82) (hmo : mo ≤ 9999) : WR l yX4_perhaps cX4_perhaps 4 (some .boolean) 2 D cI cJ (MW cI a f (TS σ L S9)) [.ref (a 0), .int (nI 1), .int (nI pl), .int (nI mo)] (some (.int (bI ((pN (σ 5) L f S9 pl mo).1 = true)))) (MW cI a ((pN (σ 5) L f S9 pl mo).2.1) (XS σ L (pN (σ 5) L f S9 pl mo))) := by
  have hte := tE_le (b := σ 5) (L := L) (s := S9) hS9
  have htv := tV_lt (b := σ 5) (L := L) (s := S9)
  have htk := tK_lt (b := σ 5) (L := L) (s := S9)
  have htv2 := tV_lt (b := σ 5) (L := L) (s := nx (σ 5) L S9)
  refine WR.of (by decide) (Nat.le_of_ble_eq_true rfl) (fun p e s m below meth c ls A S hr hlk hK hP hD hS hA hl => ?_)
  obtain ⟨hx, hb, hml, hown, hU⟩ := id S
  have hl : lv_has ls 4 [(0, .ref (a 0)), (1, .int (nI 1)), (2, .int (nI pl)), (3, .int (nI mo))] := hl
  refine lv_iload_n hx hb dX4_perhaps_0 rfl (lv_at hl 1 rfl) ?_
  refine q_if_neN (tgt := 6) (a := 1) hx hb dX4_perhaps_1 (by decide) (by omega) (fun _ => ?_) (fun h => absurd h (by omega))
  refine lv_aload_n hx hb dX4_perhaps_6 rfl (lv_at hl 0 rfl) ?_
  refine WR.callV (w1 := MW cI a f (TS σ L (nx (σ 5) L S9))) S kv_X4_256 (c_X4_nextToken l D cI cJ a f σ (nI (tK (σ 5) L S9)) (nI S9) (tE (σ 5) L S9) (nI (tV (σ 5) L S9)) L hL hL120 (tE_le (hS9)).2 hby) hK hP hD hS hA ([]) ([]) rfl rfl MW_fst rfl ⟨Nat.le_of_ble_eq_true rfl, Nat.le_of_ble_eq_true rfl⟩ hl.1 rfl rfl (Nat.le_of_ble_eq_true rfl) (Nat.zero_le _) (Nat.zero_le _) dX4_perhaps_7 (fun H locs hP hD hS => ?_)
  refine W.eq (g2 := F0 m 10 ls []) rfl ?_
  refine lv_aload_n hx hb dX4_perhaps_10 rfl (lv_at hl 0 rfl) ?_
  refine lv_iconst (v := nI 0) hx hb dX4_perhaps_11 (by decide) ?_
  refine lv_iload_n hx hb dX4_perhaps_12 rfl (lv_at hl 3 rfl) ?_
  by_cases hnum : tK (σ 5) L (nx (σ 5) L S9) = 2 ∧ tV (σ 5) L (nx (σ 5) L S9) ≤ mo
  · refine WR.callV (w1 := MW cI a f (TS σ L (nx (σ 5) L S9))) S kv_X4_259 (c_X4_isNumber_ok l D cI cJ a f σ L (nx (σ 5) L S9) hL hL120 (nx_le (hS9)) mo (by omega) hnum) hK hP hD hS hA ([]) ([]) rfl rfl MW_fst rfl ⟨Nat.le_of_ble_eq_true rfl, Nat.le_of_ble_eq_true rfl⟩ hl.1 rfl rfl (Nat.le_of_ble_eq_true rfl) (Nat.zero_le _) (Nat.zero_le _) dX4_perhaps_13 (fun H locs hP hD hS => ?_)
    refine q_if_neB (tgt := 21) hx hb dX4_perhaps_16 (by decide) (fun _ => ?_) (fun h => absurd (trivial) h)
    refine lv_aload_n hx hb dX4_perhaps_21 rfl (lv_at hl 0 rfl) ?_
    refine g4_s S hK hP dX4_perhaps_22 ?_
    refine lv_iload_n hx hb dX4_perhaps_25 rfl (lv_at hl 2 rfl) ?_
    refine lv_aload_n hx hb dX4_perhaps_26 rfl (lv_at hl 0 rfl) ?_
    refine g4_value S hK hP dX4_perhaps_27 ?_
    refine s4_s S hK hP hD hS (j := pl) (by omega) dX4_perhaps_30 (fun H locs hP hD hS => ?_)
    refine lv_aload_n hx hb dX4_perhaps_31 rfl (lv_at hl 0 rfl) ?_
    refine WR.callV (w1 := MW cI a (upd f pl (nI (tV (σ 5) L (nx (σ 5) L S9)))) (TS σ L (nx (σ 5) L (nx (σ 5) L S9)))) S kv_X4_256 (c_X4_nextToken l D cI cJ a (upd f pl (nI (tV (σ 5) L (nx (σ 5) L S9)))) σ (nI (tK (σ 5) L (nx (σ 5) L S9))) (nI (nx (σ 5) L S9)) (tE (σ 5) L (nx (σ 5) L S9)) (nI (tV (σ 5) L (nx (σ 5) L S9))) L hL hL120 (tE_le (nx_le (hS9))).2 hby) hK hP hD hS hA ([]) ([]) rfl rfl MW_fst rfl ⟨Nat.le_of_ble_eq_true rfl, Nat.le_of_ble_eq_true rfl⟩ hl.1 rfl rfl (Nat.le_of_ble_eq_true rfl) (Nat.zero_le _) (Nat.zero_le _) dX4_perhaps_32 (fun H locs hP hD hS => ?_)
    refine W.eq (g2 := F0 m 35 ls []) rfl ?_
    refine lv_iconst (v := nI 1) hx hb dX4_perhaps_35 (by decide) ?_
    exact WR.zret S hr hlk hP hS (by rw [pN_t hnum]; rfl) (bI_t (by rw [pN_t hnum])) dX4_perhaps_36
  · refine WR.callV (w1 := MW cI a f (m9 (TS σ L (nx (σ 5) L S9)) 8 (nI (nx (σ 5) L S9)))) S kv_X4_259 (c_X4_isNumber_no l D cI cJ a f σ L (nx (σ 5) L S9) hL hL120 (nx_le (hS9)) mo (by omega) hnum) hK hP hD hS hA ([]) ([]) rfl rfl MW_fst rfl ⟨Nat.le_of_ble_eq_true rfl, Nat.le_of_ble_eq_true rfl⟩ hl.1 rfl rfl (Nat.le_of_ble_eq_true rfl) (Nat.zero_le _) (Nat.zero_le _) dX4_perhaps_13 (fun H locs hP hD hS => ?_)
    refine q_if_neB (tgt := 21) hx hb dX4_perhaps_16 (by decide) (fun h => absurd h (fun q5 => q5)) (fun _ => ?_)
    refine lv_iconst (v := nI 0) hx hb dX4_perhaps_19 (by decide) ?_
    exact WR.zret S hr hlk hP hS (by rw [pN_f hnum]; rfl) (bI_f (by rw [pN_f hnum]; exact Bool.false_ne_true)) dX4_perhaps_20
set_option maxRecDepth 100000 in
set_option maxHeartbeats 4000000 in
theorem c_X4_cellarHere (l : Launch) (D : va_G) (cI cJ : ClassId) (a : Nat → Nat) (f : Nat → Int32) (σ : Nat → Nat → Int32) (L : Nat) (S9 : Nat) (hL : σ 9 1 = nI L) (hL120 : L ≤ 120) (hS9 : S9 ≤ L) (hby : By (σ 5) L) (row : Nat) (mo : Nat) (hrow : row ≤ 10) (hmo : mo ≤ 9999) : WR l yX4_cellarHere cX4_cellarHere 3 (some .boolean) 3 D cI cJ (MW cI a f (TS σ L S9)) [.ref (a 0), .int (nI row), .int (nI mo)] (some (.int (bI ((iR (σ 5) L f S9 row mo).1 = true)))) (MW cI a ((iR (σ 5) L f S9 row mo).2.1) (XS σ L (iR (σ 5) L f S9 row mo))) := by
  have hte := tE_le (b := σ 5) (L := L) (s := S9) hS9
  have htv := tV_lt (b := σ 5) (L := L) (s := S9)
  have htk := tK_lt (b := σ 5) (L := L) (s := S9)
  have htv2 := tV_lt (b := σ 5) (L := L) (s := nx (σ 5) L S9)
  refine WR.of (by decide) (Nat.le_of_ble_eq_true rfl) (fun p e s m below meth c ls A S hr hlk hK hP hD hS hA hl => ?_)
  obtain ⟨hx, hb, hml, hown, hU⟩ := id S
  have hl : lv_has ls 3 [(0, .ref (a 0)), (1, .int (nI row)), (2, .int (nI mo))] := hl
  refine lv_aload_n hx hb dX4_cellarHere_0 rfl (lv_at hl 0 rfl) ?_
  refine WR.callV (w1 := MW cI a f (TS σ L (nx (σ 5) L S9))) S kv_X4_256 (c_X4_nextToken l D cI cJ a f σ (nI (tK (σ 5) L S9)) (nI S9) (tE (σ 5) L S9) (nI (tV (σ 5) L S9)) L hL hL120 (tE_le (hS9)).2 hby) hK hP hD hS hA ([]) ([]) rfl rfl MW_fst rfl ⟨Nat.le_of_ble_eq_true rfl, Nat.le_of_ble_eq_true rfl⟩ hl.1 rfl rfl (Nat.le_of_ble_eq_true rfl) (Nat.zero_le _) (Nat.zero_le _) dX4_cellarHere_1 (fun H locs hP hD hS => ?_)
  refine W.eq (g2 := F0 m 4 ls []) rfl ?_
  refine lv_aload_n hx hb dX4_cellarHere_4 rfl (lv_at hl 0 rfl) ?_
  refine lv_iconst (v := nI 0) hx hb dX4_cellarHere_5 (by decide) ?_
  refine lv_iconst (v := nI 5) hx hb dX4_cellarHere_6 (by decide) ?_
  by_cases hnum : tK (σ 5) L (nx (σ 5) L S9) = 2 ∧ tV (σ 5) L (nx (σ 5) L S9) ≤ 5
  · refine WR.callV (w1 := MW cI a f (TS σ L (nx (σ 5) L S9))) S kv_X4_259 (c_X4_isNumber_ok l D cI cJ a f σ L (nx (σ 5) L S9) hL hL120 (nx_le (hS9)) 5 (by omega) hnum) hK hP hD hS hA ([]) ([]) rfl rfl MW_fst rfl ⟨Nat.le_of_ble_eq_true rfl, Nat.le_of_ble_eq_true rfl⟩ hl.1 rfl rfl (Nat.le_of_ble_eq_true rfl) (Nat.zero_le _) (Nat.zero_le _) dX4_cellarHere_7 (fun H locs hP hD hS => ?_)
    refine q_if_eqB (tgt := 32) hx hb dX4_cellarHere_10 (by decide) (fun h => absurd (trivial) h) (fun _ => ?_)
    refine lv_aload_n hx hb dX4_cellarHere_13 rfl (lv_at hl 0 rfl) ?_
    refine lv_iconst (v := nI 1) hx hb dX4_cellarHere_14 (by decide) ?_
    refine lv_iload_n hx hb dX4_cellarHere_15 rfl (lv_at hl 1 rfl) ?_
    refine lv_aload_n hx hb dX4_cellarHere_16 rfl (lv_at hl 0 rfl) ?_
    refine g4_value S hK hP dX4_cellarHere_17 ?_
    refine q_iaddN (a := row) (b := tV (σ 5) L (nx (σ 5) L S9)) hx hb dX4_cellarHere_20 ?_
    refine lv_iload_n hx hb dX4_cellarHere_21 rfl (lv_at hl 2 rfl) ?_
    refine WR.callV (w1 := MW cI a ((pN (σ 5) L f (nx (σ 5) L S9) (row + (tV (σ 5) L (nx (σ 5) L S9))) mo).2.1) (XS σ L (pN (σ 5) L f (nx (σ 5) L S9) (row + (tV (σ 5) L (nx (σ 5) L S9))) mo))) S kv_X4_262 (c_X4_perhaps_one l D cI cJ a f σ L (nx (σ 5) L S9) hL hL120 (nx_le (hS9)) hby (row + (tV (σ 5) L (nx (σ 5) L S9))) mo (by omega) (by omega)) hK hP hD hS hA ([]) ([]) rfl rfl MW_fst rfl ⟨Nat.le_of_ble_eq_true rfl, Nat.le_of_ble_eq_true rfl⟩ hl.1 rfl rfl (Nat.le_of_ble_eq_true rfl) (Nat.zero_le _) (Nat.zero_le _) dX4_cellarHere_22 (fun H locs hP hD hS => ?_)
    refine q_if_eqB (tgt := 32) hx hb dX4_cellarHere_25 (by decide) (fun c_25 => ?_) (fun c_25 => ?_)
    · refine lv_iconst (v := nI 0) hx hb dX4_cellarHere_32 (by decide) ?_
      exact WR.zret S hr hlk hP hS (by rw [show iR (σ 5) L f S9 row mo = pN (σ 5) L f (nx (σ 5) L S9) (row + tV (σ 5) L (nx (σ 5) L S9)) mo from if_pos hnum]) (bI_f (by rw [show iR (σ 5) L f S9 row mo = pN (σ 5) L f (nx (σ 5) L S9) (row + tV (σ 5) L (nx (σ 5) L S9)) mo from if_pos hnum]; exact c_25)) dX4_cellarHere_33
    · refine lv_iconst (v := nI 1) hx hb dX4_cellarHere_28 (by decide) ?_
      refine lv_goto (tgt := 33) hx hb dX4_cellarHere_29 (by decide) ?_
      exact WR.zret S hr hlk hP hS (by rw [show iR (σ 5) L f S9 row mo = pN (σ 5) L f (nx (σ 5) L S9) (row + tV (σ 5) L (nx (σ 5) L S9)) mo from if_pos hnum]) (bI_t (by rw [show iR (σ 5) L f S9 row mo = pN (σ 5) L f (nx (σ 5) L S9) (row + tV (σ 5) L (nx (σ 5) L S9)) mo from if_pos hnum]; exact c_25)) dX4_cellarHere_33
  · refine WR.callV (w1 := MW cI a f (m9 (TS σ L (nx (σ 5) L S9)) 8 (nI (nx (σ 5) L S9)))) S kv_X4_259 (c_X4_isNumber_no l D cI cJ a f σ L (nx (σ 5) L S9) hL hL120 (nx_le (hS9)) 5 (by omega) hnum) hK hP hD hS hA ([]) ([]) rfl rfl MW_fst rfl ⟨Nat.le_of_ble_eq_true rfl, Nat.le_of_ble_eq_true rfl⟩ hl.1 rfl rfl (Nat.le_of_ble_eq_true rfl) (Nat.zero_le _) (Nat.zero_le _) dX4_cellarHere_7 (fun H locs hP hD hS => ?_)
    refine q_if_eqB (tgt := 32) hx hb dX4_cellarHere_10 (by decide) (fun _ => ?_) (fun h => absurd h (fun q5 => q5))
    refine lv_iconst (v := nI 0) hx hb dX4_cellarHere_32 (by decide) ?_
    exact WR.zret S hr hlk hP hS (by rw [show iR (σ 5) L f S9 row mo = (false, f, nx (σ 5) L S9) from if_neg hnum]; rfl) (bI_f (by rw [show iR (σ 5) L f S9 row mo = (false, f, nx (σ 5) L S9) from if_neg hnum]; exact Bool.false_ne_true)) dX4_cellarHere_33

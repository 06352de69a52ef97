def tgN (τ : Nat → Nat → Int32) (o : Option Nat) : Nat → Nat → Int32 := match o with
  | none => va_up τ 9 (cFi (τ 9) 3)
  | some _ => τ
def pm : Nat → Int32
  | 0 => -1
  | v + 1 => nI v
theorem pm_dec : ∀ {v : Nat}, v ≤ 100 → pm v = nI v + Int32.ofInt (-1) := by decide +kernel
set_option maxRecDepth 100000 in
set_option maxHeartbeats 4000000 in
theorem c_X3_image_ok (l : Launch) (D : va_G) (cI cJ : ClassId) (t : Nat → Nat) (f g h : Nat → Int32) (τ : Nat → Nat → Int32) : WR l yX3_image cX3_image 1 (some .int) 2 D cI cJ (TW cI cJ t f g h τ) [.ref (t 0)] (some (.int (nI 1))) (TW cI cJ t f g f (m0 τ 0 (nI 1))) := by
  refine WR.of (by decide) (Nat.le_of_ble_eq_true rfl) (fun p e s m below meth c ls A S hr hlk hK hP hD hS hA hl => ?_)
  obtain ⟨hx, hb, hml, hown, hU⟩ := id S
  have hl : lv_has ls 1 [(0, .ref (t 0))] := hl
  refine lv_aload_n hx hb dX3_image_0 rfl (lv_at hl 0 rfl) ?_
  refine g3_kept S hK hP dX3_image_1 ?_
  refine lv_aload_n hx hb dX3_image_4 rfl (lv_at hl 0 rfl) ?_
  refine g3_live S hK hP dX3_image_5 ?_
  refine WR.callVq 22 (w1 := TW cI cJ t f g f τ) S kv_X3_125 (c_X0_takeFrom_3_1 l D cI cJ (sf t 1) (sf t 12) (sf t 23) f g h) hK hP hD hS hA _ _ TW_s123 TW_s123 PW3_fst rfl ⟨Nat.le_of_ble_eq_true rfl, Nat.le_of_ble_eq_true rfl⟩ hl.1 rfl rfl (Nat.le_of_ble_eq_true rfl) (Nat.zero_le _) (Nat.zero_le _) dX3_image_8 (fun H locs hP hD hS => ?_)
  refine W.eq (g2 := F0 m 11 ls []) rfl ?_
  refine lv_aload_n hx hb dX3_image_11 rfl (lv_at hl 0 rfl) ?_
  refine lv_iconst (v := nI 1) hx hb dX3_image_12 (by decide) ?_
  refine p3_isKept S hK hP hD hS (Or.inr rfl) dX3_image_13 (fun H locs hP hD hS => ?_)
  refine lv_iconst (v := nI 1) hx hb dX3_image_16 (by decide) ?_
  exact WR.iret S hr hlk hP hS (rfl) rfl dX3_image_17
set_option maxRecDepth 100000 in
set_option maxHeartbeats 4000000 in
theorem c_X3_undo_ok (l : Launch) (D : va_G) (cI cJ : ClassId) (t : Nat → Nat) (f g h : Nat → Int32) (τ : Nat → Nat → Int32) (hi9 : τ 0 0 = nI 1) : WR l yX3_undo cX3_undo 1 (some .int) 2 D cI cJ (TW cI cJ t f g h τ) [.ref (t 0)] (some (.int (h 1))) (TW cI cJ t h g h τ) := by
  refine WR.of (by decide) (Nat.le_of_ble_eq_true rfl) (fun p e s m below meth c ls A S hr hlk hK hP hD hS hA hl => ?_)
  obtain ⟨hx, hb, hml, hown, hU⟩ := id S
  have hl : lv_has ls 1 [(0, .ref (t 0))] := hl
  refine lv_aload_n hx hb dX3_undo_0 rfl (lv_at hl 0 rfl) ?_
  refine g3_isKept S hK hP dX3_undo_1 ?_
  refine q_eqi (y := nI 1) (hi9) ?_
  refine q_if_neN (tgt := 13) (a := 1) hx hb dX3_undo_4 (by decide) (by omega) (fun _ => ?_) (fun h => absurd h (by omega))
  refine lv_aload_n hx hb dX3_undo_13 rfl (lv_at hl 0 rfl) ?_
  refine g3_live S hK hP dX3_undo_14 ?_
  refine lv_aload_n hx hb dX3_undo_17 rfl (lv_at hl 0 rfl) ?_
  refine g3_kept S hK hP dX3_undo_18 ?_
  refine WR.callVq 0 (w1 := TW cI cJ t h g h τ) S kv_X3_125 (c_X0_takeFrom_1_3 l D cI cJ (sf t 1) (sf t 12) (sf t 23) f g h) hK hP hD hS hA _ _ TW_s123 TW_s123 PW3_fst rfl ⟨Nat.le_of_ble_eq_true rfl, Nat.le_of_ble_eq_true rfl⟩ hl.1 rfl rfl (Nat.le_of_ble_eq_true rfl) (Nat.zero_le _) (Nat.zero_le _) dX3_undo_21 (fun H locs hP hD hS => ?_)
  refine W.eq (g2 := F0 m 24 ls []) rfl ?_
  refine lv_aload_n hx hb dX3_undo_24 rfl (lv_at hl 0 rfl) ?_
  refine g3_live S hK hP dX3_undo_25 ?_
  refine g30_day S hK (TW_live hP) dX3_undo_28 ?_
  exact WR.iret S hr hlk hP hS (rfl) rfl dX3_undo_31
set_option maxRecDepth 100000 in
set_option maxHeartbeats 4000000 in
theorem c_X3_ahead_ok2 (l : Launch) (D : va_G) (cI cJ : ClassId) (t : Nat → Nat) (f g h : Nat → Int32) (τ : Nat → Nat → Int32) (k : Nat) (u : Nat) (n : Nat) (hw : Wk f n) (d : Nat) (hd : f 1 = nI d) (hp : Pk f n) (hs : Sk f) (hk : k < n) (ht : u ≤ 100) (hd2 : d + u ≤ 99999) : WR l yX3_ahead cX3_ahead 4 (some .int) 6 D cI cJ (TW cI cJ t f g h τ) [.ref (t 0), .int (nI k), .int (nI 2), .int (nI u)] (some (.int (fi (sGo f n u) k 2))) (TW cI cJ t f (sGo f n u) h τ) := by
  have h8 := hw.2.1
  refine WR.of (by decide) (Nat.le_of_ble_eq_true rfl) (fun p e s m below meth c ls A S hr hlk hK hP hD hS hA hl => ?_)
  obtain ⟨hx, hb, hml, hown, hU⟩ := id S
  have hl : lv_has ls 4 [(0, .ref (t 0)), (1, .int (nI k)), (2, .int (nI 2)), (3, .int (nI u))] := hl
  refine lv_aload_n hx hb dX3_ahead_0 rfl (lv_at hl 0 rfl) ?_
  refine lv_iload_n hx hb dX3_ahead_1 rfl (lv_at hl 1 rfl) ?_
  refine RO.callV S kv_X3_72 (c_X3_isCask l D cI cJ t f g h τ (nI k) n (hw)) hK hP rfl ⟨Nat.le_of_ble_eq_true rfl, Nat.le_of_ble_eq_true rfl⟩ hl.1 rfl rfl (Nat.le_of_ble_eq_true rfl) (Nat.zero_le _) (Nat.zero_le _) dX3_ahead_2 ?_
  refine q_if_eqB (tgt := 17) hx hb dX3_ahead_5 (by decide) (fun h => absurd (⟨nI_pos' (by omega), nI_lt (by omega) (by omega)⟩) h) (fun _ => ?_)
  refine lv_iload_n hx hb dX3_ahead_8 rfl (lv_at hl 3 rfl) ?_
  refine lv_bipush (v := nI 100) hx hb dX3_ahead_9 (by decide) ?_
  refine RO.callS S ks_X3_44 (c_X3_isWithin l D cI cJ t f g h τ (nI u) (nI 100)) hK hP ⟨Nat.le_of_ble_eq_true rfl, Nat.le_of_ble_eq_true rfl⟩ hl.1 rfl rfl (Nat.le_of_ble_eq_true rfl) (Nat.zero_le _) (Nat.zero_le _) dX3_ahead_11 ?_
  refine q_if_neB (tgt := 23) hx hb dX3_ahead_14 (by decide) (fun _ => ?_) (fun h => absurd (⟨nI_le (by omega) (by omega), nI_le (by omega) (by omega)⟩) h)
  refine lv_iload_n hx hb dX3_ahead_23 rfl (lv_at hl 2 rfl) ?_
  refine lv_iconst (v := nI 2) hx hb dX3_ahead_24 (by decide) ?_
  refine q_icmp_eqN (tgt := 51) (a := 2) (b := 2) hx hb dX3_ahead_25 (by decide) (by omega) (by omega) (fun _ => ?_) (fun h => absurd h (by omega))
  refine lv_aload_n hx hb dX3_ahead_51 rfl (lv_at hl 0 rfl) ?_
  refine g3_trial S hK hP dX3_ahead_52 ?_
  refine lv_aload_n hx hb dX3_ahead_55 rfl (lv_at hl 0 rfl) ?_
  refine g3_live S hK hP dX3_ahead_56 ?_
  refine WR.callVq 11 (w1 := TW cI cJ t f f h τ) S kv_X3_125 (c_X0_takeFrom_2_1 l D cI cJ (sf t 1) (sf t 12) (sf t 23) f g h) hK hP hD hS hA _ _ TW_s123 TW_s123 PW3_fst rfl ⟨Nat.le_of_ble_eq_true rfl, Nat.le_of_ble_eq_true rfl⟩ hl.1 rfl rfl (Nat.le_of_ble_eq_true rfl) (Nat.zero_le _) (Nat.zero_le _) dX3_ahead_59 (fun H locs hP hD hS => ?_)
  refine W.eq (g2 := F0 m 62 ls []) rfl ?_
  refine lv_aload_n hx hb dX3_ahead_62 rfl (lv_at hl 0 rfl) ?_
  refine g3_trial S hK hP dX3_ahead_63 ?_
  refine lv_iload_n hx hb dX3_ahead_66 rfl (lv_at hl 3 rfl) ?_
  refine WR.callV (w1 := TW cI cJ t f (sGo f n u) h τ) S kv_X3_100 (c_X0_passDays l D cI cJ (sf t 12) f u n (hw) d (hd) (by omega) (hp) (hs)) hK hP hD hS hA (_) (_) TW_s2 TW_s2 PW_fst rfl ⟨Nat.le_of_ble_eq_true rfl, Nat.le_of_ble_eq_true rfl⟩ hl.1 rfl rfl (Nat.le_of_ble_eq_true rfl) (Nat.zero_le _) (Nat.zero_le _) dX3_ahead_67 (fun H locs hP hD hS => ?_)
  refine W.eq (g2 := F0 m 70 ls []) rfl ?_
  refine lv_iload_n hx hb dX3_ahead_70 rfl (lv_at hl 2 rfl) ?_
  refine lv_bipush (v := nI 7) hx hb dX3_ahead_71 (by decide) ?_
  refine q_icmp_neN (tgt := 87) (a := 2) (b := 7) hx hb dX3_ahead_73 (by decide) (by omega) (by omega) (fun _ => ?_) (fun h => absurd h (by omega))
  refine lv_aload_n hx hb dX3_ahead_87 rfl (lv_at hl 0 rfl) ?_
  refine g3_trial S hK hP dX3_ahead_88 ?_
  refine lv_iload_n hx hb dX3_ahead_91 rfl (lv_at hl 2 rfl) ?_
  refine RO.callV S kv_X3_76 (c_X0_marksOf_2 l D cI cJ (sf t 12) (sGo f n u)) hK (TW_trial hP) rfl ⟨Nat.le_of_ble_eq_true rfl, Nat.le_of_ble_eq_true rfl⟩ hl.1 rfl rfl (Nat.le_of_ble_eq_true rfl) (Nat.zero_le _) (Nat.zero_le _) dX3_ahead_92 ?_
  refine lv_iload_n hx hb dX3_ahead_95 rfl (lv_at hl 1 rfl) ?_
  refine l0_peal S hK (TW_trial hP) (j := k) (by omega) dX3_ahead_96 ?_
  exact WR.iret S hr hlk hP hS (rfl) rfl dX3_ahead_97
set_option maxRecDepth 100000 in
set_option maxHeartbeats 4000000 in
theorem c_X3_ahead_ok5 (l : Launch) (D : va_G) (cI cJ : ClassId) (t : Nat → Nat) (f g h : Nat → Int32) (τ : Nat → Nat → Int32) (k : Nat) (u : Nat) (n : Nat) (hw : Wk f n) (d : Nat) (hd : f 1 = nI d) (hp : Pk f n) (hs : Sk f) (hk : k < n) (ht : u ≤ 100) (hd2 : d + u ≤ 99999) : WR l yX3_ahead cX3_ahead 4 (some .int) 6 D cI cJ (TW cI cJ t f g h τ) [.ref (t 0), .int (nI k), .int (nI 5), .int (nI u)] (some (.int (fi (sGo f n u) k 5))) (TW cI cJ t f (sGo f n u) h τ) := by
  have h8 := hw.2.1
  refine WR.of (by decide) (Nat.le_of_ble_eq_true rfl) (fun p e s m below meth c ls A S hr hlk hK hP hD hS hA hl => ?_)
  obtain ⟨hx, hb, hml, hown, hU⟩ := id S
  have hl : lv_has ls 4 [(0, .ref (t 0)), (1, .int (nI k)), (2, .int (nI 5)), (3, .int (nI u))] := hl
  refine lv_aload_n hx hb dX3_ahead_0 rfl (lv_at hl 0 rfl) ?_
  refine lv_iload_n hx hb dX3_ahead_1 rfl (lv_at hl 1 rfl) ?_
  refine RO.callV S kv_X3_72 (c_X3_isCask l D cI cJ t f g h τ (nI k) n (hw)) hK hP rfl ⟨Nat.le_of_ble_eq_true rfl, Nat.le_of_ble_eq_true rfl⟩ hl.1 rfl rfl (Nat.le_of_ble_eq_true rfl) (Nat.zero_le _) (Nat.zero_le _) dX3_ahead_2 ?_
  refine q_if_eqB (tgt := 17) hx hb dX3_ahead_5 (by decide) (fun h => absurd (⟨nI_pos' (by omega), nI_lt (by omega) (by omega)⟩) h) (fun _ => ?_)
  refine lv_iload_n hx hb dX3_ahead_8 rfl (lv_at hl 3 rfl) ?_
  refine lv_bipush (v := nI 100) hx hb dX3_ahead_9 (by decide) ?_
  refine RO.callS S ks_X3_44 (c_X3_isWithin l D cI cJ t f g h τ (nI u) (nI 100)) hK hP ⟨Nat.le_of_ble_eq_true rfl, Nat.le_of_ble_eq_true rfl⟩ hl.1 rfl rfl (Nat.le_of_ble_eq_true rfl) (Nat.zero_le _) (Nat.zero_le _) dX3_ahead_11 ?_
  refine q_if_neB (tgt := 23) hx hb dX3_ahead_14 (by decide) (fun _ => ?_) (fun h => absurd (⟨nI_le (by omega) (by omega), nI_le (by omega) (by omega)⟩) h)
  refine lv_iload_n hx hb dX3_ahead_23 rfl (lv_at hl 2 rfl) ?_
  refine lv_iconst (v := nI 2) hx hb dX3_ahead_24 (by decide) ?_
  refine q_icmp_eqN (tgt := 51) (a := 5) (b := 2) hx hb dX3_ahead_25 (by decide) (by omega) (by omega) (fun h => absurd h (by omega)) (fun _ => ?_)
  refine lv_iload_n hx hb dX3_ahead_28 rfl (lv_at hl 2 rfl) ?_
  refine lv_iconst (v := nI 5) hx hb dX3_ahead_29 (by decide) ?_
  refine q_icmp_eqN (tgt := 51) (a := 5) (b := 5) hx hb dX3_ahead_30 (by decide) (by omega) (by omega) (fun _ => ?_) (fun h => absurd h (by omega))
  refine lv_aload_n hx hb dX3_ahead_51 rfl (lv_at hl 0 rfl) ?_
  refine g3_trial S hK hP dX3_ahead_52 ?_
  refine lv_aload_n hx hb dX3_ahead_55 rfl (lv_at hl 0 rfl) ?_
  refine g3_live S hK hP dX3_ahead_56 ?_
  refine WR.callVq 11 (w1 := TW cI cJ t f f h τ) S kv_X3_125 (c_X0_takeFrom_2_1 l D cI cJ (sf t 1) (sf t 12) (sf t 23) f g h) hK hP hD hS hA _ _ TW_s123 TW_s123 PW3_fst rfl ⟨Nat.le_of_ble_eq_true rfl, Nat.le_of_ble_eq_true rfl⟩ hl.1 rfl rfl (Nat.le_of_ble_eq_true rfl) (Nat.zero_le _) (Nat.zero_le _) dX3_ahead_59 (fun H locs hP hD hS => ?_)
  refine W.eq (g2 := F0 m 62 ls []) rfl ?_
  refine lv_aload_n hx hb dX3_ahead_62 rfl (lv_at hl 0 rfl) ?_
  refine g3_trial S hK hP dX3_ahead_63 ?_
  refine lv_iload_n hx hb dX3_ahead_66 rfl (lv_at hl 3 rfl) ?_
  refine WR.callV (w1 := TW cI cJ t f (sGo f n u) h τ) S kv_X3_100 (c_X0_passDays l D cI cJ (sf t 12) f u n (hw) d (hd) (by omega) (hp) (hs)) hK hP hD hS hA (_) (_) TW_s2 TW_s2 PW_fst rfl ⟨Nat.le_of_ble_eq_true rfl, Nat.le_of_ble_eq_true rfl⟩ hl.1 rfl rfl (Nat.le_of_ble_eq_true rfl) (Nat.zero_le _) (Nat.zero_le _) dX3_ahead_67 (fun H locs hP hD hS => ?_)
  refine W.eq (g2 := F0 m 70 ls []) rfl ?_
  refine lv_iload_n hx hb dX3_ahead_70 rfl (lv_at hl 2 rfl) ?_
  refine lv_bipush (v := nI 7) hx hb dX3_ahead_71 (by decide) ?_
  refine q_icmp_neN (tgt := 87) (a := 5) (b := 7) hx hb dX3_ahead_73 (by decide) (by omega) (by omega) (fun _ => ?_) (fun h => absurd h (by omega))
  refine lv_aload_n hx hb dX3_ahead_87 rfl (lv_at hl 0 rfl) ?_
  refine g3_trial S hK hP dX3_ahead_88 ?_
  refine lv_iload_n hx hb dX3_ahead_91 rfl (lv_at hl 2 rfl) ?_
  refine RO.callV S kv_X3_76 (c_X0_marksOf_5 l D cI cJ (sf t 12) (sGo f n u)) hK (TW_trial hP) rfl ⟨Nat.le_of_ble_eq_true rfl, Nat.le_of_ble_eq_true rfl⟩ hl.1 rfl rfl (Nat.le_of_ble_eq_true rfl) (Nat.zero_le _) (Nat.zero_le _) dX3_ahead_92 ?_
  refine lv_iload_n hx hb dX3_ahead_95 rfl (lv_at hl 1 rfl) ?_
  refine l0_age S hK (TW_trial hP) (j := k) (by omega) dX3_ahead_96 ?_
  exact WR.iret S hr hlk hP hS (rfl) rfl dX3_ahead_97
set_option maxRecDepth 100000 in
set_option maxHeartbeats 4000000 in
theorem c_X3_ahead_ok6 (l : Launch) (D : va_G) (cI cJ : ClassId) (t : Nat → Nat) (f g h : Nat → Int32) (τ : Nat → Nat → Int32) (k : Nat) (u : Nat) (n : Nat) (hw : Wk f n) (d : Nat) (hd : f 1 = nI d) (hp : Pk f n) (hs : Sk f) (hk : k < n) (ht : u ≤ 100) (hd2 : d + u ≤ 99999) : WR l yX3_ahead cX3_ahead 4 (some .int) 6 D cI cJ (TW cI cJ t f g h τ) [.ref (t 0), .int (nI k), .int (nI 6), .int (nI u)] (some (.int (fi (sGo f n u) k 6))) (TW cI cJ t f (sGo f n u) h τ) := by
  have h8 := hw.2.1
  refine WR.of (by decide) (Nat.le_of_ble_eq_true rfl) (fun p e s m below meth c ls A S hr hlk hK hP hD hS hA hl => ?_)
  obtain ⟨hx, hb, hml, hown, hU⟩ := id S
  have hl : lv_has ls 4 [(0, .ref (t 0)), (1, .int (nI k)), (2, .int (nI 6)), (3, .int (nI u))] := hl
  refine lv_aload_n hx hb dX3_ahead_0 rfl (lv_at hl 0 rfl) ?_
  refine lv_iload_n hx hb dX3_ahead_1 rfl (lv_at hl 1 rfl) ?_
  refine RO.callV S kv_X3_72 (c_X3_isCask l D cI cJ t f g h τ (nI k) n (hw)) hK hP rfl ⟨Nat.le_of_ble_eq_true rfl, Nat.le_of_ble_eq_true rfl⟩ hl.1 rfl rfl (Nat.le_of_ble_eq_true rfl) (Nat.zero_le _) (Nat.zero_le _) dX3_ahead_2 ?_
  refine q_if_eqB (tgt := 17) hx hb dX3_ahead_5 (by decide) (fun h => absurd (⟨nI_pos' (by omega), nI_lt (by omega) (by omega)⟩) h) (fun _ => ?_)
  refine lv_iload_n hx hb dX3_ahead_8 rfl (lv_at hl 3 rfl) ?_
  refine lv_bipush (v := nI 100) hx hb dX3_ahead_9 (by decide) ?_
  refine RO.callS S ks_X3_44 (c_X3_isWithin l D cI cJ t f g h τ (nI u) (nI 100)) hK hP ⟨Nat.le_of_ble_eq_true rfl, Nat.le_of_ble_eq_true rfl⟩ hl.1 rfl rfl (Nat.le_of_ble_eq_true rfl) (Nat.zero_le _) (Nat.zero_le _) dX3_ahead_11 ?_
  refine q_if_neB (tgt := 23) hx hb dX3_ahead_14 (by decide) (fun _ => ?_) (fun h => absurd (⟨nI_le (by omega) (by omega), nI_le (by omega) (by omega)⟩) h)
  refine lv_iload_n hx hb dX3_ahead_23 rfl (lv_at hl 2 rfl) ?_
  refine lv_iconst (v := nI 2) hx hb dX3_ahead_24 (by decide) ?_
  refine q_icmp_eqN (tgt := 51) (a := 6) (b := 2) hx hb dX3_ahead_25 (by decide) (by omega) (by omega) (fun h => absurd h (by omega)) (fun _ => ?_)
  refine lv_iload_n hx hb dX3_ahead_28 rfl (lv_at hl 2 rfl) ?_
  refine lv_iconst (v := nI 5) hx hb dX3_ahead_29 (by decide) ?_
  refine q_icmp_eqN (tgt := 51) (a := 6) (b := 5) hx hb dX3_ahead_30 (by decide) (by omega) (by omega) (fun h => absurd h (by omega)) (fun _ => ?_)
  refine lv_iload_n hx hb dX3_ahead_33 rfl (lv_at hl 2 rfl) ?_
  refine lv_bipush (v := nI 6) hx hb dX3_ahead_34 (by decide) ?_
  refine q_icmp_eqN (tgt := 51) (a := 6) (b := 6) hx hb dX3_ahead_36 (by decide) (by omega) (by omega) (fun _ => ?_) (fun h => absurd h (by omega))
  refine lv_aload_n hx hb dX3_ahead_51 rfl (lv_at hl 0 rfl) ?_
  refine g3_trial S hK hP dX3_ahead_52 ?_
  refine lv_aload_n hx hb dX3_ahead_55 rfl (lv_at hl 0 rfl) ?_
  refine g3_live S hK hP dX3_ahead_56 ?_
  refine WR.callVq 11 (w1 := TW cI cJ t f f h τ) S kv_X3_125 (c_X0_takeFrom_2_1 l D cI cJ (sf t 1) (sf t 12) (sf t 23) f g h) hK hP hD hS hA _ _ TW_s123 TW_s123 PW3_fst rfl ⟨Nat.le_of_ble_eq_true rfl, Nat.le_of_ble_eq_true rfl⟩ hl.1 rfl rfl (Nat.le_of_ble_eq_true rfl) (Nat.zero_le _) (Nat.zero_le _) dX3_ahead_59 (fun H locs hP hD hS => ?_)
  refine W.eq (g2 := F0 m 62 ls []) rfl ?_
  refine lv_aload_n hx hb dX3_ahead_62 rfl (lv_at hl 0 rfl) ?_
  refine g3_trial S hK hP dX3_ahead_63 ?_
  refine lv_iload_n hx hb dX3_ahead_66 rfl (lv_at hl 3 rfl) ?_
  refine WR.callV (w1 := TW cI cJ t f (sGo f n u) h τ) S kv_X3_100 (c_X0_passDays l D cI cJ (sf t 12) f u n (hw) d (hd) (by omega) (hp) (hs)) hK hP hD hS hA (_) (_) TW_s2 TW_s2 PW_fst rfl ⟨Nat.le_of_ble_eq_true rfl, Nat.le_of_ble_eq_true rfl⟩ hl.1 rfl rfl (Nat.le_of_ble_eq_true rfl) (Nat.zero_le _) (Nat.zero_le _) dX3_ahead_67 (fun H locs hP hD hS => ?_)
  refine W.eq (g2 := F0 m 70 ls []) rfl ?_
  refine lv_iload_n hx hb dX3_ahead_70 rfl (lv_at hl 2 rfl) ?_
  refine lv_bipush (v := nI 7) hx hb dX3_ahead_71 (by decide) ?_
  refine q_icmp_neN (tgt := 87) (a := 6) (b := 7) hx hb dX3_ahead_73 (by decide) (by omega) (by omega) (fun _ => ?_) (fun h => absurd h (by omega))
  refine lv_aload_n hx hb dX3_ahead_87 rfl (lv_at hl 0 rfl) ?_
  refine g3_trial S hK hP dX3_ahead_88 ?_
  refine lv_iload_n hx hb dX3_ahead_91 rfl (lv_at hl 2 rfl) ?_
  refine RO.callV S kv_X3_76 (c_X0_marksOf_6 l D cI cJ (sf t 12) (sGo f n u)) hK (TW_trial hP) rfl ⟨Nat.le_of_ble_eq_true rfl, Nat.le_of_ble_eq_true rfl⟩ hl.1 rfl rfl (Nat.le_of_ble_eq_true rfl) (Nat.zero_le _) (Nat.zero_le _) dX3_ahead_92 ?_
  refine lv_iload_n hx hb dX3_ahead_95 rfl (lv_at hl 1 rfl) ?_
  refine l0_burst S hK (TW_trial hP) (j := k) (by omega) dX3_ahead_96 ?_
  exact WR.iret S hr hlk hP hS (rfl) rfl dX3_ahead_97
set_option maxRecDepth 100000 in
set_option maxHeartbeats 4000000 in
theorem c_X3_ahead_ok7 (l : Launch) (D : va_G) (cI cJ : ClassId) (t : Nat → Nat) (f g h : Nat → Int32) (τ : Nat → Nat → Int32) (k : Nat) (u : Nat) (n : Nat) (hw : Wk f n) (d : Nat) (hd : f 1 = nI d) (hp : Pk f n) (hs : Sk f) (hk : k < n) (ht : u ≤ 100) (hd2 : d + u ≤ 99999) : WR l yX3_ahead cX3_ahead 4 (some .int) 6 D cI cJ (TW cI cJ t f g h τ) [.ref (t 0), .int (nI k), .int (nI 7), .int (nI u)] (some (.int (sLd (sGo f n u) n k))) (TW cI cJ t f (sGo f n u) h τ) := by
  have h8 := hw.2.1
  refine WR.of (by decide) (Nat.le_of_ble_eq_true rfl) (fun p e s m below meth c ls A S hr hlk hK hP hD hS hA hl => ?_)
  obtain ⟨hx, hb, hml, hown, hU⟩ := id S
  have hl : lv_has ls 4 [(0, .ref (t 0)), (1, .int (nI k)), (2, .int (nI 7)), (3, .int (nI u))] := hl
  refine lv_aload_n hx hb dX3_ahead_0 rfl (lv_at hl 0 rfl) ?_
  refine lv_iload_n hx hb dX3_ahead_1 rfl (lv_at hl 1 rfl) ?_
  refine RO.callV S kv_X3_72 (c_X3_isCask l D cI cJ t f g h τ (nI k) n (hw)) hK hP rfl ⟨Nat.le_of_ble_eq_true rfl, Nat.le_of_ble_eq_true rfl⟩ hl.1 rfl rfl (Nat.le_of_ble_eq_true rfl) (Nat.zero_le _) (Nat.zero_le _) dX3_ahead_2 ?_
  refine q_if_eqB (tgt := 17) hx hb dX3_ahead_5 (by decide) (fun h => absurd (⟨nI_pos' (by omega), nI_lt (by omega) (by omega)⟩) h) (fun _ => ?_)
  refine lv_iload_n hx hb dX3_ahead_8 rfl (lv_at hl 3 rfl) ?_
  refine lv_bipush (v := nI 100) hx hb dX3_ahead_9 (by decide) ?_
  refine RO.callS S ks_X3_44 (c_X3_isWithin l D cI cJ t f g h τ (nI u) (nI 100)) hK hP ⟨Nat.le_of_ble_eq_true rfl, Nat.le_of_ble_eq_true rfl⟩ hl.1 rfl rfl (Nat.le_of_ble_eq_true rfl) (Nat.zero_le _) (Nat.zero_le _) dX3_ahead_11 ?_
  refine q_if_neB (tgt := 23) hx hb dX3_ahead_14 (by decide) (fun _ => ?_) (fun h => absurd (⟨nI_le (by omega) (by omega), nI_le (by omega) (by omega)⟩) h)
  refine lv_iload_n hx hb dX3_ahead_23 rfl (lv_at hl 2 rfl) ?_
  refine lv_iconst (v := nI 2) hx hb dX3_ahead_24 (by decide) ?_
  refine q_icmp_eqN (tgt := 51) (a := 7) (b := 2) hx hb dX3_ahead_25 (by decide) (by omega) (by omega) (fun h => absurd h (by omega)) (fun _ => ?_)
  refine lv_iload_n hx hb dX3_ahead_28 rfl (lv_at hl 2 rfl) ?_
  refine lv_iconst (v := nI 5) hx hb dX3_ahead_29 (by decide) ?_
  refine q_icmp_eqN (tgt := 51) (a := 7) (b := 5) hx hb dX3_ahead_30 (by decide) (by omega) (by omega) (fun h => absurd h (by omega)) (fun _ => ?_)
  refine lv_iload_n hx hb dX3_ahead_33 rfl (lv_at hl 2 rfl) ?_
  refine lv_bipush (v := nI 6) hx hb dX3_ahead_34 (by decide) ?_
  refine q_icmp_eqN (tgt := 51) (a := 7) (b := 6) hx hb dX3_ahead_36 (by decide) (by omega) (by omega) (fun h => absurd h (by omega)) (fun _ => ?_)
  refine lv_iload_n hx hb dX3_ahead_39 rfl (lv_at hl 2 rfl) ?_
  refine lv_bipush (v := nI 7) hx hb dX3_ahead_40 (by decide) ?_
  refine q_icmp_eqN (tgt := 51) (a := 7) (b := 7) hx hb dX3_ahead_42 (by decide) (by omega) (by omega) (fun _ => ?_) (fun h => absurd h (by omega))
  refine lv_aload_n hx hb dX3_ahead_51 rfl (lv_at hl 0 rfl) ?_
  refine g3_trial S hK hP dX3_ahead_52 ?_
  refine lv_aload_n hx hb dX3_ahead_55 rfl (lv_at hl 0 rfl) ?_
  refine g3_live S hK hP dX3_ahead_56 ?_
  refine WR.callVq 11 (w1 := TW cI cJ t f f h τ) S kv_X3_125 (c_X0_takeFrom_2_1 l D cI cJ (sf t 1) (sf t 12) (sf t 23) f g h) hK hP hD hS hA _ _ TW_s123 TW_s123 PW3_fst rfl ⟨Nat.le_of_ble_eq_true rfl, Nat.le_of_ble_eq_true rfl⟩ hl.1 rfl rfl (Nat.le_of_ble_eq_true rfl) (Nat.zero_le _) (Nat.zero_le _) dX3_ahead_59 (fun H locs hP hD hS => ?_)
  refine W.eq (g2 := F0 m 62 ls []) rfl ?_
  refine lv_aload_n hx hb dX3_ahead_62 rfl (lv_at hl 0 rfl) ?_
  refine g3_trial S hK hP dX3_ahead_63 ?_
  refine lv_iload_n hx hb dX3_ahead_66 rfl (lv_at hl 3 rfl) ?_
  refine WR.callV (w1 := TW cI cJ t f (sGo f n u) h τ) S kv_X3_100 (c_X0_passDays l D cI cJ (sf t 12) f u n (hw) d (hd) (by omega) (hp) (hs)) hK hP hD hS hA (_) (_) TW_s2 TW_s2 PW_fst rfl ⟨Nat.le_of_ble_eq_true rfl, Nat.le_of_ble_eq_true rfl⟩ hl.1 rfl rfl (Nat.le_of_ble_eq_true rfl) (Nat.zero_le _) (Nat.zero_le _) dX3_ahead_67 (fun H locs hP hD hS => ?_)
  refine W.eq (g2 := F0 m 70 ls []) rfl ?_
  refine lv_iload_n hx hb dX3_ahead_70 rfl (lv_at hl 2 rfl) ?_
  refine lv_bipush (v := nI 7) hx hb dX3_ahead_71 (by decide) ?_
  refine q_icmp_neN (tgt := 87) (a := 7) (b := 7) hx hb dX3_ahead_73 (by decide) (by omega) (by omega) (fun h => absurd h (by omega)) (fun _ => ?_)
  refine lv_aload_n hx hb dX3_ahead_76 rfl (lv_at hl 0 rfl) ?_
  refine g3_trial S hK hP dX3_ahead_77 ?_
  refine lv_iload_n hx hb dX3_ahead_80 rfl (lv_at hl 1 rfl) ?_
  refine RO.callV S kv_X3_80 (c_X0_loudOf l D cI cJ (sf t 12) (sGo f n u) k n ((hw).kl (sGo_kl h8)) (by omega)) hK (TW_trial hP) rfl ⟨Nat.le_of_ble_eq_true rfl, Nat.le_of_ble_eq_true rfl⟩ hl.1 rfl rfl (Nat.le_of_ble_eq_true rfl) (Nat.zero_le _) (Nat.zero_le _) dX3_ahead_81 ?_
  refine lv_goto (tgt := 97) hx hb dX3_ahead_84 (by decide) ?_
  exact WR.iret S hr hlk hP hS (rfl) rfl dX3_ahead_97
set_option maxRecDepth 100000 in
set_option maxHeartbeats 4000000 in
theorem c_X3_ahead_bad (l : Launch) (D : va_G) (cI cJ : ClassId) (t : Nat → Nat) (f g h : Nat → Int32) (τ : Nat → Nat → Int32) (x : Int32) (y : Int32) (z : Int32) (n : Nat) (hw : Wk f n) (hb0 : ¬ ((0 ≤ x ∧ x < nI n) ∧ (y = nI 2 ∨ (nI 5 ≤ y ∧ y ≤ nI 7)) ∧ (nI 0 ≤ z ∧ z ≤ nI 100))) : WR l yX3_ahead cX3_ahead 4 (some .int) 6 D cI cJ (TW cI cJ t f g h τ) [.ref (t 0), .int x, .int y, .int z] (some (.int (-1000001))) (TW cI cJ t f g h (va_up τ 9 (cFi (τ 9) 0))) := by
  refine WR.of (by decide) (Nat.le_of_ble_eq_true rfl) (fun p e s m below meth c ls A S hr hlk hK hP hD hS hA hl => ?_)
  obtain ⟨hx, hb, hml, hown, hU⟩ := id S
  have hl : lv_has ls 4 [(0, .ref (t 0)), (1, .int x), (2, .int y), (3, .int z)] := hl
  refine lv_aload_n hx hb dX3_ahead_0 rfl (lv_at hl 0 rfl) ?_
  refine lv_iload_n hx hb dX3_ahead_1 rfl (lv_at hl 1 rfl) ?_
  refine RO.callV S kv_X3_72 (c_X3_isCask l D cI cJ t f g h τ x n (hw)) hK hP rfl ⟨Nat.le_of_ble_eq_true rfl, Nat.le_of_ble_eq_true rfl⟩ hl.1 rfl rfl (Nat.le_of_ble_eq_true rfl) (Nat.zero_le _) (Nat.zero_le _) dX3_ahead_2 ?_
  refine q_if_eqB (tgt := 17) hx hb dX3_ahead_5 (by decide) (fun c_5 => ?_) (fun c_5 => ?_)
  · refine lv_aload_n hx hb dX3_ahead_17 rfl (lv_at hl 0 rfl) ?_
    refine lv_iconst (v := nI 0) hx hb dX3_ahead_18 (by decide) ?_
    refine WR.callV (w1 := TW cI cJ t f g h (va_up τ 9 (cFi (τ 9) 0))) S kv_X3_48 (c_X3_fd0 l D cI cJ t f g h τ) hK hP hD hS hA ([]) ([]) (List.append_nil _).symm (List.append_nil _).symm TW_fst rfl ⟨Nat.le_of_ble_eq_true rfl, Nat.le_of_ble_eq_true rfl⟩ hl.1 rfl rfl (Nat.le_of_ble_eq_true rfl) (Nat.zero_le _) (Nat.zero_le _) dX3_ahead_19 (fun H locs hP hD hS => ?_)
    exact WR.iret S hr hlk hP hS (rfl) rfl dX3_ahead_22
  · refine lv_iload_n hx hb dX3_ahead_8 rfl (lv_at hl 3 rfl) ?_
    refine lv_bipush (v := nI 100) hx hb dX3_ahead_9 (by decide) ?_
    refine RO.callS S ks_X3_44 (c_X3_isWithin l D cI cJ t f g h τ z (nI 100)) hK hP ⟨Nat.le_of_ble_eq_true rfl, Nat.le_of_ble_eq_true rfl⟩ hl.1 rfl rfl (Nat.le_of_ble_eq_true rfl) (Nat.zero_le _) (Nat.zero_le _) dX3_ahead_11 ?_
    refine q_if_neB (tgt := 23) hx hb dX3_ahead_14 (by decide) (fun c_14 => ?_) (fun c_14 => ?_)
    · refine lv_iload_n hx hb dX3_ahead_23 rfl (lv_at hl 2 rfl) ?_
      refine lv_iconst (v := nI 2) hx hb dX3_ahead_24 (by decide) ?_
      refine lv_icmp_eq (tgt := 51) hx hb dX3_ahead_25 (by decide) (fun c_25 => ?_) (fun c_25 => ?_)
      · exact absurd (⟨c_5, Or.inl c_25, c_14⟩) hb0
      · refine lv_iload_n hx hb dX3_ahead_28 rfl (lv_at hl 2 rfl) ?_
        refine lv_iconst (v := nI 5) hx hb dX3_ahead_29 (by decide) ?_
        refine lv_icmp_eq (tgt := 51) hx hb dX3_ahead_30 (by decide) (fun c_30 => ?_) (fun c_30 => ?_)
        · exact absurd (⟨c_5, Or.inr (by rw [c_30]; decide), c_14⟩) hb0
        · refine lv_iload_n hx hb dX3_ahead_33 rfl (lv_at hl 2 rfl) ?_
          refine lv_bipush (v := nI 6) hx hb dX3_ahead_34 (by decide) ?_
          refine lv_icmp_eq (tgt := 51) hx hb dX3_ahead_36 (by decide) (fun c_36 => ?_) (fun c_36 => ?_)
          · exact absurd (⟨c_5, Or.inr (by rw [c_36]; decide), c_14⟩) hb0
          · refine lv_iload_n hx hb dX3_ahead_39 rfl (lv_at hl 2 rfl) ?_
            refine lv_bipush (v := nI 7) hx hb dX3_ahead_40 (by decide) ?_
            refine lv_icmp_eq (tgt := 51) hx hb dX3_ahead_42 (by decide) (fun c_42 => ?_) (fun c_42 => ?_)
            · exact absurd (⟨c_5, Or.inr (by rw [c_42]; decide), c_14⟩) hb0
            · refine lv_aload_n hx hb dX3_ahead_45 rfl (lv_at hl 0 rfl) ?_
              refine lv_iconst (v := nI 0) hx hb dX3_ahead_46 (by decide) ?_
              refine WR.callV (w1 := TW cI cJ t f g h (va_up τ 9 (cFi (τ 9) 0))) S kv_X3_48 (c_X3_fd0 l D cI cJ t f g h τ) hK hP hD hS hA ([]) ([]) (List.append_nil _).symm (List.append_nil _).symm TW_fst rfl ⟨Nat.le_of_ble_eq_true rfl, Nat.le_of_ble_eq_true rfl⟩ hl.1 rfl rfl (Nat.le_of_ble_eq_true rfl) (Nat.zero_le _) (Nat.zero_le _) dX3_ahead_47 (fun H locs hP hD hS => ?_)
              exact WR.iret S hr hlk hP hS (rfl) rfl dX3_ahead_50
    · refine lv_aload_n hx hb dX3_ahead_17 rfl (lv_at hl 0 rfl) ?_
      refine lv_iconst (v := nI 0) hx hb dX3_ahead_18 (by decide) ?_
      refine WR.callV (w1 := TW cI cJ t f g h (va_up τ 9 (cFi (τ 9) 0))) S kv_X3_48 (c_X3_fd0 l D cI cJ t f g h τ) hK hP hD hS hA ([]) ([]) (List.append_nil _).symm (List.append_nil _).symm TW_fst rfl ⟨Nat.le_of_ble_eq_true rfl, Nat.le_of_ble_eq_true rfl⟩ hl.1 rfl rfl (Nat.le_of_ble_eq_true rfl) (Nat.zero_le _) (Nat.zero_le _) dX3_ahead_19 (fun H locs hP hD hS => ?_)
      exact WR.iret S hr hlk hP hS (rfl) rfl dX3_ahead_22
set_option maxRecDepth 100000 in
set_option maxHeartbeats 4000000 in
theorem c_X3_claps_ok (l : Launch) (D : va_G) (cI cJ : ClassId) (t : Nat → Nat) (f g h : Nat → Int32) (τ : Nat → Nat → Int32) (u : Nat) (n : Nat) (hw : Wk f n) (d : Nat) (hd : f 1 = nI d) (hp : Pk f n) (hs : Sk f) (ht : u ≤ 100) (hd2 : d + u ≤ 99999) : WR l yX3_claps cX3_claps 2 (some .int) 6 D cI cJ (TW cI cJ t f g h τ) [.ref (t 0), .int (nI u)] (some (.int (sGo f n u 3))) (TW cI cJ t f (sGo f n u) h τ) := by
  have h8 := hw.2.1
  refine WR.of (by decide) (Nat.le_of_ble_eq_true rfl) (fun p e s m below meth c ls A S hr hlk hK hP hD hS hA hl => ?_)
  obtain ⟨hx, hb, hml, hown, hU⟩ := id S
  have hl : lv_has ls 2 [(0, .ref (t 0)), (1, .int (nI u))] := hl
  refine lv_iload_n hx hb dX3_claps_0 rfl (lv_at hl 1 rfl) ?_
  refine lv_bipush (v := nI 100) hx hb dX3_claps_1 (by decide) ?_
  refine RO.callS S ks_X3_44 (c_X3_isWithin l D cI cJ t f g h τ (nI u) (nI 100)) hK hP ⟨Nat.le_of_ble_eq_true rfl, Nat.le_of_ble_eq_true rfl⟩ hl.1 rfl rfl (Nat.le_of_ble_eq_true rfl) (Nat.zero_le _) (Nat.zero_le _) dX3_claps_3 ?_
  refine q_if_neB (tgt := 15) hx hb dX3_claps_6 (by decide) (fun _ => ?_) (fun h => absurd (⟨nI_le (by omega) (by omega), nI_le (by omega) (by omega)⟩) h)
  refine lv_aload_n hx hb dX3_claps_15 rfl (lv_at hl 0 rfl) ?_
  refine g3_trial S hK hP dX3_claps_16 ?_
  refine lv_aload_n hx hb dX3_claps_19 rfl (lv_at hl 0 rfl) ?_
  refine g3_live S hK hP dX3_claps_20 ?_
  refine WR.callVq 11 (w1 := TW cI cJ t f f h τ) S kv_X3_125 (c_X0_takeFrom_2_1 l D cI cJ (sf t 1) (sf t 12) (sf t 23) f g h) hK hP hD hS hA _ _ TW_s123 TW_s123 PW3_fst rfl ⟨Nat.le_of_ble_eq_true rfl, Nat.le_of_ble_eq_true rfl⟩ hl.1 rfl rfl (Nat.le_of_ble_eq_true rfl) (Nat.zero_le _) (Nat.zero_le _) dX3_claps_23 (fun H locs hP hD hS => ?_)
  refine W.eq (g2 := F0 m 26 ls []) rfl ?_
  refine lv_aload_n hx hb dX3_claps_26 rfl (lv_at hl 0 rfl) ?_
  refine g3_trial S hK hP dX3_claps_27 ?_
  refine lv_iload_n hx hb dX3_claps_30 rfl (lv_at hl 1 rfl) ?_
  refine WR.callV (w1 := TW cI cJ t f (sGo f n u) h τ) S kv_X3_100 (c_X0_passDays l D cI cJ (sf t 12) f u n (hw) d (hd) (by omega) (hp) (hs)) hK hP hD hS hA (_) (_) TW_s2 TW_s2 PW_fst rfl ⟨Nat.le_of_ble_eq_true rfl, Nat.le_of_ble_eq_true rfl⟩ hl.1 rfl rfl (Nat.le_of_ble_eq_true rfl) (Nat.zero_le _) (Nat.zero_le _) dX3_claps_31 (fun H locs hP hD hS => ?_)
  refine W.eq (g2 := F0 m 34 ls []) rfl ?_
  refine lv_aload_n hx hb dX3_claps_34 rfl (lv_at hl 0 rfl) ?_
  refine g3_trial S hK hP dX3_claps_35 ?_
  refine g30_claps S hK (TW_trial hP) dX3_claps_38 ?_
  exact WR.iret S hr hlk hP hS (rfl) rfl dX3_claps_41
set_option maxRecDepth 100000 in
set_option maxHeartbeats 4000000 in
theorem c_X3_claps_bad (l : Launch) (D : va_G) (cI cJ : ClassId) (t : Nat → Nat) (f g h : Nat → Int32) (τ : Nat → Nat → Int32) (x : Int32) (hb0 : ¬ ((nI 0 ≤ x ∧ x ≤ nI 100))) : WR l yX3_claps cX3_claps 2 (some .int) 6 D cI cJ (TW cI cJ t f g h τ) [.ref (t 0), .int x] (some (.int (-1000001))) (TW cI cJ t f g h (va_up τ 9 (cFi (τ 9) 0))) := by
  refine WR.of (by decide) (Nat.le_of_ble_eq_true rfl) (fun p e s m below meth c ls A S hr hlk hK hP hD hS hA hl => ?_)
  obtain ⟨hx, hb, hml, hown, hU⟩ := id S
  have hl : lv_has ls 2 [(0, .ref (t 0)), (1, .int x)] := hl
  refine lv_iload_n hx hb dX3_claps_0 rfl (lv_at hl 1 rfl) ?_
  refine lv_bipush (v := nI 100) hx hb dX3_claps_1 (by decide) ?_
  refine RO.callS S ks_X3_44 (c_X3_isWithin l D cI cJ t f g h τ x (nI 100)) hK hP ⟨Nat.le_of_ble_eq_true rfl, Nat.le_of_ble_eq_true rfl⟩ hl.1 rfl rfl (Nat.le_of_ble_eq_true rfl) (Nat.zero_le _) (Nat.zero_le _) dX3_claps_3 ?_
  refine q_if_neB (tgt := 15) hx hb dX3_claps_6 (by decide) (fun c_6 => ?_) (fun c_6 => ?_)
  · exact absurd (c_6) hb0
  · refine lv_aload_n hx hb dX3_claps_9 rfl (lv_at hl 0 rfl) ?_
    refine lv_iconst (v := nI 0) hx hb dX3_claps_10 (by decide) ?_
    refine WR.callV (w1 := TW cI cJ t f g h (va_up τ 9 (cFi (τ 9) 0))) S kv_X3_48 (c_X3_fd0 l D cI cJ t f g h τ) hK hP hD hS hA ([]) ([]) (List.append_nil _).symm (List.append_nil _).symm TW_fst rfl ⟨Nat.le_of_ble_eq_true rfl, Nat.le_of_ble_eq_true rfl⟩ hl.1 rfl rfl (Nat.le_of_ble_eq_true rfl) (Nat.zero_le _) (Nat.zero_le _) dX3_claps_11 (fun H locs hP hD hS => ?_)
    exact WR.iret S hr hlk hP hS (rfl) rfl dX3_claps_14
set_option maxRecDepth 100000 in
set_option maxHeartbeats 4000000 in
theorem c_X3_bursts_ok (l : Launch) (D : va_G) (cI cJ : ClassId) (t : Nat → Nat) (f g h : Nat → Int32) (τ : Nat → Nat → Int32) (k : Nat) (n : Nat) (hw : Wk f n) (d : Nat) (hd : f 1 = nI d) (hp : Pk f n) (hs : Sk f) (hb9 : Bk f n) (hk : k < n) (hd2 : d + 101 ≤ 99999) : WE l yX3_bursts cX3_bursts 3 (some .int) 6 D cI cJ (TW cI cJ t f g h τ) [.ref (t 0), .int (nI k)] (some (.int (aN (oBu f n k)))) (fun g9 => TW cI cJ t f g9 h (tgN τ (oBu f n k))) := by
  have h8 := hw.2.1
  refine WE.of (by decide) (Nat.le_of_ble_eq_true rfl) (fun p e s m below meth c ls A S hr hlk hK hP hD hS hA hl => ?_)
  obtain ⟨hx, hb, hml, hown, hU⟩ := id S
  have hl : lv_has ls 3 [(0, .ref (t 0)), (1, .int (nI k))] := hl
  refine lv_aload_n hx hb dX3_bursts_0 rfl (lv_at hl 0 rfl) ?_
  refine lv_iload_n hx hb dX3_bursts_1 rfl (lv_at hl 1 rfl) ?_
  refine RO.callV S kv_X3_72 (c_X3_isCask l D cI cJ t f g h τ (nI k) n (hw)) hK hP rfl ⟨Nat.le_of_ble_eq_true rfl, Nat.le_of_ble_eq_true rfl⟩ hl.1 rfl rfl (Nat.le_of_ble_eq_true rfl) (Nat.zero_le _) (Nat.zero_le _) dX3_bursts_2 ?_
  refine q_if_neB (tgt := 14) hx hb dX3_bursts_5 (by decide) (fun _ => ?_) (fun h => absurd (⟨nI_pos' (by omega), nI_lt (by omega) (by omega)⟩) h)
  refine lv_aload_n hx hb dX3_bursts_14 rfl (lv_at hl 0 rfl) ?_
  refine g3_trial S hK hP dX3_bursts_15 ?_
  refine lv_aload_n hx hb dX3_bursts_18 rfl (lv_at hl 0 rfl) ?_
  refine g3_live S hK hP dX3_bursts_19 ?_
  refine WR.callVq 11 (w1 := TW cI cJ t f f h τ) S kv_X3_125 (c_X0_takeFrom_2_1 l D cI cJ (sf t 1) (sf t 12) (sf t 23) f g h) hK hP hD hS hA _ _ TW_s123 TW_s123 PW3_fst rfl ⟨Nat.le_of_ble_eq_true rfl, Nat.le_of_ble_eq_true rfl⟩ hl.1 rfl rfl (Nat.le_of_ble_eq_true rfl) (Nat.zero_le _) (Nat.zero_le _) dX3_bursts_22 (fun H locs hP hD hS => ?_)
  refine W.eq (g2 := F0 m 25 ls []) rfl ?_
  refine lv_iconst (v := nI 1) hx hb dX3_bursts_25 (by decide) ?_
  refine lv_istore_n (lv' := [(2, .int (nI 1)), (0, .ref (t 0)), (1, .int (nI k))]) hx hb dX3_bursts_26 rfl hl (by decide) rfl (fun ls hl => ?_)
  have L_27 : ∀ (n9 : Nat) (i : Nat) (H : Heap) (locs : List Loc) (ls : Array Slot), 101 - i < n9 → (i ≤ 100) → (fst1 (fun t => decide (¬ fi (sGo f n t) k 6 = fi f k 6)) (100 - i) (i + 1) = oBu f n k) → va_P D vwCl (TW cI cJ t f (sGo f n i) h τ) H → va_D A (TW cI cJ t f (sGo f n i) h τ) → va_S A s.heap H locs → lv_has ls 3 [(0, .ref (t 0)), (1, .int (nI k)), (2, .int (nI (i + 1)))] → W p l e (rmd 6) s m ([.ref (t 0), .int (nI k)] : List Value).toArray below meth c H locs 0 0 (ZE below ([.ref (t 0), .int (nI k)] : List Value).toArray s D (some (.int (aN (oBu f n k)))) (fun g9 => TW cI cJ t f g9 h (tgN τ (oBu f n k))) A) (F0 m 27 ls []) := by
    intro n9
    induction n9 with
    | zero => intro i H locs ls hmeas; exact absurd hmeas (Nat.not_lt_zero _)
    | succ n9 ih_27 =>
      intro i H locs ls hmeas hi hR hP hD hS hl
      refine lv_iload_n hx hb dX3_bursts_27 rfl (lv_at hl 2 rfl) ?_
      refine lv_bipush (v := nI 100) hx hb dX3_bursts_28 (by decide) ?_
      refine q_icmp_gtN (tgt := 70) (a := i + 1) (b := 100) hx hb dX3_bursts_30 (by decide) (by omega) (by omega) (fun c_30 => ?_) (fun c_30 => ?_)
      · have hE : oBu f n k = none := by rw [← hR, show 100 - i = 0 by omega]; rfl
        refine lv_aload_n hx hb dX3_bursts_70 rfl (lv_at hl 0 rfl) ?_
        refine lv_iconst (v := nI 3) hx hb dX3_bursts_71 (by decide) ?_
        refine WR.callV (w1 := TW cI cJ t f (sGo f n i) h (va_up τ 9 (cFi (τ 9) 3))) S kv_X3_48 (c_X3_fd3 l D cI cJ t f (sGo f n i) h τ) hK hP hD hS hA ([]) ([]) (List.append_nil _).symm (List.append_nil _).symm TW_fst rfl ⟨Nat.le_of_ble_eq_true rfl, Nat.le_of_ble_eq_true rfl⟩ hl.1 rfl rfl (Nat.le_of_ble_eq_true rfl) (Nat.zero_le _) (Nat.zero_le _) dX3_bursts_72 (fun H locs hP hD hS => ?_)
        exact WE.iret S hr hlk hP hS (g := sGo f n i) (by rw [hE]; rfl) (congrArg (fun z => some (Value.int z)) (by rw [hE]; rfl)) dX3_bursts_75
      · refine lv_aload_n hx hb dX3_bursts_33 rfl (lv_at hl 0 rfl) ?_
        refine g3_trial S hK hP dX3_bursts_34 ?_
        refine lv_iconst (v := nI 1) hx hb dX3_bursts_37 (by decide) ?_
        refine WR.callV (w1 := TW cI cJ t f (sGo (sGo f n i) n 1) h τ) S kv_X3_100 (c_X0_passDays l D cI cJ (sf t 12) (sGo f n i) 1 n ((hw).kl (sGo_kl h8)) (d + i) (sGo_1 h8 hd) (by omega) (Pk.go h8 hp hs hd (by omega)) (hs.kl (sGo_kl h8))) hK hP hD hS hA (_) (_) TW_s2 TW_s2 PW_fst rfl ⟨Nat.le_of_ble_eq_true rfl, Nat.le_of_ble_eq_true rfl⟩ hl.1 rfl rfl (Nat.le_of_ble_eq_true rfl) (Nat.zero_le _) (Nat.zero_le _) dX3_bursts_38 (fun H locs hP hD hS => ?_)
        refine W.eq (g2 := F0 m 41 ls []) rfl ?_
        have hP : va_P D vwCl (TW cI cJ t f (sGo f n (i + 1)) h τ) H := hP
        have hD : va_D A (TW cI cJ t f (sGo f n (i + 1)) h τ) := hD
        refine lv_aload_n hx hb dX3_bursts_41 rfl (lv_at hl 0 rfl) ?_
        refine g3_trial S hK hP dX3_bursts_42 ?_
        refine g30_burst S hK (TW_trial hP) dX3_bursts_45 ?_
        refine lv_iload_n hx hb dX3_bursts_48 rfl (lv_at hl 1 rfl) ?_
        refine l0_burst S hK (TW_trial hP) (j := k) (by omega) dX3_bursts_49 ?_
        refine lv_aload_n hx hb dX3_bursts_50 rfl (lv_at hl 0 rfl) ?_
        refine g3_live S hK hP dX3_bursts_51 ?_
        refine g30_burst S hK (TW_live hP) dX3_bursts_54 ?_
        refine lv_iload_n hx hb dX3_bursts_57 rfl (lv_at hl 1 rfl) ?_
        refine l0_burst S hK (TW_live hP) (j := k) (by omega) dX3_bursts_58 ?_
        refine lv_icmp_le (tgt := 64) hx hb dX3_bursts_59 (by decide) (fun c_59 => ?_) (fun c_59 => ?_)
        · refine lv_iinc (v := nI (i + 1 + 1)) (lv' := [(2, .int (nI (i + 1 + 1))), (0, .ref (t 0)), (1, .int (nI k))]) hx hb dX3_bursts_64 hl (k := 2) rfl (q_inc _) (by decide) rfl (fun ls hl => ?_)
          refine lv_goto (tgt := 27) hx hb dX3_bursts_67 (by decide) ?_
          exact ih_27 (i + 1) _ _ ls (by omega) (by omega) (by rw [← hR, show 100 - i = (100 - (i + 1)) + 1 by omega, fst1_go (by simpa using (Mo.eq6 (Mo.go hb9) hk).mp c_59)]) hP hD hS (lv_sub hl [1, 2, 0] rfl)
        · have hE : oBu f n k = some (i + 1) := by rw [← hR, show 100 - i = (100 - (i + 1)) + 1 by omega, fst1_hit (by simpa using fun q => c_59 ((Mo.eq6 (Mo.go hb9) hk).mpr q))]
          refine lv_iload_n hx hb dX3_bursts_62 rfl (lv_at hl 2 rfl) ?_
          exact WE.iret S hr hlk hP hS (g := sGo f n (i + 1)) (by rw [hE]; rfl) (congrArg (fun z => some (Value.int z)) (by rw [hE]; rfl)) dX3_bursts_63
  exact L_27 ((101 - 0) + 1) 0 _ _ ls (Nat.lt_succ_self _) (by omega) ((fst1_go (p := fun t => decide (¬ fi (sGo f n t) k 6 = fi f k 6)) (m := 100) (t := 0) (by simp [sGo])).symm) hP hD hS (lv_sub hl [1, 2, 0] rfl)
set_option maxRecDepth 100000 in
set_option maxHeartbeats 4000000 in
theorem c_X3_bursts_bad (l : Launch) (D : va_G) (cI cJ : ClassId) (t : Nat → Nat) (f g h : Nat → Int32) (τ : Nat → Nat → Int32) (x : Int32) (n : Nat) (hw : Wk f n) (hb0 : ¬ ((0 ≤ x ∧ x < nI n))) : WR l yX3_bursts cX3_bursts 3 (some .int) 6 D cI cJ (TW cI cJ t f g h τ) [.ref (t 0), .int x] (some (.int (-1000001))) (TW cI cJ t f g h (va_up τ 9 (cFi (τ 9) 0))) := by
  refine WR.of (by decide) (Nat.le_of_ble_eq_true rfl) (fun p e s m below meth c ls A S hr hlk hK hP hD hS hA hl => ?_)
  obtain ⟨hx, hb, hml, hown, hU⟩ := id S
  have hl : lv_has ls 3 [(0, .ref (t 0)), (1, .int x)] := hl
  refine lv_aload_n hx hb dX3_bursts_0 rfl (lv_at hl 0 rfl) ?_
  refine lv_iload_n hx hb dX3_bursts_1 rfl (lv_at hl 1 rfl) ?_
  refine RO.callV S kv_X3_72 (c_X3_isCask l D cI cJ t f g h τ x n (hw)) hK hP rfl ⟨Nat.le_of_ble_eq_true rfl, Nat.le_of_ble_eq_true rfl⟩ hl.1 rfl rfl (Nat.le_of_ble_eq_true rfl) (Nat.zero_le _) (Nat.zero_le _) dX3_bursts_2 ?_
  refine q_if_neB (tgt := 14) hx hb dX3_bursts_5 (by decide) (fun c_5 => ?_) (fun c_5 => ?_)
  · exact absurd (c_5) hb0
  · refine lv_aload_n hx hb dX3_bursts_8 rfl (lv_at hl 0 rfl) ?_
    refine lv_iconst (v := nI 0) hx hb dX3_bursts_9 (by decide) ?_
    refine WR.callV (w1 := TW cI cJ t f g h (va_up τ 9 (cFi (τ 9) 0))) S kv_X3_48 (c_X3_fd0 l D cI cJ t f g h τ) hK hP hD hS hA ([]) ([]) (List.append_nil _).symm (List.append_nil _).symm TW_fst rfl ⟨Nat.le_of_ble_eq_true rfl, Nat.le_of_ble_eq_true rfl⟩ hl.1 rfl rfl (Nat.le_of_ble_eq_true rfl) (Nat.zero_le _) (Nat.zero_le _) dX3_bursts_10 (fun H locs hP hD hS => ?_)
    exact WR.iret S hr hlk hP hS (rfl) rfl dX3_bursts_13
set_option maxRecDepth 100000 in
set_option maxHeartbeats 4000000 in
theorem c_X3_when_ok (l : Launch) (D : va_G) (cI cJ : ClassId) (t : Nat → Nat) (f g h : Nat → Int32) (τ : Nat → Nat → Int32) (k : Nat) (v : Nat) (n : Nat) (hw : Wk f n) (d : Nat) (hd : f 1 = nI d) (hp : Pk f n) (hs : Sk f) (hk : k < n) (hv : v ≤ 2000) (hd2 : d + 101 ≤ 99999) : WE l yX3_when cX3_when 4 (some .int) 6 D cI cJ (TW cI cJ t f g h τ) [.ref (t 0), .int (nI k), .int (nI v)] (some (.int (aN (oWh f n k (nI v))))) (fun g9 => TW cI cJ t f g9 h (tgN τ (oWh f n k (nI v)))) := by
  have h8 := hw.2.1
  refine WE.of (by decide) (Nat.le_of_ble_eq_true rfl) (fun p e s m below meth c ls A S hr hlk hK hP hD hS hA hl => ?_)
  obtain ⟨hx, hb, hml, hown, hU⟩ := id S
  have hl : lv_has ls 4 [(0, .ref (t 0)), (1, .int (nI k)), (2, .int (nI v))] := hl
  refine lv_aload_n hx hb dX3_when_0 rfl (lv_at hl 0 rfl) ?_
  refine lv_iload_n hx hb dX3_when_1 rfl (lv_at hl 1 rfl) ?_
  refine RO.callV S kv_X3_72 (c_X3_isCask l D cI cJ t f g h τ (nI k) n (hw)) hK hP rfl ⟨Nat.le_of_ble_eq_true rfl, Nat.le_of_ble_eq_true rfl⟩ hl.1 rfl rfl (Nat.le_of_ble_eq_true rfl) (Nat.zero_le _) (Nat.zero_le _) dX3_when_2 ?_
  refine q_if_eqB (tgt := 18) hx hb dX3_when_5 (by decide) (fun h => absurd (⟨nI_pos' (by omega), nI_lt (by omega) (by omega)⟩) h) (fun _ => ?_)
  refine lv_iload_n hx hb dX3_when_8 rfl (lv_at hl 2 rfl) ?_
  refine lv_sipush (v := nI 2000) hx hb dX3_when_9 (by decide) ?_
  refine RO.callS S ks_X3_44 (c_X3_isWithin l D cI cJ t f g h τ (nI v) (nI 2000)) hK hP ⟨Nat.le_of_ble_eq_true rfl, Nat.le_of_ble_eq_true rfl⟩ hl.1 rfl rfl (Nat.le_of_ble_eq_true rfl) (Nat.zero_le _) (Nat.zero_le _) dX3_when_12 ?_
  refine q_if_neB (tgt := 24) hx hb dX3_when_15 (by decide) (fun _ => ?_) (fun h => absurd (⟨nI_le (by omega) (by omega), nI_le (by omega) (by omega)⟩) h)
  refine lv_aload_n hx hb dX3_when_24 rfl (lv_at hl 0 rfl) ?_
  refine g3_trial S hK hP dX3_when_25 ?_
  refine lv_aload_n hx hb dX3_when_28 rfl (lv_at hl 0 rfl) ?_
  refine g3_live S hK hP dX3_when_29 ?_
  refine WR.callVq 11 (w1 := TW cI cJ t f f h τ) S kv_X3_125 (c_X0_takeFrom_2_1 l D cI cJ (sf t 1) (sf t 12) (sf t 23) f g h) hK hP hD hS hA _ _ TW_s123 TW_s123 PW3_fst rfl ⟨Nat.le_of_ble_eq_true rfl, Nat.le_of_ble_eq_true rfl⟩ hl.1 rfl rfl (Nat.le_of_ble_eq_true rfl) (Nat.zero_le _) (Nat.zero_le _) dX3_when_32 (fun H locs hP hD hS => ?_)
  refine W.eq (g2 := F0 m 35 ls []) rfl ?_
  refine lv_iconst (v := nI 0) hx hb dX3_when_35 (by decide) ?_
  refine lv_istore_n (lv' := [(3, .int (nI 0)), (0, .ref (t 0)), (1, .int (nI k)), (2, .int (nI v))]) hx hb dX3_when_36 rfl hl (by decide) rfl (fun ls hl => ?_)
  have L_37 : ∀ (n9 : Nat) (i : Nat) (H : Heap) (locs : List Loc) (ls : Array Slot), 101 - i < n9 → (i ≤ 101) → (fst1 (fun t => decide (nI v ≤ sLd (sGo f n t) n k)) (101 - i) i = oWh f n k (nI v)) → va_P D vwCl (TW cI cJ t f (sGo f n i) h τ) H → va_D A (TW cI cJ t f (sGo f n i) h τ) → va_S A s.heap H locs → lv_has ls 4 [(0, .ref (t 0)), (1, .int (nI k)), (2, .int (nI v)), (3, .int (nI i))] → W p l e (rmd 6) s m ([.ref (t 0), .int (nI k), .int (nI v)] : List Value).toArray below meth c H locs 0 0 (ZE below ([.ref (t 0), .int (nI k), .int (nI v)] : List Value).toArray s D (some (.int (aN (oWh f n k (nI v))))) (fun g9 => TW cI cJ t f g9 h (tgN τ (oWh f n k (nI v)))) A) (F0 m 37 ls []) := by
    intro n9
    induction n9 with
    | zero => intro i H locs ls hmeas; exact absurd hmeas (Nat.not_lt_zero _)
    | succ n9 ih_37 =>
      intro i H locs ls hmeas hi hR hP hD hS hl
      refine lv_iload_n hx hb dX3_when_37 rfl (lv_at hl 3 rfl) ?_
      refine lv_bipush (v := nI 100) hx hb dX3_when_38 (by decide) ?_
      refine q_icmp_gtN (tgt := 71) (a := i) (b := 100) hx hb dX3_when_40 (by decide) (by omega) (by omega) (fun c_40 => ?_) (fun c_40 => ?_)
      · have hE : oWh f n k (nI v) = none := by rw [← hR, show 101 - i = 0 by omega]; rfl
        refine lv_aload_n hx hb dX3_when_71 rfl (lv_at hl 0 rfl) ?_
        refine lv_iconst (v := nI 3) hx hb dX3_when_72 (by decide) ?_
        refine WR.callV (w1 := TW cI cJ t f (sGo f n i) h (va_up τ 9 (cFi (τ 9) 3))) S kv_X3_48 (c_X3_fd3 l D cI cJ t f (sGo f n i) h τ) hK hP hD hS hA ([]) ([]) (List.append_nil _).symm (List.append_nil _).symm TW_fst rfl ⟨Nat.le_of_ble_eq_true rfl, Nat.le_of_ble_eq_true rfl⟩ hl.1 rfl rfl (Nat.le_of_ble_eq_true rfl) (Nat.zero_le _) (Nat.zero_le _) dX3_when_73 (fun H locs hP hD hS => ?_)
        exact WE.iret S hr hlk hP hS (g := sGo f n i) (by rw [hE]; rfl) (congrArg (fun z => some (Value.int z)) (by rw [hE]; rfl)) dX3_when_76
      · refine lv_aload_n hx hb dX3_when_43 rfl (lv_at hl 0 rfl) ?_
        refine g3_trial S hK hP dX3_when_44 ?_
        refine lv_iload_n hx hb dX3_when_47 rfl (lv_at hl 1 rfl) ?_
        refine RO.callV S kv_X3_80 (c_X0_loudOf l D cI cJ (sf t 12) (sGo f n i) k n ((hw).kl (sGo_kl h8)) (by omega)) hK (TW_trial hP) rfl ⟨Nat.le_of_ble_eq_true rfl, Nat.le_of_ble_eq_true rfl⟩ hl.1 rfl rfl (Nat.le_of_ble_eq_true rfl) (Nat.zero_le _) (Nat.zero_le _) dX3_when_48 ?_
        refine lv_iload_n hx hb dX3_when_51 rfl (lv_at hl 2 rfl) ?_
        refine lv_icmp_lt (tgt := 57) hx hb dX3_when_52 (by decide) (fun c_52 => ?_) (fun c_52 => ?_)
        · refine lv_aload_n hx hb dX3_when_57 rfl (lv_at hl 0 rfl) ?_
          refine g3_trial S hK hP dX3_when_58 ?_
          refine lv_iconst (v := nI 1) hx hb dX3_when_61 (by decide) ?_
          refine WR.callV (w1 := TW cI cJ t f (sGo (sGo f n i) n 1) h τ) S kv_X3_100 (c_X0_passDays l D cI cJ (sf t 12) (sGo f n i) 1 n ((hw).kl (sGo_kl h8)) (d + i) (sGo_1 h8 hd) (by omega) (Pk.go h8 hp hs hd (by omega)) (hs.kl (sGo_kl h8))) hK hP hD hS hA (_) (_) TW_s2 TW_s2 PW_fst rfl ⟨Nat.le_of_ble_eq_true rfl, Nat.le_of_ble_eq_true rfl⟩ hl.1 rfl rfl (Nat.le_of_ble_eq_true rfl) (Nat.zero_le _) (Nat.zero_le _) dX3_when_62 (fun H locs hP hD hS => ?_)
          refine W.eq (g2 := F0 m 65 ls []) rfl ?_
          have hP : va_P D vwCl (TW cI cJ t f (sGo f n (i + 1)) h τ) H := hP
          have hD : va_D A (TW cI cJ t f (sGo f n (i + 1)) h τ) := hD
          refine lv_iinc (v := nI (i + 1)) (lv' := [(3, .int (nI (i + 1))), (0, .ref (t 0)), (1, .int (nI k)), (2, .int (nI v))]) hx hb dX3_when_65 hl (k := 3) rfl (q_inc _) (by decide) rfl (fun ls hl => ?_)
          refine lv_goto (tgt := 37) hx hb dX3_when_68 (by decide) ?_
          exact ih_37 (i + 1) _ _ ls (by omega) (by omega) (by rw [← hR, show 101 - i = (101 - (i + 1)) + 1 by omega, fst1_go (by simpa using c_52)]) hP hD hS (lv_sub hl [1, 2, 3, 0] rfl)
        · have hE : oWh f n k (nI v) = some i := by rw [← hR, show 101 - i = (101 - (i + 1)) + 1 by omega, fst1_hit (by simpa using i32_le_of_not_lt c_52)]
          refine lv_iload_n hx hb dX3_when_55 rfl (lv_at hl 3 rfl) ?_
          exact WE.iret S hr hlk hP hS (g := sGo f n i) (by rw [hE]; rfl) (congrArg (fun z => some (Value.int z)) (by rw [hE]; rfl)) dX3_when_56
  exact L_37 ((101 - 0) + 1) 0 _ _ ls (Nat.lt_succ_self _) (by omega) (rfl) hP hD hS (lv_sub hl [1, 2, 3, 0] rfl)
set_option maxRecDepth 100000 in
set_option maxHeartbeats 4000000 in
theorem c_X3_when_bad (l : Launch) (D : va_G) (cI cJ : ClassId) (t : Nat → Nat) (f g h : Nat → Int32) (τ : Nat → Nat → Int32) (x : Int32) (y : Int32) (n : Nat) (hw : Wk f n) (hb0 : ¬ ((0 ≤ x ∧ x < nI n) ∧ (nI 0 ≤ y ∧ y ≤ nI 2000))) : WR l yX3_when cX3_when 4 (some .int) 6 D cI cJ (TW cI cJ t f g h τ) [.ref (t 0), .int x, .int y] (some (.int (-1000001))) (TW cI cJ t f g h (va_up τ 9 (cFi (τ 9) 0))) := by
  refine WR.of (by decide) (Nat.le_of_ble_eq_true rfl) (fun p e s m below meth c ls A S hr hlk hK hP hD hS hA hl => ?_)
  obtain ⟨hx, hb, hml, hown, hU⟩ := id S
  have hl : lv_has ls 4 [(0, .ref (t 0)), (1, .int x), (2, .int y)] := hl
  refine lv_aload_n hx hb dX3_when_0 rfl (lv_at hl 0 rfl) ?_
  refine lv_iload_n hx hb dX3_when_1 rfl (lv_at hl 1 rfl) ?_
  refine RO.callV S kv_X3_72 (c_X3_isCask l D cI cJ t f g h τ x n (hw)) hK hP rfl ⟨Nat.le_of_ble_eq_true rfl, Nat.le_of_ble_eq_true rfl⟩ hl.1 rfl rfl (Nat.le_of_ble_eq_true rfl) (Nat.zero_le _) (Nat.zero_le _) dX3_when_2 ?_
  refine q_if_eqB (tgt := 18) hx hb dX3_when_5 (by decide) (fun c_5 => ?_) (fun c_5 => ?_)
  · refine lv_aload_n hx hb dX3_when_18 rfl (lv_at hl 0 rfl) ?_
    refine lv_iconst (v := nI 0) hx hb dX3_when_19 (by decide) ?_
    refine WR.callV (w1 := TW cI cJ t f g h (va_up τ 9 (cFi (τ 9) 0))) S kv_X3_48 (c_X3_fd0 l D cI cJ t f g h τ) hK hP hD hS hA ([]) ([]) (List.append_nil _).symm (List.append_nil _).symm TW_fst rfl ⟨Nat.le_of_ble_eq_true rfl, Nat.le_of_ble_eq_true rfl⟩ hl.1 rfl rfl (Nat.le_of_ble_eq_true rfl) (Nat.zero_le _) (Nat.zero_le _) dX3_when_20 (fun H locs hP hD hS => ?_)
    exact WR.iret S hr hlk hP hS (rfl) rfl dX3_when_23
  · refine lv_iload_n hx hb dX3_when_8 rfl (lv_at hl 2 rfl) ?_
    refine lv_sipush (v := nI 2000) hx hb dX3_when_9 (by decide) ?_
    refine RO.callS S ks_X3_44 (c_X3_isWithin l D cI cJ t f g h τ y (nI 2000)) hK hP ⟨Nat.le_of_ble_eq_true rfl, Nat.le_of_ble_eq_true rfl⟩ hl.1 rfl rfl (Nat.le_of_ble_eq_true rfl) (Nat.zero_le _) (Nat.zero_le _) dX3_when_12 ?_
    refine q_if_neB (tgt := 24) hx hb dX3_when_15 (by decide) (fun c_15 => ?_) (fun c_15 => ?_)
    · exact absurd (⟨c_5, c_15⟩) hb0
    · refine lv_aload_n hx hb dX3_when_18 rfl (lv_at hl 0 rfl) ?_
      refine lv_iconst (v := nI 0) hx hb dX3_when_19 (by decide) ?_
      refine WR.callV (w1 := TW cI cJ t f g h (va_up τ 9 (cFi (τ 9) 0))) S kv_X3_48 (c_X3_fd0 l D cI cJ t f g h τ) hK hP hD hS hA ([]) ([]) (List.append_nil _).symm (List.append_nil _).symm TW_fst rfl ⟨Nat.le_of_ble_eq_true rfl, Nat.le_of_ble_eq_true rfl⟩ hl.1 rfl rfl (Nat.le_of_ble_eq_true rfl) (Nat.zero_le _) (Nat.zero_le _) dX3_when_20 (fun H locs hP hD hS => ?_)
      exact WR.iret S hr hlk hP hS (rfl) rfl dX3_when_23
set_option maxRecDepth 100000 in
set_option maxHeartbeats 4000000 in
theorem c_X3_chain_ok (l : Launch) (D : va_G) (cI cJ : ClassId) (t : Nat → Nat) (f g h : Nat → Int32) (τ : Nat → Nat → Int32) (u : Nat) (n : Nat) (hw : Wk f n) (d : Nat) (hd : f 1 = nI d) (hp : Pk f n) (hs : Sk f) (ht : u ≤ 60) (hd2 : d + 60 ≤ 99999) : WR l yX3_chain cX3_chain 4 (some .int) 6 D cI cJ (TW cI cJ t f g h τ) [.ref (t 0), .int (nI u)] (some (.int (nI (sCh f (sGo f n u) n)))) (TW cI cJ t f (sGo f n u) h τ) := by
  have h8 := hw.2.1
  refine WR.of (by decide) (Nat.le_of_ble_eq_true rfl) (fun p e s m below meth c ls A S hr hlk hK hP hD hS hA hl => ?_)
  obtain ⟨hx, hb, hml, hown, hU⟩ := id S
  have hl : lv_has ls 4 [(0, .ref (t 0)), (1, .int (nI u))] := hl
  refine lv_iload_n hx hb dX3_chain_0 rfl (lv_at hl 1 rfl) ?_
  refine lv_bipush (v := nI 60) hx hb dX3_chain_1 (by decide) ?_
  refine RO.callS S ks_X3_44 (c_X3_isWithin l D cI cJ t f g h τ (nI u) (nI 60)) hK hP ⟨Nat.le_of_ble_eq_true rfl, Nat.le_of_ble_eq_true rfl⟩ hl.1 rfl rfl (Nat.le_of_ble_eq_true rfl) (Nat.zero_le _) (Nat.zero_le _) dX3_chain_3 ?_
  refine q_if_neB (tgt := 15) hx hb dX3_chain_6 (by decide) (fun _ => ?_) (fun h => absurd (⟨nI_le (by omega) (by omega), nI_le (by omega) (by omega)⟩) h)
  refine lv_aload_n hx hb dX3_chain_15 rfl (lv_at hl 0 rfl) ?_
  refine g3_trial S hK hP dX3_chain_16 ?_
  refine lv_aload_n hx hb dX3_chain_19 rfl (lv_at hl 0 rfl) ?_
  refine g3_live S hK hP dX3_chain_20 ?_
  refine WR.callVq 11 (w1 := TW cI cJ t f f h τ) S kv_X3_125 (c_X0_takeFrom_2_1 l D cI cJ (sf t 1) (sf t 12) (sf t 23) f g h) hK hP hD hS hA _ _ TW_s123 TW_s123 PW3_fst rfl ⟨Nat.le_of_ble_eq_true rfl, Nat.le_of_ble_eq_true rfl⟩ hl.1 rfl rfl (Nat.le_of_ble_eq_true rfl) (Nat.zero_le _) (Nat.zero_le _) dX3_chain_23 (fun H locs hP hD hS => ?_)
  refine W.eq (g2 := F0 m 26 ls []) rfl ?_
  refine lv_aload_n hx hb dX3_chain_26 rfl (lv_at hl 0 rfl) ?_
  refine g3_trial S hK hP dX3_chain_27 ?_
  refine lv_iload_n hx hb dX3_chain_30 rfl (lv_at hl 1 rfl) ?_
  refine WR.callV (w1 := TW cI cJ t f (sGo f n u) h τ) S kv_X3_100 (c_X0_passDays l D cI cJ (sf t 12) f u n (hw) d (hd) (by omega) (hp) (hs)) hK hP hD hS hA (_) (_) TW_s2 TW_s2 PW_fst rfl ⟨Nat.le_of_ble_eq_true rfl, Nat.le_of_ble_eq_true rfl⟩ hl.1 rfl rfl (Nat.le_of_ble_eq_true rfl) (Nat.zero_le _) (Nat.zero_le _) dX3_chain_31 (fun H locs hP hD hS => ?_)
  refine W.eq (g2 := F0 m 34 ls []) rfl ?_
  refine lv_iconst (v := nI 0) hx hb dX3_chain_34 (by decide) ?_
  refine lv_istore_n (lv' := [(2, .int (nI 0)), (0, .ref (t 0)), (1, .int (nI u))]) hx hb dX3_chain_35 rfl hl (by decide) rfl (fun ls hl => ?_)
  refine lv_iconst (v := nI 0) hx hb dX3_chain_36 (by decide) ?_
  refine lv_istore_n (lv' := [(3, .int (nI 0)), (2, .int (nI 0)), (0, .ref (t 0)), (1, .int (nI u))]) hx hb dX3_chain_37 rfl hl (by decide) rfl (fun ls hl => ?_)
  have L_38 : ∀ (n9 : Nat) (j : Nat) (H : Heap) (locs : List Loc) (ls : Array Slot), n - j < n9 → (j ≤ n) → va_P D vwCl (TW cI cJ t f (sGo f n u) h τ) H → va_D A (TW cI cJ t f (sGo f n u) h τ) → va_S A s.heap H locs → lv_has ls 4 [(0, .ref (t 0)), (1, .int (nI u)), (2, .int (nI (sCh f (sGo f n u) j))), (3, .int (nI j))] → W p l e (rmd 6) s m ([.ref (t 0), .int (nI u)] : List Value).toArray below meth c H locs 0 0 (ZW below ([.ref (t 0), .int (nI u)] : List Value).toArray s D (some (.int (nI (sCh f (sGo f n u) n)))) (TW cI cJ t f (sGo f n u) h τ) A) (F0 m 38 ls []) := by
    intro n9
    induction n9 with
    | zero => intro j H locs ls hmeas; exact absurd hmeas (Nat.not_lt_zero _)
    | succ n9 ih_38 =>
      intro j H locs ls hmeas hj hP hD hS hl
      have lt := sCh_lt (f := f) (g := sGo f n u) (j := j) (by omega)
      have l31 : sCh f (sGo f n u) j < 2147483648 := Nat.lt_of_lt_of_le lt (Nat.le_trans (Nat.pow_le_pow_right (n := 2) (by decide) (show j ≤ 8 by omega)) (by decide))
      have p31 : 2 ^ j < 2147483648 := Nat.lt_of_le_of_lt (Nat.pow_le_pow_right (n := 2) (by decide) (show j ≤ 8 by omega)) (by decide)
      refine lv_iload_n hx hb dX3_chain_38 rfl (lv_at hl 3 rfl) ?_
      refine lv_aload_n hx hb dX3_chain_39 rfl (lv_at hl 0 rfl) ?_
      refine g3_live S hK hP dX3_chain_40 ?_
      refine g30_casks S hK (TW_live hP) dX3_chain_43 ?_
      refine q_eqi (y := nI n) (hw.1) ?_
      refine q_icmp_geN (tgt := 82) (a := j) (b := n) hx hb dX3_chain_46 (by decide) (by omega) (by omega) (fun c_46 => ?_) (fun c_46 => ?_)
      · refine lv_iload_n hx hb dX3_chain_82 rfl (lv_at hl 2 rfl) ?_
        exact WR.iret S hr hlk hP hS (rfl) (congrArg (fun z => some (Value.int z)) (by rw [show j = n by omega])) dX3_chain_83
      · refine lv_aload_n hx hb dX3_chain_49 rfl (lv_at hl 0 rfl) ?_
        refine g3_trial S hK hP dX3_chain_50 ?_
        refine g30_burst S hK (TW_trial hP) dX3_chain_53 ?_
        refine lv_iload_n hx hb dX3_chain_56 rfl (lv_at hl 3 rfl) ?_
        refine l0_burst S hK (TW_trial hP) (j := j) (by omega) dX3_chain_57 ?_
        refine lv_aload_n hx hb dX3_chain_58 rfl (lv_at hl 0 rfl) ?_
        refine g3_live S hK hP dX3_chain_59 ?_
        refine g30_burst S hK (TW_live hP) dX3_chain_62 ?_
        refine lv_iload_n hx hb dX3_chain_65 rfl (lv_at hl 3 rfl) ?_
        refine l0_burst S hK (TW_live hP) (j := j) (by omega) dX3_chain_66 ?_
        refine lv_icmp_le (tgt := 76) hx hb dX3_chain_67 (by decide) (fun c_67 => ?_) (fun c_67 => ?_)
        · refine lv_iinc (v := nI (j + 1)) (lv' := [(3, .int (nI (j + 1))), (0, .ref (t 0)), (1, .int (nI u)), (2, .int (nI (sCh f (sGo f n u) j)))]) hx hb dX3_chain_76 hl (k := 3) rfl (q_inc _) (by decide) rfl (fun ls hl => ?_)
          refine lv_goto (tgt := 38) hx hb dX3_chain_79 (by decide) ?_
          exact ih_38 (j + 1) _ _ ls (by omega) (by omega) hP hD hS (by rw [show nI (sCh f (sGo f n u) (j + 1)) = nI (sCh f (sGo f n u) j) from by rw [sCh, if_neg (i32_not_lt_of_le c_67)]]; exact lv_sub hl [1, 2, 3, 0] rfl)
        · refine lv_iload_n hx hb dX3_chain_70 rfl (lv_at hl 2 rfl) ?_
          refine lv_iconst (v := nI 1) hx hb dX3_chain_71 (by decide) ?_
          refine lv_iload_n hx hb dX3_chain_72 rfl (lv_at hl 3 rfl) ?_
          refine lv_ishl hx hb dX3_chain_73 ?_
          refine q_eqi (y := nI (2 ^ j)) (nI_shl1 _ (by omega)) ?_
          refine lv_ior hx hb dX3_chain_74 ?_
          refine q_eqi (y := nI (sCh f (sGo f n u) j ||| 2 ^ j)) (nI_or l31 p31) ?_
          refine lv_istore_n (lv' := [(2, .int (nI (sCh f (sGo f n u) j ||| 2 ^ j))), (0, .ref (t 0)), (1, .int (nI u)), (3, .int (nI j))]) hx hb dX3_chain_75 rfl hl (by decide) rfl (fun ls hl => ?_)
          refine lv_iinc (v := nI (j + 1)) (lv' := [(3, .int (nI (j + 1))), (2, .int (nI (sCh f (sGo f n u) j ||| 2 ^ j))), (0, .ref (t 0)), (1, .int (nI u))]) hx hb dX3_chain_76 hl (k := 3) rfl (q_inc _) (by decide) rfl (fun ls hl => ?_)
          refine lv_goto (tgt := 38) hx hb dX3_chain_79 (by decide) ?_
          exact ih_38 (j + 1) _ _ ls (by omega) (by omega) hP hD hS (by rw [show nI (sCh f (sGo f n u) (j + 1)) = nI (sCh f (sGo f n u) j ||| 2 ^ j) from by rw [sCh, if_pos (i32_lt_of_not_le c_67)]]; exact lv_sub hl [2, 3, 1, 0] rfl)
  exact L_38 ((n - 0) + 1) 0 _ _ ls (Nat.lt_succ_self _) (Nat.zero_le n) hP hD hS (lv_sub hl [2, 3, 1, 0] rfl)
set_option maxRecDepth 100000 in
set_option maxHeartbeats 4000000 in
theorem c_X3_chain_bad (l : Launch) (D : va_G) (cI cJ : ClassId) (t : Nat → Nat) (f g h : Nat → Int32) (τ : Nat → Nat → Int32) (x : Int32) (hb0 : ¬ ((nI 0 ≤ x ∧ x ≤ nI 60))) : WR l yX3_chain cX3_chain 4 (some .int) 6 D cI cJ (TW cI cJ t f g h τ) [.ref (t 0), .int x] (some (.int (-1000001))) (TW cI cJ t f g h (va_up τ 9 (cFi (τ 9) 0))) := by
  refine WR.of (by decide) (Nat.le_of_ble_eq_true rfl) (fun p e s m below meth c ls A S hr hlk hK hP hD hS hA hl => ?_)
  obtain ⟨hx, hb, hml, hown, hU⟩ := id S
  have hl : lv_has ls 4 [(0, .ref (t 0)), (1, .int x)] := hl
  refine lv_iload_n hx hb dX3_chain_0 rfl (lv_at hl 1 rfl) ?_
  refine lv_bipush (v := nI 60) hx hb dX3_chain_1 (by decide) ?_
  refine RO.callS S ks_X3_44 (c_X3_isWithin l D cI cJ t f g h τ x (nI 60)) hK hP ⟨Nat.le_of_ble_eq_true rfl, Nat.le_of_ble_eq_true rfl⟩ hl.1 rfl rfl (Nat.le_of_ble_eq_true rfl) (Nat.zero_le _) (Nat.zero_le _) dX3_chain_3 ?_
  refine q_if_neB (tgt := 15) hx hb dX3_chain_6 (by decide) (fun c_6 => ?_) (fun c_6 => ?_)
  · exact absurd (c_6) hb0
  · refine lv_aload_n hx hb dX3_chain_9 rfl (lv_at hl 0 rfl) ?_
    refine lv_iconst (v := nI 0) hx hb dX3_chain_10 (by decide) ?_
    refine WR.callV (w1 := TW cI cJ t f g h (va_up τ 9 (cFi (τ 9) 0))) S kv_X3_48 (c_X3_fd0 l D cI cJ t f g h τ) hK hP hD hS hA ([]) ([]) (List.append_nil _).symm (List.append_nil _).symm TW_fst rfl ⟨Nat.le_of_ble_eq_true rfl, Nat.le_of_ble_eq_true rfl⟩ hl.1 rfl rfl (Nat.le_of_ble_eq_true rfl) (Nat.zero_le _) (Nat.zero_le _) dX3_chain_11 (fun H locs hP hD hS => ?_)
    exact WR.iret S hr hlk hP hS (rfl) rfl dX3_chain_14
set_option maxRecDepth 100000 in
set_option maxHeartbeats 4000000 in
theorem c_X3_staysWhole (l : Launch) (D : va_G) (cI cJ : ClassId) (t : Nat → Nat) (f g h : Nat → Int32) (τ : Nat → Nat → Int32) (k : Nat) (u : Nat) (n : Nat) (hwg : Wk g n) (d : Nat) (hd : g 1 = nI d) (hp : Pk g n) (hs : Sk g) (hb9 : Bk g n) (hk : k < n) (he : fi g k 6 = fi f k 6) (hd2 : d + u ≤ 99999) : WE l yX3_staysWhole cX3_staysWhole 4 (some .boolean) 6 D cI cJ (TW cI cJ t f g h τ) [.ref (t 0), .int (nI k), .int (nI u)] (some (.int (bI (fi (sGo g n u) k 6 = fi f k 6)))) (fun g9 => TW cI cJ t f g9 h τ) := by
  have h8 := hwg.2.1
  refine WE.of (by decide) (Nat.le_of_ble_eq_true rfl) (fun p e s m below meth c ls A S hr hlk hK hP hD hS hA hl => ?_)
  obtain ⟨hx, hb, hml, hown, hU⟩ := id S
  have hl : lv_has ls 4 [(0, .ref (t 0)), (1, .int (nI k)), (2, .int (nI u))] := hl
  refine lv_iconst (v := nI 0) hx hb dX3_staysWhole_0 (by decide) ?_
  refine lv_istore_n (lv' := [(3, .int (nI 0)), (0, .ref (t 0)), (1, .int (nI k)), (2, .int (nI u))]) hx hb dX3_staysWhole_1 rfl hl (by decide) rfl (fun ls hl => ?_)
  have L_2 : ∀ (n9 : Nat) (j : Nat) (H : Heap) (locs : List Loc) (ls : Array Slot), u - j < n9 → (j ≤ u) → (fi (sGo g n j) k 6 = fi f k 6) → va_P D vwCl (TW cI cJ t f (sGo g n j) h τ) H → va_D A (TW cI cJ t f (sGo g n j) h τ) → va_S A s.heap H locs → lv_has ls 4 [(0, .ref (t 0)), (1, .int (nI k)), (2, .int (nI u)), (3, .int (nI j))] → W p l e (rmd 6) s m ([.ref (t 0), .int (nI k), .int (nI u)] : List Value).toArray below meth c H locs 0 0 (ZE below ([.ref (t 0), .int (nI k), .int (nI u)] : List Value).toArray s D (some (.int (bI (fi (sGo g n u) k 6 = fi f k 6)))) (fun g9 => TW cI cJ t f g9 h τ) A) (F0 m 2 ls []) := by
    intro n9
    induction n9 with
    | zero => intro j H locs ls hmeas; exact absurd hmeas (Nat.not_lt_zero _)
    | succ n9 ih_2 =>
      intro j H locs ls hmeas hj hJ hP hD hS hl
      refine lv_iload_n hx hb dX3_staysWhole_2 rfl (lv_at hl 3 rfl) ?_
      refine lv_iload_n hx hb dX3_staysWhole_3 rfl (lv_at hl 2 rfl) ?_
      refine q_icmp_geN (tgt := 44) (a := j) (b := u) hx hb dX3_staysWhole_4 (by decide) (by omega) (by omega) (fun c_4 => ?_) (fun c_4 => ?_)
      · refine lv_iconst (v := nI 1) hx hb dX3_staysWhole_44 (by decide) ?_
        exact WE.zret S hr hlk hP hS (g := sGo g n j) (rfl) (bI_t (by rw [← show j = u by omega]; exact hJ)) dX3_staysWhole_45
      · refine lv_aload_n hx hb dX3_staysWhole_7 rfl (lv_at hl 0 rfl) ?_
        refine g3_trial S hK hP dX3_staysWhole_8 ?_
        refine lv_iconst (v := nI 1) hx hb dX3_staysWhole_11 (by decide) ?_
        refine WR.callV (w1 := TW cI cJ t f (sGo (sGo g n j) n 1) h τ) S kv_X3_100 (c_X0_passDays l D cI cJ (sf t 12) (sGo g n j) 1 n ((hwg).kl (sGo_kl h8)) (d + j) (sGo_1 h8 hd) (by omega) (Pk.go h8 hp hs hd (by omega)) (hs.kl (sGo_kl h8))) hK hP hD hS hA (_) (_) TW_s2 TW_s2 PW_fst rfl ⟨Nat.le_of_ble_eq_true rfl, Nat.le_of_ble_eq_true rfl⟩ hl.1 rfl rfl (Nat.le_of_ble_eq_true rfl) (Nat.zero_le _) (Nat.zero_le _) dX3_staysWhole_12 (fun H locs hP hD hS => ?_)
        refine W.eq (g2 := F0 m 15 ls []) rfl ?_
        have hP : va_P D vwCl (TW cI cJ t f (sGo g n (j + 1)) h τ) H := hP
        have hD : va_D A (TW cI cJ t f (sGo g n (j + 1)) h τ) := hD
        refine lv_aload_n hx hb dX3_staysWhole_15 rfl (lv_at hl 0 rfl) ?_
        refine g3_trial S hK hP dX3_staysWhole_16 ?_
        refine g30_burst S hK (TW_trial hP) dX3_staysWhole_19 ?_
        refine lv_iload_n hx hb dX3_staysWhole_22 rfl (lv_at hl 1 rfl) ?_
        refine l0_burst S hK (TW_trial hP) (j := k) (by omega) dX3_staysWhole_23 ?_
        refine lv_aload_n hx hb dX3_staysWhole_24 rfl (lv_at hl 0 rfl) ?_
        refine g3_live S hK hP dX3_staysWhole_25 ?_
        refine g30_burst S hK (TW_live hP) dX3_staysWhole_28 ?_
        refine lv_iload_n hx hb dX3_staysWhole_31 rfl (lv_at hl 1 rfl) ?_
        refine l0_burst S hK (TW_live hP) (j := k) (by omega) dX3_staysWhole_32 ?_
        refine lv_icmp_eq (tgt := 38) hx hb dX3_staysWhole_33 (by decide) (fun c_33 => ?_) (fun c_33 => ?_)
        · refine lv_iinc (v := nI (j + 1)) (lv' := [(3, .int (nI (j + 1))), (0, .ref (t 0)), (1, .int (nI k)), (2, .int (nI u))]) hx hb dX3_staysWhole_38 hl (k := 3) rfl (q_inc _) (by decide) rfl (fun ls hl => ?_)
          refine lv_goto (tgt := 2) hx hb dX3_staysWhole_41 (by decide) ?_
          exact ih_2 (j + 1) _ _ ls (by omega) (by omega) (c_33) hP hD hS (lv_sub hl [1, 2, 3, 0] rfl)
        · refine lv_iconst (v := nI 0) hx hb dX3_staysWhole_36 (by decide) ?_
          exact WE.zret S hr hlk hP hS (g := sGo g n (j + 1)) (rfl) (bI_f (fun q => c_33 (Mo.stay6 hb9 hk (by omega) he q))) dX3_staysWhole_37
  exact L_2 ((u - 0) + 1) 0 _ _ ls (Nat.lt_succ_self _) (Nat.zero_le u) (he) hP hD hS (lv_sub hl [1, 2, 3, 0] rfl)
set_option maxRecDepth 100000 in
set_option maxHeartbeats 4000000 in
theorem c_X3_staysStill (l : Launch) (D : va_G) (cI cJ : ClassId) (t : Nat → Nat) (f g h : Nat → Int32) (τ : Nat → Nat → Int32) (u : Nat) (n : Nat) (hwg : Wk g n) (d : Nat) (hd : g 1 = nI d) (hp : Pk g n) (hs : Sk g) (hb9 : Bk g n) (he : g 3 = f 3) (hd2 : d + u ≤ 99999) : WE l yX3_staysStill cX3_staysStill 3 (some .boolean) 6 D cI cJ (TW cI cJ t f g h τ) [.ref (t 0), .int (nI u)] (some (.int (bI (sGo g n u 3 = f 3)))) (fun g9 => TW cI cJ t f g9 h τ) := by
  have h8 := hwg.2.1
  refine WE.of (by decide) (Nat.le_of_ble_eq_true rfl) (fun p e s m below meth c ls A S hr hlk hK hP hD hS hA hl => ?_)
  obtain ⟨hx, hb, hml, hown, hU⟩ := id S
  have hl : lv_has ls 3 [(0, .ref (t 0)), (1, .int (nI u))] := hl
  refine lv_iconst (v := nI 0) hx hb dX3_staysStill_0 (by decide) ?_
  refine lv_istore_n (lv' := [(2, .int (nI 0)), (0, .ref (t 0)), (1, .int (nI u))]) hx hb dX3_staysStill_1 rfl hl (by decide) rfl (fun ls hl => ?_)
  have L_2 : ∀ (n9 : Nat) (j : Nat) (H : Heap) (locs : List Loc) (ls : Array Slot), u - j < n9 → (j ≤ u) → (sGo g n j 3 = f 3) → va_P D vwCl (TW cI cJ t f (sGo g n j) h τ) H → va_D A (TW cI cJ t f (sGo g n j) h τ) → va_S A s.heap H locs → lv_has ls 3 [(0, .ref (t 0)), (1, .int (nI u)), (2, .int (nI j))] → W p l e (rmd 6) s m ([.ref (t 0), .int (nI u)] : List Value).toArray below meth c H locs 0 0 (ZE below ([.ref (t 0), .int (nI u)] : List Value).toArray s D (some (.int (bI (sGo g n u 3 = f 3)))) (fun g9 => TW cI cJ t f g9 h τ) A) (F0 m 2 ls []) := by
    intro n9
    induction n9 with
    | zero => intro j H locs ls hmeas; exact absurd hmeas (Nat.not_lt_zero _)
    | succ n9 ih_2 =>
      intro j H locs ls hmeas hj hJ hP hD hS hl
      refine lv_iload_n hx hb dX3_staysStill_2 rfl (lv_at hl 2 rfl) ?_
      refine lv_iload_n hx hb dX3_staysStill_3 rfl (lv_at hl 1 rfl) ?_
      refine q_icmp_geN (tgt := 40) (a := j) (b := u) hx hb dX3_staysStill_4 (by decide) (by omega) (by omega) (fun c_4 => ?_) (fun c_4 => ?_)
      · refine lv_iconst (v := nI 1) hx hb dX3_staysStill_40 (by decide) ?_
        exact WE.zret S hr hlk hP hS (g := sGo g n j) (rfl) (bI_t (by rw [← show j = u by omega]; exact hJ)) dX3_staysStill_41
      · refine lv_aload_n hx hb dX3_staysStill_7 rfl (lv_at hl 0 rfl) ?_
        refine g3_trial S hK hP dX3_staysStill_8 ?_
        refine lv_iconst (v := nI 1) hx hb dX3_staysStill_11 (by decide) ?_
        refine WR.callV (w1 := TW cI cJ t f (sGo (sGo g n j) n 1) h τ) S kv_X3_100 (c_X0_passDays l D cI cJ (sf t 12) (sGo g n j) 1 n ((hwg).kl (sGo_kl h8)) (d + j) (sGo_1 h8 hd) (by omega) (Pk.go h8 hp hs hd (by omega)) (hs.kl (sGo_kl h8))) hK hP hD hS hA (_) (_) TW_s2 TW_s2 PW_fst rfl ⟨Nat.le_of_ble_eq_true rfl, Nat.le_of_ble_eq_true rfl⟩ hl.1 rfl rfl (Nat.le_of_ble_eq_true rfl) (Nat.zero_le _) (Nat.zero_le _) dX3_staysStill_12 (fun H locs hP hD hS => ?_)
        refine W.eq (g2 := F0 m 15 ls []) rfl ?_
        have hP : va_P D vwCl (TW cI cJ t f (sGo g n (j + 1)) h τ) H := hP
        have hD : va_D A (TW cI cJ t f (sGo g n (j + 1)) h τ) := hD
        refine lv_aload_n hx hb dX3_staysStill_15 rfl (lv_at hl 0 rfl) ?_
        refine g3_trial S hK hP dX3_staysStill_16 ?_
        refine g30_claps S hK (TW_trial hP) dX3_staysStill_19 ?_
        refine lv_aload_n hx hb dX3_staysStill_22 rfl (lv_at hl 0 rfl) ?_
        refine g3_live S hK hP dX3_staysStill_23 ?_
        refine g30_claps S hK (TW_live hP) dX3_staysStill_26 ?_
        refine lv_icmp_eq (tgt := 34) hx hb dX3_staysStill_29 (by decide) (fun c_29 => ?_) (fun c_29 => ?_)
        · refine lv_iinc (v := nI (j + 1)) (lv' := [(2, .int (nI (j + 1))), (0, .ref (t 0)), (1, .int (nI u))]) hx hb dX3_staysStill_34 hl (k := 2) rfl (q_inc _) (by decide) rfl (fun ls hl => ?_)
          refine lv_goto (tgt := 2) hx hb dX3_staysStill_37 (by decide) ?_
          exact ih_2 (j + 1) _ _ ls (by omega) (by omega) (c_29) hP hD hS (lv_sub hl [1, 2, 0] rfl)
        · refine lv_iconst (v := nI 0) hx hb dX3_staysStill_32 (by decide) ?_
          exact WE.zret S hr hlk hP hS (g := sGo g n (j + 1)) (rfl) (bI_f (fun q => c_29 (Mo.stay3 hb9 (by omega) he q))) dX3_staysStill_33
  exact L_2 ((u - 0) + 1) 0 _ _ ls (Nat.lt_succ_self _) (Nat.zero_le u) (he) hP hD hS (lv_sub hl [1, 2, 0] rfl)
set_option maxRecDepth 100000 in
set_option maxHeartbeats 4000000 in
theorem c_X3_hoopsFor_ok (l : Launch) (D : va_G) (cI cJ : ClassId) (t : Nat → Nat) (f g h : Nat → Int32) (τ : Nat → Nat → Int32) (k : Nat) (u : Nat) (n : Nat) (hw : Wk f n) (d : Nat) (hd : f 1 = nI d) (hp : Pk f n) (hs : Sk f) (hb9 : Bk f n) (hk : k < n) (ht : u ≤ 20) (hd2 : d + 100 ≤ 99999) : WE l yX3_hoopsFor cX3_hoopsFor 4 (some .int) 7 D cI cJ (TW cI cJ t f g h τ) [.ref (t 0), .int (nI k), .int (nI u)] (some (.int (aN (oHo f n k u)))) (fun g9 => TW cI cJ t f g9 h (tgN τ (oHo f n k u))) := by
  have h8 := hw.2.1
  refine WE.of (by decide) (Nat.le_of_ble_eq_true rfl) (fun p e s m below meth c ls A S hr hlk hK hP hD hS hA hl => ?_)
  obtain ⟨hx, hb, hml, hown, hU⟩ := id S
  have hl : lv_has ls 4 [(0, .ref (t 0)), (1, .int (nI k)), (2, .int (nI u))] := hl
  refine lv_aload_n hx hb dX3_hoopsFor_0 rfl (lv_at hl 0 rfl) ?_
  refine lv_iload_n hx hb dX3_hoopsFor_1 rfl (lv_at hl 1 rfl) ?_
  refine RO.callV S kv_X3_72 (c_X3_isCask l D cI cJ t f g h τ (nI k) n (hw)) hK hP rfl ⟨Nat.le_of_ble_eq_true rfl, Nat.le_of_ble_eq_true rfl⟩ hl.1 rfl rfl (Nat.le_of_ble_eq_true rfl) (Nat.zero_le _) (Nat.zero_le _) dX3_hoopsFor_2 ?_
  refine q_if_eqB (tgt := 17) hx hb dX3_hoopsFor_5 (by decide) (fun h => absurd (⟨nI_pos' (by omega), nI_lt (by omega) (by omega)⟩) h) (fun _ => ?_)
  refine lv_iload_n hx hb dX3_hoopsFor_8 rfl (lv_at hl 2 rfl) ?_
  refine lv_bipush (v := nI 20) hx hb dX3_hoopsFor_9 (by decide) ?_
  refine RO.callS S ks_X3_44 (c_X3_isWithin l D cI cJ t f g h τ (nI u) (nI 20)) hK hP ⟨Nat.le_of_ble_eq_true rfl, Nat.le_of_ble_eq_true rfl⟩ hl.1 rfl rfl (Nat.le_of_ble_eq_true rfl) (Nat.zero_le _) (Nat.zero_le _) dX3_hoopsFor_11 ?_
  refine q_if_neB (tgt := 23) hx hb dX3_hoopsFor_14 (by decide) (fun _ => ?_) (fun h => absurd (⟨nI_le (by omega) (by omega), nI_le (by omega) (by omega)⟩) h)
  refine lv_iconst (v := nI 0) hx hb dX3_hoopsFor_23 (by decide) ?_
  refine lv_istore_n (lv' := [(3, .int (nI 0)), (0, .ref (t 0)), (1, .int (nI k)), (2, .int (nI u))]) hx hb dX3_hoopsFor_24 rfl hl (by decide) rfl (fun ls hl => ?_)
  have L_25 : ∀ (n9 : Nat) (x : Nat) (gg : Nat → Int32) (H : Heap) (locs : List Loc) (ls : Array Slot), 201 - x < n9 → (x ≤ 201) → (fst1 (fun v => decide (fi (sGo (fu f k 4 (nI v)) n u) k 6 = fi f k 6)) (201 - x) x = oHo f n k u) → va_P D vwCl (TW cI cJ t f gg h τ) H → va_D A (TW cI cJ t f gg h τ) → va_S A s.heap H locs → lv_has ls 4 [(0, .ref (t 0)), (1, .int (nI k)), (2, .int (nI u)), (3, .int (nI x))] → W p l e (rmd 7) s m ([.ref (t 0), .int (nI k), .int (nI u)] : List Value).toArray below meth c H locs 0 0 (ZE below ([.ref (t 0), .int (nI k), .int (nI u)] : List Value).toArray s D (some (.int (aN (oHo f n k u)))) (fun g9 => TW cI cJ t f g9 h (tgN τ (oHo f n k u))) A) (F0 m 25 ls []) := by
    intro n9
    induction n9 with
    | zero => intro x gg H locs ls hmeas; exact absurd hmeas (Nat.not_lt_zero _)
    | succ n9 ih_25 =>
      intro x gg H locs ls hmeas hx1 hR hP hD hS hl
      refine lv_iload_n hx hb dX3_hoopsFor_25 rfl (lv_at hl 3 rfl) ?_
      refine lv_sipush (v := nI 200) hx hb dX3_hoopsFor_26 (by decide) ?_
      refine q_icmp_gtN (tgt := 70) (a := x) (b := 200) hx hb dX3_hoopsFor_29 (by decide) (by omega) (by omega) (fun c_29 => ?_) (fun c_29 => ?_)
      · have hE : oHo f n k u = none := by rw [← hR, show 201 - x = 0 by omega]; rfl
        refine lv_aload_n hx hb dX3_hoopsFor_70 rfl (lv_at hl 0 rfl) ?_
        refine lv_iconst (v := nI 3) hx hb dX3_hoopsFor_71 (by decide) ?_
        refine WR.callV (w1 := TW cI cJ t f gg h (va_up τ 9 (cFi (τ 9) 3))) S kv_X3_48 (c_X3_fd3 l D cI cJ t f gg h τ) hK hP hD hS hA ([]) ([]) (List.append_nil _).symm (List.append_nil _).symm TW_fst rfl ⟨Nat.le_of_ble_eq_true rfl, Nat.le_of_ble_eq_true rfl⟩ hl.1 rfl rfl (Nat.le_of_ble_eq_true rfl) (Nat.zero_le _) (Nat.zero_le _) dX3_hoopsFor_72 (fun H locs hP hD hS => ?_)
        exact WE.iret S hr hlk hP hS (g := gg) (by rw [hE]; rfl) (congrArg (fun z => some (Value.int z)) (by rw [hE]; rfl)) dX3_hoopsFor_75
      · refine lv_aload_n hx hb dX3_hoopsFor_32 rfl (lv_at hl 0 rfl) ?_
        refine g3_trial S hK hP dX3_hoopsFor_33 ?_
        refine lv_aload_n hx hb dX3_hoopsFor_36 rfl (lv_at hl 0 rfl) ?_
        refine g3_live S hK hP dX3_hoopsFor_37 ?_
        refine WR.callVq 11 (w1 := TW cI cJ t f f h τ) S kv_X3_125 (c_X0_takeFrom_2_1 l D cI cJ (sf t 1) (sf t 12) (sf t 23) f gg h) hK hP hD hS hA _ _ TW_s123 TW_s123 PW3_fst rfl ⟨Nat.le_of_ble_eq_true rfl, Nat.le_of_ble_eq_true rfl⟩ hl.1 rfl rfl (Nat.le_of_ble_eq_true rfl) (Nat.zero_le _) (Nat.zero_le _) dX3_hoopsFor_40 (fun H locs hP hD hS => ?_)
        refine W.eq (g2 := F0 m 43 ls []) rfl ?_
        refine lv_aload_n hx hb dX3_hoopsFor_43 rfl (lv_at hl 0 rfl) ?_
        refine g3_trial S hK hP dX3_hoopsFor_44 ?_
        refine g30_hoops S hK (TW_trial hP) dX3_hoopsFor_47 ?_
        refine lv_iload_n hx hb dX3_hoopsFor_50 rfl (lv_at hl 1 rfl) ?_
        refine lv_iload_n hx hb dX3_hoopsFor_51 rfl (lv_at hl 3 rfl) ?_
        refine ss_hoops (w1 := TW cI cJ t f (fu f k 4 (nI x)) h τ) S hK hP hD hS TW_s2 (j := k) (by omega) TW_s2 dX3_hoopsFor_52 (fun H locs hP hD hS => ?_)
        refine lv_aload_n hx hb dX3_hoopsFor_53 rfl (lv_at hl 0 rfl) ?_
        refine lv_iload_n hx hb dX3_hoopsFor_54 rfl (lv_at hl 1 rfl) ?_
        refine lv_iload_n hx hb dX3_hoopsFor_55 rfl (lv_at hl 2 rfl) ?_
        refine WE.callV (w1 := fun g9 => TW cI cJ t f g9 h τ) S kv_X3_139 (c_X3_staysWhole l D cI cJ t f (fu f k 4 (nI x)) h τ k u n ((hw).fuw (k := k) (w := 4) (by decide) (by decide)) d ((upd_ne (by omega)).trans hd) (hp.fw (by decide) (by decide)) (hs.fu) (hb9.fu (by decide)) (by omega) (fi6_fu (by decide)) (by omega)) hK hP hD hS hA [] [] (List.append_nil _).symm (fun _ => (List.append_nil _).symm) (fun _ => TW_fst) rfl ⟨Nat.le_of_ble_eq_true rfl, Nat.le_of_ble_eq_true rfl⟩ hl.1 rfl rfl (Nat.le_of_ble_eq_true rfl) (Nat.zero_le _) (Nat.zero_le _) dX3_hoopsFor_56 (fun g_1 H locs hP hD hS => ?_)
        refine q_if_eqB (tgt := 64) hx hb dX3_hoopsFor_59 (by decide) (fun c_59 => ?_) (fun c_59 => ?_)
        · refine lv_iinc (v := nI (x + 1)) (lv' := [(3, .int (nI (x + 1))), (0, .ref (t 0)), (1, .int (nI k)), (2, .int (nI u))]) hx hb dX3_hoopsFor_64 hl (k := 3) rfl (q_inc _) (by decide) rfl (fun ls hl => ?_)
          refine lv_goto (tgt := 25) hx hb dX3_hoopsFor_67 (by decide) ?_
          exact ih_25 (x + 1) g_1 _ _ ls (by omega) (by omega) (by rw [← hR, show 201 - x = (201 - (x + 1)) + 1 by omega, fst1_go (by simpa using c_59)]) hP hD hS (lv_sub hl [1, 2, 3, 0] rfl)
        · have hE : oHo f n k u = some x := by rw [← hR, show 201 - x = (201 - (x + 1)) + 1 by omega, fst1_hit (by simpa using c_59)]
          refine lv_iload_n hx hb dX3_hoopsFor_62 rfl (lv_at hl 3 rfl) ?_
          exact WE.iret S hr hlk hP hS (g := g_1) (by rw [hE]; rfl) (congrArg (fun z => some (Value.int z)) (by rw [hE]; rfl)) dX3_hoopsFor_63
  exact L_25 ((201 - 0) + 1) 0 g _ _ ls (Nat.lt_succ_self _) (by omega) (rfl) hP hD hS (lv_sub hl [1, 2, 3, 0] rfl)
set_option maxRecDepth 100000 in
set_option maxHeartbeats 4000000 in
theorem c_X3_hoopsFor_bad (l : Launch) (D : va_G) (cI cJ : ClassId) (t : Nat → Nat) (f g h : Nat → Int32) (τ : Nat → Nat → Int32) (x : Int32) (y : Int32) (n : Nat) (hw : Wk f n) (hb0 : ¬ ((0 ≤ x ∧ x < nI n) ∧ (nI 0 ≤ y ∧ y ≤ nI 20))) : WR l yX3_hoopsFor cX3_hoopsFor 4 (some .int) 7 D cI cJ (TW cI cJ t f g h τ) [.ref (t 0), .int x, .int y] (some (.int (-1000001))) (TW cI cJ t f g h (va_up τ 9 (cFi (τ 9) 0))) := by
  refine WR.of (by decide) (Nat.le_of_ble_eq_true rfl) (fun p e s m below meth c ls A S hr hlk hK hP hD hS hA hl => ?_)
  obtain ⟨hx, hb, hml, hown, hU⟩ := id S
  have hl : lv_has ls 4 [(0, .ref (t 0)), (1, .int x), (2, .int y)] := hl
  refine lv_aload_n hx hb dX3_hoopsFor_0 rfl (lv_at hl 0 rfl) ?_
  refine lv_iload_n hx hb dX3_hoopsFor_1 rfl (lv_at hl 1 rfl) ?_
  refine RO.callV S kv_X3_72 (c_X3_isCask l D cI cJ t f g h τ x n (hw)) hK hP rfl ⟨Nat.le_of_ble_eq_true rfl, Nat.le_of_ble_eq_true rfl⟩ hl.1 rfl rfl (Nat.le_of_ble_eq_true rfl) (Nat.zero_le _) (Nat.zero_le _) dX3_hoopsFor_2 ?_
  refine q_if_eqB (tgt := 17) hx hb dX3_hoopsFor_5 (by decide) (fun c_5 => ?_) (fun c_5 => ?_)
  · refine lv_aload_n hx hb dX3_hoopsFor_17 rfl (lv_at hl 0 rfl) ?_
    refine lv_iconst (v := nI 0) hx hb dX3_hoopsFor_18 (by decide) ?_
    refine WR.callV (w1 := TW cI cJ t f g h (va_up τ 9 (cFi (τ 9) 0))) S kv_X3_48 (c_X3_fd0 l D cI cJ t f g h τ) hK hP hD hS hA ([]) ([]) (List.append_nil _).symm (List.append_nil _).symm TW_fst rfl ⟨Nat.le_of_ble_eq_true rfl, Nat.le_of_ble_eq_true rfl⟩ hl.1 rfl rfl (Nat.le_of_ble_eq_true rfl) (Nat.zero_le _) (Nat.zero_le _) dX3_hoopsFor_19 (fun H locs hP hD hS => ?_)
    exact WR.iret S hr hlk hP hS (rfl) rfl dX3_hoopsFor_22
  · refine lv_iload_n hx hb dX3_hoopsFor_8 rfl (lv_at hl 2 rfl) ?_
    refine lv_bipush (v := nI 20) hx hb dX3_hoopsFor_9 (by decide) ?_
    refine RO.callS S ks_X3_44 (c_X3_isWithin l D cI cJ t f g h τ y (nI 20)) hK hP ⟨Nat.le_of_ble_eq_true rfl, Nat.le_of_ble_eq_true rfl⟩ hl.1 rfl rfl (Nat.le_of_ble_eq_true rfl) (Nat.zero_le _) (Nat.zero_le _) dX3_hoopsFor_11 ?_
    refine q_if_neB (tgt := 23) hx hb dX3_hoopsFor_14 (by decide) (fun c_14 => ?_) (fun c_14 => ?_)
    · exact absurd (⟨c_5, c_14⟩) hb0
    · refine lv_aload_n hx hb dX3_hoopsFor_17 rfl (lv_at hl 0 rfl) ?_
      refine lv_iconst (v := nI 0) hx hb dX3_hoopsFor_18 (by decide) ?_
      refine WR.callV (w1 := TW cI cJ t f g h (va_up τ 9 (cFi (τ 9) 0))) S kv_X3_48 (c_X3_fd0 l D cI cJ t f g h τ) hK hP hD hS hA ([]) ([]) (List.append_nil _).symm (List.append_nil _).symm TW_fst rfl ⟨Nat.le_of_ble_eq_true rfl, Nat.le_of_ble_eq_true rfl⟩ hl.1 rfl rfl (Nat.le_of_ble_eq_true rfl) (Nat.zero_le _) (Nat.zero_le _) dX3_hoopsFor_19 (fun H locs hP hD hS => ?_)
      exact WR.iret S hr hlk hP hS (rfl) rfl dX3_hoopsFor_22
set_option maxRecDepth 100000 in
set_option maxHeartbeats 4000000 in
theorem c_X3_frostFor_ok (l : Launch) (D : va_G) (cI cJ : ClassId) (t : Nat → Nat) (f g h : Nat → Int32) (τ : Nat → Nat → Int32) (ce : Nat) (u : Nat) (n : Nat) (hw : Wk f n) (d : Nat) (hd : f 1 = nI d) (hp : Pk f n) (hs : Sk f) (hb9 : Bk f n) (hc : ce < 6) (ht : u ≤ 40) (hd2 : d + 100 ≤ 99999) : WE l yX3_frostFor cX3_frostFor 4 (some .int) 7 D cI cJ (TW cI cJ t f g h τ) [.ref (t 0), .int (nI ce), .int (nI u)] (some (.int (aN (oFr f n ce u)))) (fun g9 => TW cI cJ t f g9 h (tgN τ (oFr f n ce u))) := by
  have h8 := hw.2.1
  refine WE.of (by decide) (Nat.le_of_ble_eq_true rfl) (fun p e s m below meth c ls A S hr hlk hK hP hD hS hA hl => ?_)
  obtain ⟨hx, hb, hml, hown, hU⟩ := id S
  have hl : lv_has ls 4 [(0, .ref (t 0)), (1, .int (nI ce)), (2, .int (nI u))] := hl
  refine lv_iload_n hx hb dX3_frostFor_0 rfl (lv_at hl 1 rfl) ?_
  refine lv_iconst (v := nI 5) hx hb dX3_frostFor_1 (by decide) ?_
  refine RO.callS S ks_X3_44 (c_X3_isWithin l D cI cJ t f g h τ (nI ce) (nI 5)) hK hP ⟨Nat.le_of_ble_eq_true rfl, Nat.le_of_ble_eq_true rfl⟩ hl.1 rfl rfl (Nat.le_of_ble_eq_true rfl) (Nat.zero_le _) (Nat.zero_le _) dX3_frostFor_2 ?_
  refine q_if_eqB (tgt := 17) hx hb dX3_frostFor_5 (by decide) (fun h => absurd (⟨nI_le (by omega) (by omega), nI_le (by omega) (by omega)⟩) h) (fun _ => ?_)
  refine lv_iload_n hx hb dX3_frostFor_8 rfl (lv_at hl 2 rfl) ?_
  refine lv_bipush (v := nI 40) hx hb dX3_frostFor_9 (by decide) ?_
  refine RO.callS S ks_X3_44 (c_X3_isWithin l D cI cJ t f g h τ (nI u) (nI 40)) hK hP ⟨Nat.le_of_ble_eq_true rfl, Nat.le_of_ble_eq_true rfl⟩ hl.1 rfl rfl (Nat.le_of_ble_eq_true rfl) (Nat.zero_le _) (Nat.zero_le _) dX3_frostFor_11 ?_
  refine q_if_neB (tgt := 23) hx hb dX3_frostFor_14 (by decide) (fun _ => ?_) (fun h => absurd (⟨nI_le (by omega) (by omega), nI_le (by omega) (by omega)⟩) h)
  refine lv_bipush (v := nI 9) hx hb dX3_frostFor_23 (by decide) ?_
  refine lv_istore_n (lv' := [(3, .int (nI 9)), (0, .ref (t 0)), (1, .int (nI ce)), (2, .int (nI u))]) hx hb dX3_frostFor_25 rfl hl (by decide) rfl (fun ls hl => ?_)
  have L_26 : ∀ (n9 : Nat) (x : Nat) (gg : Nat → Int32) (H : Heap) (locs : List Loc) (ls : Array Slot), x < n9 → (x ≤ 10) → (fsD (fun v => decide (sGo (upd f (4 + ce) (nI v)) n u 3 = f 3)) x = oFr f n ce u) → va_P D vwCl (TW cI cJ t f gg h τ) H → va_D A (TW cI cJ t f gg h τ) → va_S A s.heap H locs → lv_has ls 4 [(0, .ref (t 0)), (1, .int (nI ce)), (2, .int (nI u)), (3, .int (pm x))] → W p l e (rmd 7) s m ([.ref (t 0), .int (nI ce), .int (nI u)] : List Value).toArray below meth c H locs 0 0 (ZE below ([.ref (t 0), .int (nI ce), .int (nI u)] : List Value).toArray s D (some (.int (aN (oFr f n ce u)))) (fun g9 => TW cI cJ t f g9 h (tgN τ (oFr f n ce u))) A) (F0 m 26 ls []) := by
    intro n9
    induction n9 with
    | zero => intro x gg H locs ls hmeas; exact absurd hmeas (Nat.not_lt_zero _)
    | succ n9 ih_26 =>
      intro x gg H locs ls hmeas hx1 hR hP hD hS hl
      cases x with
      | zero =>
        have hl : lv_has ls 4 [(0, .ref (t 0)), (1, .int (nI ce)), (2, .int (nI u)), (3, .int (-1))] := hl
        refine lv_iload_n hx hb dX3_frostFor_26 rfl (lv_at hl 3 rfl) ?_
        refine lv_if_lt (tgt := 67) hx hb dX3_frostFor_27 (by decide) (fun _ => ?_) (fun h => absurd (by decide) h)
        have hE : oFr f n ce u = none := hR.symm
        refine lv_aload_n hx hb dX3_frostFor_67 rfl (lv_at hl 0 rfl) ?_
        refine lv_iconst (v := nI 3) hx hb dX3_frostFor_68 (by decide) ?_
        refine WR.callV (w1 := TW cI cJ t f gg h (va_up τ 9 (cFi (τ 9) 3))) S kv_X3_48 (c_X3_fd3 l D cI cJ t f gg h τ) hK hP hD hS hA ([]) ([]) (List.append_nil _).symm (List.append_nil _).symm TW_fst rfl ⟨Nat.le_of_ble_eq_true rfl, Nat.le_of_ble_eq_true rfl⟩ hl.1 rfl rfl (Nat.le_of_ble_eq_true rfl) (Nat.zero_le _) (Nat.zero_le _) dX3_frostFor_69 (fun H locs hP hD hS => ?_)
        exact WE.iret S hr hlk hP hS (g := gg) (by rw [hE]; rfl) (congrArg (fun z => some (Value.int z)) (by rw [hE]; rfl)) dX3_frostFor_72
      | succ x =>
        have hl : lv_has ls 4 [(0, .ref (t 0)), (1, .int (nI ce)), (2, .int (nI u)), (3, .int (nI x))] := hl
        refine lv_iload_n hx hb dX3_frostFor_26 rfl (lv_at hl 3 rfl) ?_
        refine q_if_ltN (tgt := 67) (a := x) hx hb dX3_frostFor_27 (by decide) (by omega) ?_
        refine lv_aload_n hx hb dX3_frostFor_30 rfl (lv_at hl 0 rfl) ?_
        refine g3_trial S hK hP dX3_frostFor_31 ?_
        refine lv_aload_n hx hb dX3_frostFor_34 rfl (lv_at hl 0 rfl) ?_
        refine g3_live S hK hP dX3_frostFor_35 ?_
        refine WR.callVq 11 (w1 := TW cI cJ t f f h τ) S kv_X3_125 (c_X0_takeFrom_2_1 l D cI cJ (sf t 1) (sf t 12) (sf t 23) f gg h) hK hP hD hS hA _ _ TW_s123 TW_s123 PW3_fst rfl ⟨Nat.le_of_ble_eq_true rfl, Nat.le_of_ble_eq_true rfl⟩ hl.1 rfl rfl (Nat.le_of_ble_eq_true rfl) (Nat.zero_le _) (Nat.zero_le _) dX3_frostFor_38 (fun H locs hP hD hS => ?_)
        refine W.eq (g2 := F0 m 41 ls []) rfl ?_
        refine lv_aload_n hx hb dX3_frostFor_41 rfl (lv_at hl 0 rfl) ?_
        refine g3_trial S hK hP dX3_frostFor_42 ?_
        refine g30_frosts S hK (TW_trial hP) dX3_frostFor_45 ?_
        refine lv_iload_n hx hb dX3_frostFor_48 rfl (lv_at hl 1 rfl) ?_
        refine lv_iload_n hx hb dX3_frostFor_49 rfl (lv_at hl 3 rfl) ?_
        refine ss_frosts (w1 := TW cI cJ t f (upd f (4 + ce) (nI x)) h τ) S hK hP hD hS TW_s2 (j := ce) (by omega) TW_s2 dX3_frostFor_50 (fun H locs hP hD hS => ?_)
        refine lv_aload_n hx hb dX3_frostFor_51 rfl (lv_at hl 0 rfl) ?_
        refine lv_iload_n hx hb dX3_frostFor_52 rfl (lv_at hl 2 rfl) ?_
        refine WE.callV (w1 := fun g9 => TW cI cJ t f g9 h τ) S kv_X3_142 (c_X3_staysStill l D cI cJ t f (upd f (4 + ce) (nI x)) h τ u n ((hw).up (by omega) (by omega)) d ((upd_ne (by omega)).trans hd) (hp.up (by omega)) (hs.up (by omega)) (hb9.up (by omega) (by omega)) (upd_ne (by omega)) (by omega)) hK hP hD hS hA [] [] (List.append_nil _).symm (fun _ => (List.append_nil _).symm) (fun _ => TW_fst) rfl ⟨Nat.le_of_ble_eq_true rfl, Nat.le_of_ble_eq_true rfl⟩ hl.1 rfl rfl (Nat.le_of_ble_eq_true rfl) (Nat.zero_le _) (Nat.zero_le _) dX3_frostFor_53 (fun g_1 H locs hP hD hS => ?_)
        refine q_if_eqB (tgt := 61) hx hb dX3_frostFor_56 (by decide) (fun c_56 => ?_) (fun c_56 => ?_)
        · refine lv_iinc (v := nI x + Int32.ofInt (-1)) (lv' := [(3, .int (nI x + Int32.ofInt (-1))), (0, .ref (t 0)), (1, .int (nI ce)), (2, .int (nI u))]) hx hb dX3_frostFor_61 hl (k := 3) rfl rfl (by decide) rfl (fun ls hl => ?_)
          refine lv_goto (tgt := 26) hx hb dX3_frostFor_64 (by decide) ?_
          exact ih_26 x g_1 _ _ ls (by omega) (by omega) (by rw [← hR, fsD_go (by simpa using c_56)]) hP hD hS (by rw [show pm x = nI x + Int32.ofInt (-1) from pm_dec (by omega)]; exact lv_sub hl [1, 2, 3, 0] rfl)
        · have hE : oFr f n ce u = some x := by rw [← hR, fsD_hit (by simpa using c_56)]
          refine lv_iload_n hx hb dX3_frostFor_59 rfl (lv_at hl 3 rfl) ?_
          exact WE.iret S hr hlk hP hS (g := g_1) (by rw [hE]; rfl) (congrArg (fun z => some (Value.int z)) (by rw [hE]; rfl)) dX3_frostFor_60
  exact L_26 (10 + 1) 10 g _ _ ls (Nat.lt_succ_self _) (by omega) (rfl) hP hD hS (by rw [show pm 10 = nI 9 from rfl]; exact lv_sub hl [1, 2, 3, 0] rfl)
set_option maxRecDepth 100000 in
set_option maxHeartbeats 4000000 in
theorem c_X3_frostFor_bad (l : Launch) (D : va_G) (cI cJ : ClassId) (t : Nat → Nat) (f g h : Nat → Int32) (τ : Nat → Nat → Int32) (x : Int32) (y : Int32) (hb0 : ¬ ((nI 0 ≤ x ∧ x ≤ nI 5) ∧ (nI 0 ≤ y ∧ y ≤ nI 40))) : WR l yX3_frostFor cX3_frostFor 4 (some .int) 7 D cI cJ (TW cI cJ t f g h τ) [.ref (t 0), .int x, .int y] (some (.int (-1000001))) (TW cI cJ t f g h (va_up τ 9 (cFi (τ 9) 0))) := by
  refine WR.of (by decide) (Nat.le_of_ble_eq_true rfl) (fun p e s m below meth c ls A S hr hlk hK hP hD hS hA hl => ?_)
  obtain ⟨hx, hb, hml, hown, hU⟩ := id S
  have hl : lv_has ls 4 [(0, .ref (t 0)), (1, .int x), (2, .int y)] := hl
  refine lv_iload_n hx hb dX3_frostFor_0 rfl (lv_at hl 1 rfl) ?_
  refine lv_iconst (v := nI 5) hx hb dX3_frostFor_1 (by decide) ?_
  refine RO.callS S ks_X3_44 (c_X3_isWithin l D cI cJ t f g h τ x (nI 5)) hK hP ⟨Nat.le_of_ble_eq_true rfl, Nat.le_of_ble_eq_true rfl⟩ hl.1 rfl rfl (Nat.le_of_ble_eq_true rfl) (Nat.zero_le _) (Nat.zero_le _) dX3_frostFor_2 ?_
  refine q_if_eqB (tgt := 17) hx hb dX3_frostFor_5 (by decide) (fun c_5 => ?_) (fun c_5 => ?_)
  · refine lv_aload_n hx hb dX3_frostFor_17 rfl (lv_at hl 0 rfl) ?_
    refine lv_iconst (v := nI 0) hx hb dX3_frostFor_18 (by decide) ?_
    refine WR.callV (w1 := TW cI cJ t f g h (va_up τ 9 (cFi (τ 9) 0))) S kv_X3_48 (c_X3_fd0 l D cI cJ t f g h τ) hK hP hD hS hA ([]) ([]) (List.append_nil _).symm (List.append_nil _).symm TW_fst rfl ⟨Nat.le_of_ble_eq_true rfl, Nat.le_of_ble_eq_true rfl⟩ hl.1 rfl rfl (Nat.le_of_ble_eq_true rfl) (Nat.zero_le _) (Nat.zero_le _) dX3_frostFor_19 (fun H locs hP hD hS => ?_)
    exact WR.iret S hr hlk hP hS (rfl) rfl dX3_frostFor_22
  · refine lv_iload_n hx hb dX3_frostFor_8 rfl (lv_at hl 2 rfl) ?_
    refine lv_bipush (v := nI 40) hx hb dX3_frostFor_9 (by decide) ?_
    refine RO.callS S ks_X3_44 (c_X3_isWithin l D cI cJ t f g h τ y (nI 40)) hK hP ⟨Nat.le_of_ble_eq_true rfl, Nat.le_of_ble_eq_true rfl⟩ hl.1 rfl rfl (Nat.le_of_ble_eq_true rfl) (Nat.zero_le _) (Nat.zero_le _) dX3_frostFor_11 ?_
    refine q_if_neB (tgt := 23) hx hb dX3_frostFor_14 (by decide) (fun c_14 => ?_) (fun c_14 => ?_)
    · exact absurd (⟨c_5, c_14⟩) hb0
    · refine lv_aload_n hx hb dX3_frostFor_17 rfl (lv_at hl 0 rfl) ?_
      refine lv_iconst (v := nI 0) hx hb dX3_frostFor_18 (by decide) ?_
      refine WR.callV (w1 := TW cI cJ t f g h (va_up τ 9 (cFi (τ 9) 0))) S kv_X3_48 (c_X3_fd0 l D cI cJ t f g h τ) hK hP hD hS hA ([]) ([]) (List.append_nil _).symm (List.append_nil _).symm TW_fst rfl ⟨Nat.le_of_ble_eq_true rfl, Nat.le_of_ble_eq_true rfl⟩ hl.1 rfl rfl (Nat.le_of_ble_eq_true rfl) (Nat.zero_le _) (Nat.zero_le _) dX3_frostFor_19 (fun H locs hP hD hS => ?_)
      exact WR.iret S hr hlk hP hS (rfl) rfl dX3_frostFor_22

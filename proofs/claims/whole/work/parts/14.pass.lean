theorem upd_comm {f : Nat → Int32} {i j : Nat} {x y : Int32} (h : i ≠ j) : upd (upd f i x) j y = upd (upd f j y) i x := by
  funext k
  unfold upd
  by_cases e : k = i
  · subst e
    simp [h]
  · simp [e]
theorem fu_upd_c {f : Nat → Int32} {k w i : Nat} {x v : Int32} (h : i < 16) : fu (upd f i v) k w x = upd (fu f k w x) i v := upd_comm (by omega)
theorem sAd_c (f : Nat → Int32) (n : Nat) (x y : Int32) : sAd f n x y = fu (fu (fu (fu (fu (fu (fu (upd f 0 (nI (n + 1))) n 0 x) n 1 y) n 2 (nI 0)) n 3 (nI 0)) n 4 (nI 100)) n 5 (nI 0)) n 6 (nI 0) := by
  rw [fu_upd_c (by decide), fu_upd_c (by decide), fu_upd_c (by decide), fu_upd_c (by decide), fu_upd_c (by decide), fu_upd_c (by decide), fu_upd_c (by decide)]
  rfl
/-- the draws' number, and what a draw gives -/
def sDz (f : Nat → Int32) : Nat → Int32 := upd f 2 (f 2 * nI 1103515245 + nI 12345)
def sDr (f : Nat → Int32) : Int32 := ((sDz f 2).toUInt32 >>> ((nI 8).toUInt32 &&& Int32.toUInt32 31)).toInt32
theorem pk0 {f : Nat → Int32} {n k : Nat} (h : Pk f n) (hk : k < n) (h0 : fi f k 2 ≤ 0) : fi f k 2 = nI 0 := by
  obtain ⟨p, h1, h2⟩ := h k hk
  rw [h2] at h0 ⊢
  have := (nI_leI (a := p) (b := 0) (by omega) (by decide)).mp h0
  rw [show p = 0 by omega]
set_option maxRecDepth 100000 in
set_option maxHeartbeats 4000000 in
theorem c_X0_crackLoud (l : Launch) (D : va_G) (cI cJ : ClassId) (o : Nat → Nat) (f : Nat → Int32) (k : Nat) (hk : k < 8) : RO l yX0_crackLoud cX0_crackLoud 2 (some .int) 1 D cI cJ (PW cI o f) [.ref (o 0), .int (nI k)] (.int (sCr f k)) := by
  refine RO.of (by decide) (Nat.le_of_ble_eq_true rfl) (fun p e s m below meth c ls S hr hlk hK hP hl => ?_)
  obtain ⟨hx, hb, hml, hown, hU⟩ := id S
  have hl : lv_has ls 2 [(0, .ref (o 0)), (1, .int (nI k))] := hl
  refine lv_iconst (v := nI 0) hx hb dX0_crackLoud_0 (by decide) ?_
  refine lv_iconst (v := nI 2) hx hb dX0_crackLoud_1 (by decide) ?_
  refine lv_aload_n hx hb dX0_crackLoud_2 rfl (lv_at hl 0 rfl) ?_
  refine g00_peal S hK hP dX0_crackLoud_3 ?_
  refine lv_iload_n hx hb dX0_crackLoud_6 rfl (lv_at hl 1 rfl) ?_
  refine l0_peal S hK hP (j := k) (by omega) dX0_crackLoud_7 ?_
  refine lv_imul hx hb dX0_crackLoud_8 ?_
  refine lv_aload_n hx hb dX0_crackLoud_9 rfl (lv_at hl 0 rfl) ?_
  refine g00_age S hK hP dX0_crackLoud_10 ?_
  refine lv_iload_n hx hb dX0_crackLoud_13 rfl (lv_at hl 1 rfl) ?_
  refine l0_age S hK hP (j := k) (by omega) dX0_crackLoud_14 ?_
  refine lv_isub hx hb dX0_crackLoud_15 ?_
  refine q_max hx hb (by rw [hml]; exact hl.1.symm) hown hU mL_X0_80 (Nat.le_of_ble_eq_true rfl) (Nat.le_of_ble_eq_true rfl) (Nat.zero_le _) (Nat.zero_le _) dX0_crackLoud_16 ?_
  exact RO.iret S hr hlk rfl dX0_crackLoud_19
set_option maxRecDepth 100000 in
set_option maxHeartbeats 4000000 in
theorem c_X0_rollLoud (l : Launch) (D : va_G) (cI cJ : ClassId) (o : Nat → Nat) (f : Nat → Int32) (k : Nat) (hk : k < 8) : RO l yX0_rollLoud cX0_rollLoud 2 (some .int) 0 D cI cJ (PW cI o f) [.ref (o 0), .int (nI k)] (.int (sRo f k)) := by
  refine RO.of (by decide) (Nat.le_of_ble_eq_true rfl) (fun p e s m below meth c ls S hr hlk hK hP hl => ?_)
  obtain ⟨hx, hb, hml, hown, hU⟩ := id S
  have hl : lv_has ls 2 [(0, .ref (o 0)), (1, .int (nI k))] := hl
  refine lv_aload_n hx hb dX0_rollLoud_0 rfl (lv_at hl 0 rfl) ?_
  refine g00_peal S hK hP dX0_rollLoud_1 ?_
  refine lv_iload_n hx hb dX0_rollLoud_4 rfl (lv_at hl 1 rfl) ?_
  refine l0_peal S hK hP (j := k) (by omega) dX0_rollLoud_5 ?_
  refine lv_aload_n hx hb dX0_rollLoud_6 rfl (lv_at hl 0 rfl) ?_
  refine g00_peal S hK hP dX0_rollLoud_7 ?_
  refine lv_iload_n hx hb dX0_rollLoud_10 rfl (lv_at hl 1 rfl) ?_
  refine l0_peal S hK hP (j := k) (by omega) dX0_rollLoud_11 ?_
  refine lv_iconst (v := nI 4) hx hb dX0_rollLoud_12 (by decide) ?_
  refine lv_idiv hx hb dX0_rollLoud_13 (by decide) ?_
  refine lv_isub hx hb dX0_rollLoud_14 ?_
  refine lv_aload_n hx hb dX0_rollLoud_15 rfl (lv_at hl 0 rfl) ?_
  refine g00_age S hK hP dX0_rollLoud_16 ?_
  refine lv_iload_n hx hb dX0_rollLoud_19 rfl (lv_at hl 1 rfl) ?_
  refine l0_age S hK hP (j := k) (by omega) dX0_rollLoud_20 ?_
  refine lv_iadd hx hb dX0_rollLoud_21 ?_
  exact RO.iret S hr hlk rfl dX0_rollLoud_22
set_option maxRecDepth 100000 in
set_option maxHeartbeats 4000000 in
theorem c_X0_othersBeside (l : Launch) (D : va_G) (cI cJ : ClassId) (o : Nat → Nat) (f : Nat → Int32) (k : Nat) (n : Nat) (hw : Wk f n) (hk : k < n) : RO l yX0_othersBeside cX0_othersBeside 4 (some .int) 0 D cI cJ (PW cI o f) [.ref (o 0), .int (nI k)] (.int (nI (sOt f k n))) := by
  have h8 := hw.2.1
  refine RO.of (by decide) (Nat.le_of_ble_eq_true rfl) (fun p e s m below meth c ls S hr hlk hK hP hl => ?_)
  obtain ⟨hx, hb, hml, hown, hU⟩ := id S
  have hl : lv_has ls 4 [(0, .ref (o 0)), (1, .int (nI k))] := hl
  refine lv_iconst (v := nI 0) hx hb dX0_othersBeside_0 (by decide) ?_
  refine lv_istore_n (lv' := [(2, .int (nI 0)), (0, .ref (o 0)), (1, .int (nI k))]) hx hb dX0_othersBeside_1 rfl hl (by decide) rfl (fun ls hl => ?_)
  refine lv_iconst (v := nI 0) hx hb dX0_othersBeside_2 (by decide) ?_
  refine lv_istore_n (lv' := [(3, .int (nI 0)), (2, .int (nI 0)), (0, .ref (o 0)), (1, .int (nI k))]) hx hb dX0_othersBeside_3 rfl hl (by decide) rfl (fun ls hl => ?_)
  have L_4 : ∀ (n9 : Nat) (j : Nat) (ls : Array Slot), n - j < n9 → j ≤ n → lv_has ls 4 [(0, .ref (o 0)), (1, .int (nI k)), (2, .int (nI (sOt f k j))), (3, .int (nI j))] → W p l e (rmd 0) s m ([.ref (o 0), .int (nI k)] : List Value).toArray below meth c s.heap [] 0 0 (ZR below ([.ref (o 0), .int (nI k)] : List Value).toArray s (.int (nI (sOt f k n)))) (F0 m 4 ls []) := by
    intro n9
    induction n9 with
    | zero => intro j ls hm; exact absurd hm (Nat.not_lt_zero _)
    | succ n9 ih_4 =>
      intro j ls hm hj hl
      refine lv_iload_n hx hb dX0_othersBeside_4 rfl (lv_at hl 3 rfl) ?_
      refine lv_aload_n hx hb dX0_othersBeside_5 rfl (lv_at hl 0 rfl) ?_
      refine g00_casks S hK hP dX0_othersBeside_6 ?_
      refine q_eqi (y := nI n) (hw.1) ?_
      refine q_icmp_geN (tgt := 41) (a := j) (b := n) hx hb dX0_othersBeside_9 (by decide) (by omega) (by omega) (fun c_9 => ?_) (fun c_9 => ?_)
      · refine lv_iload_n hx hb dX0_othersBeside_41 rfl (lv_at hl 2 rfl) ?_
        exact RO.iret S hr hlk (congrArg Value.int (by rw [show j = n by omega])) dX0_othersBeside_42
      · refine lv_iload_n hx hb dX0_othersBeside_12 rfl (lv_at hl 3 rfl) ?_
        refine lv_iload_n hx hb dX0_othersBeside_13 rfl (lv_at hl 1 rfl) ?_
        refine q_icmp_eqN (tgt := 35) (a := j) (b := k) hx hb dX0_othersBeside_14 (by decide) (by omega) (by omega) (fun c_14 => ?_) (fun c_14 => ?_)
        · refine lv_iinc (v := nI (j + 1)) (lv' := [(3, .int (nI (j + 1))), (0, .ref (o 0)), (1, .int (nI k)), (2, .int (nI (sOt f k j)))]) hx hb dX0_othersBeside_35 hl (k := 3) rfl (q_inc _) (by decide) rfl (fun ls hl => ?_)
          refine lv_goto (tgt := 4) hx hb dX0_othersBeside_38 (by decide) ?_
          exact ih_4 (j + 1) ls (by omega) (by omega) (by rw [show nI (sOt f k (j + 1)) = nI (sOt f k j) from by rw [sOt, if_neg (fun q => q.1 c_14)]]; exact lv_sub hl [1, 2, 3, 0] rfl)
        · refine lv_aload_n hx hb dX0_othersBeside_17 rfl (lv_at hl 0 rfl) ?_
          refine g00_home S hK hP dX0_othersBeside_18 ?_
          refine lv_iload_n hx hb dX0_othersBeside_21 rfl (lv_at hl 3 rfl) ?_
          refine l0_home S hK hP (j := j) (by omega) dX0_othersBeside_22 ?_
          refine lv_aload_n hx hb dX0_othersBeside_23 rfl (lv_at hl 0 rfl) ?_
          refine g00_home S hK hP dX0_othersBeside_24 ?_
          refine lv_iload_n hx hb dX0_othersBeside_27 rfl (lv_at hl 1 rfl) ?_
          refine l0_home S hK hP (j := k) (by omega) dX0_othersBeside_28 ?_
          refine lv_icmp_ne (tgt := 35) hx hb dX0_othersBeside_29 (by decide) (fun c_29 => ?_) (fun c_29 => ?_)
          · refine lv_iinc (v := nI (j + 1)) (lv' := [(3, .int (nI (j + 1))), (0, .ref (o 0)), (1, .int (nI k)), (2, .int (nI (sOt f k j)))]) hx hb dX0_othersBeside_35 hl (k := 3) rfl (q_inc _) (by decide) rfl (fun ls hl => ?_)
            refine lv_goto (tgt := 4) hx hb dX0_othersBeside_38 (by decide) ?_
            exact ih_4 (j + 1) ls (by omega) (by omega) (by rw [show nI (sOt f k (j + 1)) = nI (sOt f k j) from by rw [sOt, if_neg (fun q => c_29 q.2)]]; exact lv_sub hl [1, 2, 3, 0] rfl)
          · refine lv_iinc (v := nI (sOt f k j + 1)) (lv' := [(2, .int (nI (sOt f k j + 1))), (0, .ref (o 0)), (1, .int (nI k)), (3, .int (nI j))]) hx hb dX0_othersBeside_32 hl (k := 2) rfl (q_inc _) (by decide) rfl (fun ls hl => ?_)
            refine lv_iinc (v := nI (j + 1)) (lv' := [(3, .int (nI (j + 1))), (2, .int (nI (sOt f k j + 1))), (0, .ref (o 0)), (1, .int (nI k))]) hx hb dX0_othersBeside_35 hl (k := 3) rfl (q_inc _) (by decide) rfl (fun ls hl => ?_)
            refine lv_goto (tgt := 4) hx hb dX0_othersBeside_38 (by decide) ?_
            exact ih_4 (j + 1) ls (by omega) (by omega) (by rw [show nI (sOt f k (j + 1)) = nI (sOt f k j + 1) from by rw [sOt, if_pos ⟨c_14, c_29⟩]]; exact lv_sub hl [2, 3, 1, 0] rfl)
  exact L_4 ((n - 0) + 1) 0 ls (Nat.lt_succ_self _) (Nat.zero_le n) (lv_sub hl [2, 3, 1, 0] rfl)
set_option maxRecDepth 100000 in
set_option maxHeartbeats 4000000 in
theorem c_X0_loudOf (l : Launch) (D : va_G) (cI cJ : ClassId) (o : Nat → Nat) (f : Nat → Int32) (k : Nat) (n : Nat) (hw : Wk f n) (hk : k < n) : RO l yX0_loudOf cX0_loudOf 2 (some .int) 2 D cI cJ (PW cI o f) [.ref (o 0), .int (nI k)] (.int (sLd f n k)) := by
  have h8 := hw.2.1
  refine RO.of (by decide) (Nat.le_of_ble_eq_true rfl) (fun p e s m below meth c ls S hr hlk hK hP hl => ?_)
  obtain ⟨hx, hb, hml, hown, hU⟩ := id S
  have hl : lv_has ls 2 [(0, .ref (o 0)), (1, .int (nI k))] := hl
  refine lv_aload_n hx hb dX0_loudOf_0 rfl (lv_at hl 0 rfl) ?_
  refine g00_kind S hK hP dX0_loudOf_1 ?_
  refine lv_iload_n hx hb dX0_loudOf_4 rfl (lv_at hl 1 rfl) ?_
  refine l0_kind S hK hP (j := k) (by omega) dX0_loudOf_5 ?_
  by_cases k_6_1 : fi f k 0 = nI 1
  · refine q_eqi k_6_1 ?_
    refine lv_tableIn (tgt := 44) hx hb dX0_loudOf_6 (by decide) (by decide) rfl (by decide) ?_
    refine lv_aload_n hx hb dX0_loudOf_44 rfl (lv_at hl 0 rfl) ?_
    refine lv_iload_n hx hb dX0_loudOf_45 rfl (lv_at hl 1 rfl) ?_
    refine RO.callV S kv_X0_70 (c_X0_crackLoud l D cI cJ o f k (by omega)) hK hP rfl ⟨Nat.le_of_ble_eq_true rfl, Nat.le_of_ble_eq_true rfl⟩ hl.1 rfl rfl (Nat.le_of_ble_eq_true rfl) (Nat.zero_le _) (Nat.zero_le _) dX0_loudOf_46 ?_
    exact RO.iret S hr hlk (congrArg Value.int (Eq.trans (b := sCr f k) (by rw [sLd, if_pos k_6_1]) rfl)) dX0_loudOf_49
  by_cases k_6_2 : fi f k 0 = nI 2
  · refine q_eqi k_6_2 ?_
    refine lv_tableIn (tgt := 50) hx hb dX0_loudOf_6 (by decide) (by decide) rfl (by decide) ?_
    refine lv_aload_n hx hb dX0_loudOf_50 rfl (lv_at hl 0 rfl) ?_
    refine lv_iload_n hx hb dX0_loudOf_51 rfl (lv_at hl 1 rfl) ?_
    refine RO.callV S kv_X0_74 (c_X0_rollLoud l D cI cJ o f k (by omega)) hK hP rfl ⟨Nat.le_of_ble_eq_true rfl, Nat.le_of_ble_eq_true rfl⟩ hl.1 rfl rfl (Nat.le_of_ble_eq_true rfl) (Nat.zero_le _) (Nat.zero_le _) dX0_loudOf_52 ?_
    exact RO.iret S hr hlk (congrArg Value.int (Eq.trans (b := sRo f k) (by rw [sLd, if_neg k_6_1, if_pos k_6_2]) rfl)) dX0_loudOf_55
  by_cases k_6_3 : fi f k 0 = nI 3
  · refine q_eqi k_6_3 ?_
    refine lv_tableIn (tgt := 56) hx hb dX0_loudOf_6 (by decide) (by decide) rfl (by decide) ?_
    refine lv_aload_n hx hb dX0_loudOf_56 rfl (lv_at hl 0 rfl) ?_
    refine lv_iload_n hx hb dX0_loudOf_57 rfl (lv_at hl 1 rfl) ?_
    refine RO.callV S kv_X0_74 (c_X0_rollLoud l D cI cJ o f k (by omega)) hK hP rfl ⟨Nat.le_of_ble_eq_true rfl, Nat.le_of_ble_eq_true rfl⟩ hl.1 rfl rfl (Nat.le_of_ble_eq_true rfl) (Nat.zero_le _) (Nat.zero_le _) dX0_loudOf_58 ?_
    refine lv_iconst (v := nI 2) hx hb dX0_loudOf_61 (by decide) ?_
    refine lv_idiv hx hb dX0_loudOf_62 (by decide) ?_
    exact RO.iret S hr hlk (congrArg Value.int (Eq.trans (b := sRo f k / nI 2) (by rw [sLd, if_neg k_6_1, if_neg k_6_2, if_pos k_6_3]) rfl)) dX0_loudOf_63
  by_cases k_6_4 : fi f k 0 = nI 4
  · refine q_eqi k_6_4 ?_
    refine lv_tableIn (tgt := 64) hx hb dX0_loudOf_6 (by decide) (by decide) rfl (by decide) ?_
    refine lv_aload_n hx hb dX0_loudOf_64 rfl (lv_at hl 0 rfl) ?_
    refine lv_iload_n hx hb dX0_loudOf_65 rfl (lv_at hl 1 rfl) ?_
    refine RO.callV S kv_X0_74 (c_X0_rollLoud l D cI cJ o f k (by omega)) hK hP rfl ⟨Nat.le_of_ble_eq_true rfl, Nat.le_of_ble_eq_true rfl⟩ hl.1 rfl rfl (Nat.le_of_ble_eq_true rfl) (Nat.zero_le _) (Nat.zero_le _) dX0_loudOf_66 ?_
    refine lv_iconst (v := nI 2) hx hb dX0_loudOf_69 (by decide) ?_
    refine lv_idiv hx hb dX0_loudOf_70 (by decide) ?_
    refine lv_iconst (v := nI 5) hx hb dX0_loudOf_71 (by decide) ?_
    refine lv_aload_n hx hb dX0_loudOf_72 rfl (lv_at hl 0 rfl) ?_
    refine lv_iload_n hx hb dX0_loudOf_73 rfl (lv_at hl 1 rfl) ?_
    refine RO.callV S kv_X0_77 (c_X0_othersBeside l D cI cJ o f k n (hw) (by omega)) hK hP rfl ⟨Nat.le_of_ble_eq_true rfl, Nat.le_of_ble_eq_true rfl⟩ hl.1 rfl rfl (Nat.le_of_ble_eq_true rfl) (Nat.zero_le _) (Nat.zero_le _) dX0_loudOf_74 ?_
    refine q_imulN (a := 5) (b := sOt f k n) hx hb dX0_loudOf_77 ?_
    refine lv_iadd hx hb dX0_loudOf_78 ?_
    exact RO.iret S hr hlk (congrArg Value.int (Eq.trans (b := sRo f k / nI 2 + nI (5 * sOt f k n)) (by rw [sLd, if_neg k_6_1, if_neg k_6_2, if_neg k_6_3, if_pos k_6_4]) rfl)) dX0_loudOf_79
  by_cases k_6_5 : fi f k 0 = nI 5
  · refine q_eqi k_6_5 ?_
    refine lv_tableIn (tgt := 80) hx hb dX0_loudOf_6 (by decide) (by decide) rfl (by decide) ?_
    refine lv_iconst (v := nI 0) hx hb dX0_loudOf_80 (by decide) ?_
    exact RO.iret S hr hlk (congrArg Value.int (Eq.trans (b := nI 0) (by rw [sLd, if_neg k_6_1, if_neg k_6_2, if_neg k_6_3, if_neg k_6_4, if_pos k_6_5]) rfl)) dX0_loudOf_81
  by_cases k_6_6 : fi f k 0 = nI 6
  · refine q_eqi k_6_6 ?_
    refine lv_tableIn (tgt := 82) hx hb dX0_loudOf_6 (by decide) (by decide) rfl (by decide) ?_
    refine lv_aload_n hx hb dX0_loudOf_82 rfl (lv_at hl 0 rfl) ?_
    refine g00_age S hK hP dX0_loudOf_83 ?_
    refine lv_iload_n hx hb dX0_loudOf_86 rfl (lv_at hl 1 rfl) ?_
    refine l0_age S hK hP (j := k) (by omega) dX0_loudOf_87 ?_
    refine lv_bipush (v := nI 10) hx hb dX0_loudOf_88 (by decide) ?_
    refine lv_icmp_lt (tgt := 97) hx hb dX0_loudOf_90 (by decide) (fun c_90 => ?_) (fun c_90 => ?_)
    · refine lv_aload_n hx hb dX0_loudOf_97 rfl (lv_at hl 0 rfl) ?_
      refine lv_iload_n hx hb dX0_loudOf_98 rfl (lv_at hl 1 rfl) ?_
      refine RO.callV S kv_X0_70 (c_X0_crackLoud l D cI cJ o f k (by omega)) hK hP rfl ⟨Nat.le_of_ble_eq_true rfl, Nat.le_of_ble_eq_true rfl⟩ hl.1 rfl rfl (Nat.le_of_ble_eq_true rfl) (Nat.zero_le _) (Nat.zero_le _) dX0_loudOf_99 ?_
      exact RO.iret S hr hlk (congrArg Value.int (Eq.trans (b := sCr f k) (by rw [sLd, if_neg k_6_1, if_neg k_6_2, if_neg k_6_3, if_neg k_6_4, if_neg k_6_5, if_pos k_6_6, if_pos c_90]) rfl)) dX0_loudOf_102
    · refine lv_iconst (v := nI 0) hx hb dX0_loudOf_93 (by decide) ?_
      refine lv_goto (tgt := 102) hx hb dX0_loudOf_94 (by decide) ?_
      exact RO.iret S hr hlk (congrArg Value.int (Eq.trans (b := nI 0) (by rw [sLd, if_neg k_6_1, if_neg k_6_2, if_neg k_6_3, if_neg k_6_4, if_neg k_6_5, if_pos k_6_6, if_neg c_90]) rfl)) dX0_loudOf_102
  refine lv_tableOut (tgt := 103) hx hb dX0_loudOf_6 (tsw_out (fun i h1 h2 => by
    rcases (show i = 1 ∨ i = 2 ∨ i = 3 ∨ i = 4 ∨ i = 5 ∨ i = 6 by omega) with rfl | rfl | rfl | rfl | rfl | rfl
    · exact k_6_1
    · exact k_6_2
    · exact k_6_3
    · exact k_6_4
    · exact k_6_5
    · exact k_6_6
    )) (by decide) ?_
  refine lv_aload_n hx hb dX0_loudOf_103 rfl (lv_at hl 0 rfl) ?_
  refine g00_peal S hK hP dX0_loudOf_104 ?_
  refine lv_iload_n hx hb dX0_loudOf_107 rfl (lv_at hl 1 rfl) ?_
  refine l0_peal S hK hP (j := k) (by omega) dX0_loudOf_108 ?_
  exact RO.iret S hr hlk (congrArg Value.int (Eq.trans (b := fi f k 2) (by rw [sLd, if_neg k_6_1, if_neg k_6_2, if_neg k_6_3, if_neg k_6_4, if_neg k_6_5, if_neg k_6_6]) rfl)) dX0_loudOf_109
set_option maxRecDepth 100000 in
set_option maxHeartbeats 4000000 in
theorem c_X0_leaksOf (l : Launch) (D : va_G) (cI cJ : ClassId) (o : Nat → Nat) (f : Nat → Int32) (k : Nat) (hk : k < 8) : RO l yX0_leaksOf cX0_leaksOf 2 (some .int) 0 D cI cJ (PW cI o f) [.ref (o 0), .int (nI k)] (.int (sLk f k)) := by
  refine RO.of (by decide) (Nat.le_of_ble_eq_true rfl) (fun p e s m below meth c ls S hr hlk hK hP hl => ?_)
  obtain ⟨hx, hb, hml, hown, hU⟩ := id S
  have hl : lv_has ls 2 [(0, .ref (o 0)), (1, .int (nI k))] := hl
  refine lv_aload_n hx hb dX0_leaksOf_0 rfl (lv_at hl 0 rfl) ?_
  refine g00_kind S hK hP dX0_leaksOf_1 ?_
  refine lv_iload_n hx hb dX0_leaksOf_4 rfl (lv_at hl 1 rfl) ?_
  refine l0_kind S hK hP (j := k) (by omega) dX0_leaksOf_5 ?_
  by_cases k_6_1 : fi f k 0 = nI 1
  · refine q_eqi k_6_1 ?_
    refine lv_tableIn (tgt := 44) hx hb dX0_leaksOf_6 (by decide) (by decide) rfl (by decide) ?_
    refine lv_iconst (v := nI 3) hx hb dX0_leaksOf_44 (by decide) ?_
    exact RO.iret S hr hlk (congrArg Value.int (by rw [sLk, if_pos k_6_1])) dX0_leaksOf_45
  by_cases k_6_2 : fi f k 0 = nI 2
  · refine q_eqi k_6_2 ?_
    refine lv_tableIn (tgt := 54) hx hb dX0_leaksOf_6 (by decide) (by decide) rfl (by decide) ?_
    refine lv_iconst (v := nI 1) hx hb dX0_leaksOf_54 (by decide) ?_
    exact RO.iret S hr hlk (congrArg Value.int (by rw [sLk, if_neg k_6_1, if_pos k_6_2])) dX0_leaksOf_55
  by_cases k_6_3 : fi f k 0 = nI 3
  · refine q_eqi k_6_3 ?_
    refine lv_tableIn (tgt := 46) hx hb dX0_leaksOf_6 (by decide) (by decide) rfl (by decide) ?_
    refine lv_iconst (v := nI 0) hx hb dX0_leaksOf_46 (by decide) ?_
    exact RO.iret S hr hlk (congrArg Value.int (by rw [sLk, if_neg k_6_1, if_neg k_6_2, if_pos k_6_3])) dX0_leaksOf_47
  by_cases k_6_4 : fi f k 0 = nI 4
  · refine q_eqi k_6_4 ?_
    refine lv_tableIn (tgt := 48) hx hb dX0_leaksOf_6 (by decide) (by decide) rfl (by decide) ?_
    refine lv_iconst (v := nI 0) hx hb dX0_leaksOf_48 (by decide) ?_
    exact RO.iret S hr hlk (congrArg Value.int (by rw [sLk, if_neg k_6_1, if_neg k_6_2, if_neg k_6_3, if_pos k_6_4])) dX0_leaksOf_49
  by_cases k_6_5 : fi f k 0 = nI 5
  · refine q_eqi k_6_5 ?_
    refine lv_tableIn (tgt := 50) hx hb dX0_leaksOf_6 (by decide) (by decide) rfl (by decide) ?_
    refine lv_iconst (v := nI 5) hx hb dX0_leaksOf_50 (by decide) ?_
    exact RO.iret S hr hlk (congrArg Value.int (by rw [sLk, if_neg k_6_1, if_neg k_6_2, if_neg k_6_3, if_neg k_6_4, if_pos k_6_5])) dX0_leaksOf_51
  by_cases k_6_6 : fi f k 0 = nI 6
  · refine q_eqi k_6_6 ?_
    refine lv_tableIn (tgt := 52) hx hb dX0_leaksOf_6 (by decide) (by decide) rfl (by decide) ?_
    refine lv_iconst (v := nI 5) hx hb dX0_leaksOf_52 (by decide) ?_
    exact RO.iret S hr hlk (congrArg Value.int (by rw [sLk, if_neg k_6_1, if_neg k_6_2, if_neg k_6_3, if_neg k_6_4, if_neg k_6_5, if_pos k_6_6])) dX0_leaksOf_53
  refine lv_tableOut (tgt := 54) hx hb dX0_leaksOf_6 (tsw_out (fun i h1 h2 => by
    rcases (show i = 1 ∨ i = 2 ∨ i = 3 ∨ i = 4 ∨ i = 5 ∨ i = 6 by omega) with rfl | rfl | rfl | rfl | rfl | rfl
    · exact k_6_1
    · exact k_6_2
    · exact k_6_3
    · exact k_6_4
    · exact k_6_5
    · exact k_6_6
    )) (by decide) ?_
  refine lv_iconst (v := nI 1) hx hb dX0_leaksOf_54 (by decide) ?_
  exact RO.iret S hr hlk (congrArg Value.int (by rw [sLk, if_neg k_6_1, if_neg k_6_2, if_neg k_6_3, if_neg k_6_4, if_neg k_6_5, if_neg k_6_6])) dX0_leaksOf_55
set_option maxRecDepth 100000 in
set_option maxHeartbeats 4000000 in
theorem c_X0_bearsOf (l : Launch) (D : va_G) (cI cJ : ClassId) (o : Nat → Nat) (f : Nat → Int32) (k : Nat) (n : Nat) (hw : Wk f n) (hk : k < n) : RO l yX0_bearsOf cX0_bearsOf 3 (some .int) 1 D cI cJ (PW cI o f) [.ref (o 0), .int (nI k)] (.int (sBr f k)) := by
  have h8 := hw.2.1
  obtain ⟨h, h6, hh⟩ := hw.2.2 k hk
  refine RO.of (by decide) (Nat.le_of_ble_eq_true rfl) (fun p e s m below meth c ls S hr hlk hK hP hl => ?_)
  obtain ⟨hx, hb, hml, hown, hU⟩ := id S
  have hl : lv_has ls 3 [(0, .ref (o 0)), (1, .int (nI k))] := hl
  refine lv_iconst (v := nI 0) hx hb dX0_bearsOf_0 (by decide) ?_
  refine lv_aload_n hx hb dX0_bearsOf_1 rfl (lv_at hl 0 rfl) ?_
  refine g00_hoops S hK hP dX0_bearsOf_2 ?_
  refine lv_iload_n hx hb dX0_bearsOf_5 rfl (lv_at hl 1 rfl) ?_
  refine l0_hoops S hK hP (j := k) (by omega) dX0_bearsOf_6 ?_
  refine lv_iconst (v := nI 5) hx hb dX0_bearsOf_7 (by decide) ?_
  refine lv_aload_n hx hb dX0_bearsOf_8 rfl (lv_at hl 0 rfl) ?_
  refine g00_frosts S hK hP dX0_bearsOf_9 ?_
  refine lv_aload_n hx hb dX0_bearsOf_12 rfl (lv_at hl 0 rfl) ?_
  refine g00_home S hK hP dX0_bearsOf_13 ?_
  refine lv_iload_n hx hb dX0_bearsOf_16 rfl (lv_at hl 1 rfl) ?_
  refine l0_home S hK hP (j := k) (by omega) dX0_bearsOf_17 ?_
  refine q_eqi (y := nI h) (hh) ?_
  refine l0_frosts S hK hP (j := h) (by omega) dX0_bearsOf_18 ?_
  refine lv_imul hx hb dX0_bearsOf_19 ?_
  refine lv_isub hx hb dX0_bearsOf_20 ?_
  refine q_max hx hb (by rw [hml]; exact hl.1.symm) hown hU mL_X0_80 (Nat.le_of_ble_eq_true rfl) (Nat.le_of_ble_eq_true rfl) (Nat.zero_le _) (Nat.zero_le _) dX0_bearsOf_21 ?_
  refine q_eqi (y := sPl f k) ((sPl_h hh h6).symm) ?_
  refine lv_istore_n (lv' := [(2, .int (sPl f k)), (0, .ref (o 0)), (1, .int (nI k))]) hx hb dX0_bearsOf_24 rfl hl (by decide) rfl (fun ls hl => ?_)
  refine lv_aload_n hx hb dX0_bearsOf_25 rfl (lv_at hl 1 rfl) ?_
  refine g00_kind S hK hP dX0_bearsOf_26 ?_
  refine lv_iload_n hx hb dX0_bearsOf_29 rfl (lv_at hl 2 rfl) ?_
  refine l0_kind S hK hP (j := k) (by omega) dX0_bearsOf_30 ?_
  by_cases k_31_1 : fi f k 0 = nI 1
  · refine q_eqi k_31_1 ?_
    refine lv_tableIn (tgt := 68) hx hb dX0_bearsOf_31 (by decide) (by decide) rfl (by decide) ?_
    refine lv_iload_n hx hb dX0_bearsOf_68 rfl (lv_at hl 0 rfl) ?_
    refine lv_iconst (v := nI 2) hx hb dX0_bearsOf_69 (by decide) ?_
    refine lv_idiv hx hb dX0_bearsOf_70 (by decide) ?_
    exact RO.iret S hr hlk (congrArg Value.int (by rw [sBr, if_pos k_31_1])) dX0_bearsOf_71
  by_cases k_31_2 : fi f k 0 = nI 2
  · refine q_eqi k_31_2 ?_
    refine lv_tableIn (tgt := 72) hx hb dX0_bearsOf_31 (by decide) (by decide) rfl (by decide) ?_
    refine lv_iload_n hx hb dX0_bearsOf_72 rfl (lv_at hl 0 rfl) ?_
    refine lv_bipush (v := nI 10) hx hb dX0_bearsOf_73 (by decide) ?_
    refine lv_iadd hx hb dX0_bearsOf_75 ?_
    exact RO.iret S hr hlk (congrArg Value.int (by rw [sBr, if_neg k_31_1, if_pos k_31_2])) dX0_bearsOf_76
  by_cases k_31_3 : fi f k 0 = nI 3
  · refine q_eqi k_31_3 ?_
    refine lv_tableIn (tgt := 77) hx hb dX0_bearsOf_31 (by decide) (by decide) rfl (by decide) ?_
    refine lv_iload_n hx hb dX0_bearsOf_77 rfl (lv_at hl 0 rfl) ?_
    refine lv_bipush (v := nI 10) hx hb dX0_bearsOf_78 (by decide) ?_
    refine lv_iadd hx hb dX0_bearsOf_80 ?_
    exact RO.iret S hr hlk (congrArg Value.int (by rw [sBr, if_neg k_31_1, if_neg k_31_2, if_pos k_31_3])) dX0_bearsOf_81
  by_cases k_31_4 : fi f k 0 = nI 4
  · refine q_eqi k_31_4 ?_
    refine lv_tableIn (tgt := 82) hx hb dX0_bearsOf_31 (by decide) (by decide) rfl (by decide) ?_
    refine lv_iload_n hx hb dX0_bearsOf_82 rfl (lv_at hl 0 rfl) ?_
    refine lv_bipush (v := nI 10) hx hb dX0_bearsOf_83 (by decide) ?_
    refine lv_iadd hx hb dX0_bearsOf_85 ?_
    exact RO.iret S hr hlk (congrArg Value.int (by rw [sBr, if_neg k_31_1, if_neg k_31_2, if_neg k_31_3, if_pos k_31_4])) dX0_bearsOf_86
  by_cases k_31_5 : fi f k 0 = nI 5
  · refine q_eqi k_31_5 ?_
    refine lv_tableIn (tgt := 91) hx hb dX0_bearsOf_31 (by decide) (by decide) rfl (by decide) ?_
    refine lv_iload_n hx hb dX0_bearsOf_91 rfl (lv_at hl 0 rfl) ?_
    exact RO.iret S hr hlk (congrArg Value.int (by rw [sBr, if_neg k_31_1, if_neg k_31_2, if_neg k_31_3, if_neg k_31_4, if_pos k_31_5])) dX0_bearsOf_92
  by_cases k_31_6 : fi f k 0 = nI 6
  · refine q_eqi k_31_6 ?_
    refine lv_tableIn (tgt := 87) hx hb dX0_bearsOf_31 (by decide) (by decide) rfl (by decide) ?_
    refine lv_iload_n hx hb dX0_bearsOf_87 rfl (lv_at hl 0 rfl) ?_
    refine lv_iconst (v := nI 2) hx hb dX0_bearsOf_88 (by decide) ?_
    refine lv_idiv hx hb dX0_bearsOf_89 (by decide) ?_
    exact RO.iret S hr hlk (congrArg Value.int (by rw [sBr, if_neg k_31_1, if_neg k_31_2, if_neg k_31_3, if_neg k_31_4, if_neg k_31_5, if_pos k_31_6])) dX0_bearsOf_90
  refine lv_tableOut (tgt := 91) hx hb dX0_bearsOf_31 (tsw_out (fun i h1 h2 => by
    rcases (show i = 1 ∨ i = 2 ∨ i = 3 ∨ i = 4 ∨ i = 5 ∨ i = 6 by omega) with rfl | rfl | rfl | rfl | rfl | rfl
    · exact k_31_1
    · exact k_31_2
    · exact k_31_3
    · exact k_31_4
    · exact k_31_5
    · exact k_31_6
    )) (by decide) ?_
  refine lv_iload_n hx hb dX0_bearsOf_91 rfl (lv_at hl 0 rfl) ?_
  exact RO.iret S hr hlk (congrArg Value.int (by rw [sBr, if_neg k_31_1, if_neg k_31_2, if_neg k_31_3, if_neg k_31_4, if_neg k_31_5, if_neg k_31_6])) dX0_bearsOf_92
set_option maxRecDepth 100000 in
set_option maxHeartbeats 4000000 in
theorem c_X0_allCasks (l : Launch) (D : va_G) (cI cJ : ClassId) (o : Nat → Nat) (f : Nat → Int32) (n : Nat) (hw : Wk f n) : RO l yX0_allCasks cX0_allCasks 1 (some .int) 0 D cI cJ (PW cI o f) [.ref (o 0)] (.int (nI (2 ^ n - 1))) := by
  have h8 := hw.2.1
  have hp : 1 ≤ 2 ^ n := Nat.one_le_two_pow
  have hp2 : 2 ^ n ≤ 256 := Nat.pow_le_pow_right (n := 2) (by decide) h8
  refine RO.of (by decide) (Nat.le_of_ble_eq_true rfl) (fun p e s m below meth c ls S hr hlk hK hP hl => ?_)
  obtain ⟨hx, hb, hml, hown, hU⟩ := id S
  have hl : lv_has ls 1 [(0, .ref (o 0))] := hl
  refine lv_iconst (v := nI 1) hx hb dX0_allCasks_0 (by decide) ?_
  refine lv_aload_n hx hb dX0_allCasks_1 rfl (lv_at hl 0 rfl) ?_
  refine g00_casks S hK hP dX0_allCasks_2 ?_
  refine q_eqi (y := nI n) (hw.1) ?_
  refine lv_ishl hx hb dX0_allCasks_5 ?_
  refine q_eqi (y := nI (2 ^ n)) (nI_shl1 _ (by omega)) ?_
  refine lv_iconst (v := nI 1) hx hb dX0_allCasks_6 (by decide) ?_
  refine q_isubN (a := 2 ^ n) (b := 1) hx hb dX0_allCasks_7 (by omega) ?_
  exact RO.iret S hr hlk rfl dX0_allCasks_8
set_option maxRecDepth 100000 in
set_option maxHeartbeats 4000000 in
theorem c_X0_setIn (l : Launch) (D : va_G) (cI cJ : ClassId) (o : Nat → Nat) (f : Nat → Int32) (x : Int32) (n : Nat) (hw : Wk f n) : RO l yX0_setIn cX0_setIn 4 (some .int) 0 D cI cJ (PW cI o f) [.ref (o 0), .int x] (.int (nI (sTh f x n))) := by
  have h8 := hw.2.1
  refine RO.of (by decide) (Nat.le_of_ble_eq_true rfl) (fun p e s m below meth c ls S hr hlk hK hP hl => ?_)
  obtain ⟨hx, hb, hml, hown, hU⟩ := id S
  have hl : lv_has ls 4 [(0, .ref (o 0)), (1, .int x)] := hl
  refine lv_iconst (v := nI 0) hx hb dX0_setIn_0 (by decide) ?_
  refine lv_istore_n (lv' := [(2, .int (nI 0)), (0, .ref (o 0)), (1, .int x)]) hx hb dX0_setIn_1 rfl hl (by decide) rfl (fun ls hl => ?_)
  refine lv_iconst (v := nI 0) hx hb dX0_setIn_2 (by decide) ?_
  refine lv_istore_n (lv' := [(3, .int (nI 0)), (2, .int (nI 0)), (0, .ref (o 0)), (1, .int x)]) hx hb dX0_setIn_3 rfl hl (by decide) rfl (fun ls hl => ?_)
  have L_4 : ∀ (n9 : Nat) (j : Nat) (ls : Array Slot), n - j < n9 → j ≤ n → lv_has ls 4 [(0, .ref (o 0)), (1, .int x), (2, .int (nI (sTh f x j))), (3, .int (nI j))] → W p l e (rmd 0) s m ([.ref (o 0), .int x] : List Value).toArray below meth c s.heap [] 0 0 (ZR below ([.ref (o 0), .int x] : List Value).toArray s (.int (nI (sTh f x n)))) (F0 m 4 ls []) := by
    intro n9
    induction n9 with
    | zero => intro j ls hm; exact absurd hm (Nat.not_lt_zero _)
    | succ n9 ih_4 =>
      intro j ls hm hj hl
      have lt := sTh_lt (f := f) (c := x) (j := j) (by omega)
      have l31 : sTh f x j < 2147483648 := Nat.lt_of_lt_of_le lt (Nat.le_trans (Nat.pow_le_pow_right (n := 2) (by decide) (show j ≤ 8 by omega)) (by decide))
      have p31 : 2 ^ j < 2147483648 := Nat.lt_of_le_of_lt (Nat.pow_le_pow_right (n := 2) (by decide) (show j ≤ 8 by omega)) (by decide)
      refine lv_iload_n hx hb dX0_setIn_4 rfl (lv_at hl 3 rfl) ?_
      refine lv_aload_n hx hb dX0_setIn_5 rfl (lv_at hl 0 rfl) ?_
      refine g00_casks S hK hP dX0_setIn_6 ?_
      refine q_eqi (y := nI n) (hw.1) ?_
      refine q_icmp_geN (tgt := 34) (a := j) (b := n) hx hb dX0_setIn_9 (by decide) (by omega) (by omega) (fun c_9 => ?_) (fun c_9 => ?_)
      · refine lv_iload_n hx hb dX0_setIn_34 rfl (lv_at hl 2 rfl) ?_
        exact RO.iret S hr hlk (congrArg Value.int (by rw [show j = n by omega])) dX0_setIn_35
      · refine lv_aload_n hx hb dX0_setIn_12 rfl (lv_at hl 0 rfl) ?_
        refine g00_home S hK hP dX0_setIn_13 ?_
        refine lv_iload_n hx hb dX0_setIn_16 rfl (lv_at hl 3 rfl) ?_
        refine l0_home S hK hP (j := j) (by omega) dX0_setIn_17 ?_
        refine lv_iload_n hx hb dX0_setIn_18 rfl (lv_at hl 1 rfl) ?_
        refine lv_icmp_ne (tgt := 28) hx hb dX0_setIn_19 (by decide) (fun c_19 => ?_) (fun c_19 => ?_)
        · refine lv_iinc (v := nI (j + 1)) (lv' := [(3, .int (nI (j + 1))), (0, .ref (o 0)), (1, .int x), (2, .int (nI (sTh f x j)))]) hx hb dX0_setIn_28 hl (k := 3) rfl (q_inc _) (by decide) rfl (fun ls hl => ?_)
          refine lv_goto (tgt := 4) hx hb dX0_setIn_31 (by decide) ?_
          exact ih_4 (j + 1) ls (by omega) (by omega) (by rw [show nI (sTh f x (j + 1)) = nI (sTh f x j) from by rw [sTh, if_neg c_19]]; exact lv_sub hl [1, 2, 3, 0] rfl)
        · refine lv_iload_n hx hb dX0_setIn_22 rfl (lv_at hl 2 rfl) ?_
          refine lv_iconst (v := nI 1) hx hb dX0_setIn_23 (by decide) ?_
          refine lv_iload_n hx hb dX0_setIn_24 rfl (lv_at hl 3 rfl) ?_
          refine lv_ishl hx hb dX0_setIn_25 ?_
          refine q_eqi (y := nI (2 ^ j)) (nI_shl1 _ (by omega)) ?_
          refine lv_ior hx hb dX0_setIn_26 ?_
          refine q_eqi (y := nI (sTh f x j ||| 2 ^ j)) (nI_or l31 p31) ?_
          refine lv_istore_n (lv' := [(2, .int (nI (sTh f x j ||| 2 ^ j))), (0, .ref (o 0)), (1, .int x), (3, .int (nI j))]) hx hb dX0_setIn_27 rfl hl (by decide) rfl (fun ls hl => ?_)
          refine lv_iinc (v := nI (j + 1)) (lv' := [(3, .int (nI (j + 1))), (2, .int (nI (sTh f x j ||| 2 ^ j))), (0, .ref (o 0)), (1, .int x)]) hx hb dX0_setIn_28 hl (k := 3) rfl (q_inc _) (by decide) rfl (fun ls hl => ?_)
          refine lv_goto (tgt := 4) hx hb dX0_setIn_31 (by decide) ?_
          exact ih_4 (j + 1) ls (by omega) (by omega) (by rw [show nI (sTh f x (j + 1)) = nI (sTh f x j ||| 2 ^ j) from by rw [sTh, if_pos c_19]]; exact lv_sub hl [2, 3, 1, 0] rfl)
  exact L_4 ((n - 0) + 1) 0 ls (Nat.lt_succ_self _) (Nat.zero_le n) (lv_sub hl [2, 3, 1, 0] rfl)
set_option maxRecDepth 100000 in
set_option maxHeartbeats 4000000 in
theorem c_X0_catcherIn (l : Launch) (D : va_G) (cI cJ : ClassId) (o : Nat → Nat) (f : Nat → Int32) (x : Int32) (n : Nat) (hw : Wk f n) : RO l yX0_catcherIn cX0_catcherIn 4 (some .int) 0 D cI cJ (PW cI o f) [.ref (o 0), .int x] (.int (oI (sEm f x n))) := by
  have h8 := hw.2.1
  refine RO.of (by decide) (Nat.le_of_ble_eq_true rfl) (fun p e s m below meth c ls S hr hlk hK hP hl => ?_)
  obtain ⟨hx, hb, hml, hown, hU⟩ := id S
  have hl : lv_has ls 4 [(0, .ref (o 0)), (1, .int x)] := hl
  refine lv_iconst (v := (-1)) hx hb dX0_catcherIn_0 (by decide) ?_
  refine lv_istore_n (lv' := [(2, .int (-1)), (0, .ref (o 0)), (1, .int x)]) hx hb dX0_catcherIn_1 rfl hl (by decide) rfl (fun ls hl => ?_)
  refine lv_iconst (v := nI 0) hx hb dX0_catcherIn_2 (by decide) ?_
  refine lv_istore_n (lv' := [(3, .int (nI 0)), (2, .int (-1)), (0, .ref (o 0)), (1, .int x)]) hx hb dX0_catcherIn_3 rfl hl (by decide) rfl (fun ls hl => ?_)
  have L_4 : ∀ (n9 : Nat) (j : Nat) (ls : Array Slot), n - j < n9 → j ≤ n → lv_has ls 4 [(0, .ref (o 0)), (1, .int x), (2, .int (oI (sEm f x j))), (3, .int (nI j))] → W p l e (rmd 0) s m ([.ref (o 0), .int x] : List Value).toArray below meth c s.heap [] 0 0 (ZR below ([.ref (o 0), .int x] : List Value).toArray s (.int (oI (sEm f x n)))) (F0 m 4 ls []) := by
    intro n9
    induction n9 with
    | zero => intro j ls hm; exact absurd hm (Nat.not_lt_zero _)
    | succ n9 ih_4 =>
      intro j ls hm hj hl
      cases hE : sEm f x j with
      | none =>
        have hl : lv_has ls 4 [(0, .ref (o 0)), (1, .int x), (2, .int (-1)), (3, .int (nI j))] := by rw [hE] at hl; exact hl
        refine lv_iload_n hx hb dX0_catcherIn_4 rfl (lv_at hl 3 rfl) ?_
        refine lv_aload_n hx hb dX0_catcherIn_5 rfl (lv_at hl 0 rfl) ?_
        refine g00_casks S hK hP dX0_catcherIn_6 ?_
        refine q_eqi (y := nI n) (hw.1) ?_
        refine q_icmp_geN (tgt := 49) (a := j) (b := n) hx hb dX0_catcherIn_9 (by decide) (by omega) (by omega) (fun c_9 => ?_) (fun c_9 => ?_)
        · refine lv_iload_n hx hb dX0_catcherIn_49 rfl (lv_at hl 2 rfl) ?_
          exact RO.iret S hr hlk (congrArg Value.int (by rw [← show j = n by omega, hE]; rfl)) dX0_catcherIn_50
        · refine lv_aload_n hx hb dX0_catcherIn_12 rfl (lv_at hl 0 rfl) ?_
          refine g00_home S hK hP dX0_catcherIn_13 ?_
          refine lv_iload_n hx hb dX0_catcherIn_16 rfl (lv_at hl 3 rfl) ?_
          refine l0_home S hK hP (j := j) (by omega) dX0_catcherIn_17 ?_
          refine lv_iload_n hx hb dX0_catcherIn_18 rfl (lv_at hl 1 rfl) ?_
          refine lv_icmp_ne (tgt := 43) hx hb dX0_catcherIn_19 (by decide) (fun c_19 => ?_) (fun c_19 => ?_)
          · refine lv_iinc (v := nI (j + 1)) (lv' := [(3, .int (nI (j + 1))), (0, .ref (o 0)), (1, .int x), (2, .int (-1))]) hx hb dX0_catcherIn_43 hl (k := 3) rfl (q_inc _) (by decide) rfl (fun ls hl => ?_)
            refine lv_goto (tgt := 4) hx hb dX0_catcherIn_46 (by decide) ?_
            exact ih_4 (j + 1) ls (by omega) (by omega) (by rw [show oI (sEm f x (j + 1)) = (-1) from by rw [sEm_n0 hE c_19]; rfl]; exact lv_sub hl [1, 2, 3, 0] rfl)
          · refine lv_iload_n hx hb dX0_catcherIn_22 rfl (lv_at hl 2 rfl) ?_
            refine lv_if_lt (tgt := 41) hx hb dX0_catcherIn_23 (by decide) (fun _ => ?_) (fun h => absurd (by decide) h)
            refine lv_iload_n hx hb dX0_catcherIn_41 rfl (lv_at hl 3 rfl) ?_
            refine lv_istore_n (lv' := [(2, .int (nI j)), (0, .ref (o 0)), (1, .int x), (3, .int (nI j))]) hx hb dX0_catcherIn_42 rfl hl (by decide) rfl (fun ls hl => ?_)
            refine lv_iinc (v := nI (j + 1)) (lv' := [(3, .int (nI (j + 1))), (2, .int (nI j)), (0, .ref (o 0)), (1, .int x)]) hx hb dX0_catcherIn_43 hl (k := 3) rfl (q_inc _) (by decide) rfl (fun ls hl => ?_)
            refine lv_goto (tgt := 4) hx hb dX0_catcherIn_46 (by decide) ?_
            exact ih_4 (j + 1) ls (by omega) (by omega) (by rw [show oI (sEm f x (j + 1)) = nI j from by rw [sEm_n1 hE c_19]; rfl]; exact lv_sub hl [2, 3, 1, 0] rfl)
      | some b =>
        have hl : lv_has ls 4 [(0, .ref (o 0)), (1, .int x), (2, .int (nI b)), (3, .int (nI j))] := by rw [hE] at hl; exact hl
        have hbj := sEm_lt hE
        refine lv_iload_n hx hb dX0_catcherIn_4 rfl (lv_at hl 3 rfl) ?_
        refine lv_aload_n hx hb dX0_catcherIn_5 rfl (lv_at hl 0 rfl) ?_
        refine g00_casks S hK hP dX0_catcherIn_6 ?_
        refine q_eqi (y := nI n) (hw.1) ?_
        refine q_icmp_geN (tgt := 49) (a := j) (b := n) hx hb dX0_catcherIn_9 (by decide) (by omega) (by omega) (fun c_9 => ?_) (fun c_9 => ?_)
        · refine lv_iload_n hx hb dX0_catcherIn_49 rfl (lv_at hl 2 rfl) ?_
          exact RO.iret S hr hlk (congrArg Value.int (by rw [← show j = n by omega, hE]; rfl)) dX0_catcherIn_50
        · refine lv_aload_n hx hb dX0_catcherIn_12 rfl (lv_at hl 0 rfl) ?_
          refine g00_home S hK hP dX0_catcherIn_13 ?_
          refine lv_iload_n hx hb dX0_catcherIn_16 rfl (lv_at hl 3 rfl) ?_
          refine l0_home S hK hP (j := j) (by omega) dX0_catcherIn_17 ?_
          refine lv_iload_n hx hb dX0_catcherIn_18 rfl (lv_at hl 1 rfl) ?_
          refine lv_icmp_ne (tgt := 43) hx hb dX0_catcherIn_19 (by decide) (fun c_19 => ?_) (fun c_19 => ?_)
          · refine lv_iinc (v := nI (j + 1)) (lv' := [(3, .int (nI (j + 1))), (0, .ref (o 0)), (1, .int x), (2, .int (nI b))]) hx hb dX0_catcherIn_43 hl (k := 3) rfl (q_inc _) (by decide) rfl (fun ls hl => ?_)
            refine lv_goto (tgt := 4) hx hb dX0_catcherIn_46 (by decide) ?_
            exact ih_4 (j + 1) ls (by omega) (by omega) (by rw [show oI (sEm f x (j + 1)) = nI b from by rw [sEm_s0 hE (fun q => c_19 q.1)]; rfl]; exact lv_sub hl [1, 2, 3, 0] rfl)
          · refine lv_iload_n hx hb dX0_catcherIn_22 rfl (lv_at hl 2 rfl) ?_
            refine q_if_ltN (tgt := 41) (a := b) hx hb dX0_catcherIn_23 (by decide) (by omega) ?_
            refine lv_aload_n hx hb dX0_catcherIn_26 rfl (lv_at hl 0 rfl) ?_
            refine g00_peal S hK hP dX0_catcherIn_27 ?_
            refine lv_iload_n hx hb dX0_catcherIn_30 rfl (lv_at hl 3 rfl) ?_
            refine l0_peal S hK hP (j := j) (by omega) dX0_catcherIn_31 ?_
            refine lv_aload_n hx hb dX0_catcherIn_32 rfl (lv_at hl 0 rfl) ?_
            refine g00_peal S hK hP dX0_catcherIn_33 ?_
            refine lv_iload_n hx hb dX0_catcherIn_36 rfl (lv_at hl 2 rfl) ?_
            refine l0_peal S hK hP (j := b) (by omega) dX0_catcherIn_37 ?_
            refine lv_icmp_ge (tgt := 43) hx hb dX0_catcherIn_38 (by decide) (fun c_38 => ?_) (fun c_38 => ?_)
            · refine lv_iinc (v := nI (j + 1)) (lv' := [(3, .int (nI (j + 1))), (0, .ref (o 0)), (1, .int x), (2, .int (nI b))]) hx hb dX0_catcherIn_43 hl (k := 3) rfl (q_inc _) (by decide) rfl (fun ls hl => ?_)
              refine lv_goto (tgt := 4) hx hb dX0_catcherIn_46 (by decide) ?_
              exact ih_4 (j + 1) ls (by omega) (by omega) (by rw [show oI (sEm f x (j + 1)) = nI b from by rw [sEm_s0 hE (fun q => i32_not_le_of_lt q.2 c_38)]; rfl]; exact lv_sub hl [1, 2, 3, 0] rfl)
            · refine lv_iload_n hx hb dX0_catcherIn_41 rfl (lv_at hl 3 rfl) ?_
              refine lv_istore_n (lv' := [(2, .int (nI j)), (0, .ref (o 0)), (1, .int x), (3, .int (nI j))]) hx hb dX0_catcherIn_42 rfl hl (by decide) rfl (fun ls hl => ?_)
              refine lv_iinc (v := nI (j + 1)) (lv' := [(3, .int (nI (j + 1))), (2, .int (nI j)), (0, .ref (o 0)), (1, .int x)]) hx hb dX0_catcherIn_43 hl (k := 3) rfl (q_inc _) (by decide) rfl (fun ls hl => ?_)
              refine lv_goto (tgt := 4) hx hb dX0_catcherIn_46 (by decide) ?_
              exact ih_4 (j + 1) ls (by omega) (by omega) (by rw [show oI (sEm f x (j + 1)) = nI j from by rw [sEm_s1 hE c_19 (i32_lt_of_not_le c_38)]; rfl]; exact lv_sub hl [2, 3, 1, 0] rfl)
  exact L_4 ((n - 0) + 1) 0 ls (Nat.lt_succ_self _) (Nat.zero_le n) (by rw [show oI (sEm f x 0) = (-1) from rfl]; exact lv_sub hl [2, 3, 1, 0] rfl)
set_option maxRecDepth 100000 in
set_option maxHeartbeats 4000000 in
theorem c_X0_marksOf_0 (l : Launch) (D : va_G) (cI cJ : ClassId) (o : Nat → Nat) (f : Nat → Int32) : RO l yX0_marksOf cX0_marksOf 2 (some (.array .int)) 0 D cI cJ (PW cI o f) [.ref (o 0), .int (nI 0)] (.ref (o 3)) := by
  refine RO.of (by decide) (Nat.le_of_ble_eq_true rfl) (fun p e s m below meth c ls S hr hlk hK hP hl => ?_)
  obtain ⟨hx, hb, hml, hown, hU⟩ := id S
  have hl : lv_has ls 2 [(0, .ref (o 0)), (1, .int (nI 0))] := hl
  refine lv_iload_n hx hb dX0_marksOf_0 rfl (lv_at hl 1 rfl) ?_
  refine lv_tableIn (tgt := 40) hx hb dX0_marksOf_1 (by decide) (by decide) rfl (by decide) ?_
  refine lv_aload_n hx hb dX0_marksOf_40 rfl (lv_at hl 0 rfl) ?_
  refine g00_kind S hK hP dX0_marksOf_41 ?_
  exact RO.aret S hr (Or.inr ⟨_, rfl⟩) hlk (rfl) dX0_marksOf_44
set_option maxRecDepth 100000 in
set_option maxHeartbeats 4000000 in
theorem c_X0_marksOf_1 (l : Launch) (D : va_G) (cI cJ : ClassId) (o : Nat → Nat) (f : Nat → Int32) : RO l yX0_marksOf cX0_marksOf 2 (some (.array .int)) 0 D cI cJ (PW cI o f) [.ref (o 0), .int (nI 1)] (.ref (o 4)) := by
  refine RO.of (by decide) (Nat.le_of_ble_eq_true rfl) (fun p e s m below meth c ls S hr hlk hK hP hl => ?_)
  obtain ⟨hx, hb, hml, hown, hU⟩ := id S
  have hl : lv_has ls 2 [(0, .ref (o 0)), (1, .int (nI 1))] := hl
  refine lv_iload_n hx hb dX0_marksOf_0 rfl (lv_at hl 1 rfl) ?_
  refine lv_tableIn (tgt := 45) hx hb dX0_marksOf_1 (by decide) (by decide) rfl (by decide) ?_
  refine lv_aload_n hx hb dX0_marksOf_45 rfl (lv_at hl 0 rfl) ?_
  refine g00_home S hK hP dX0_marksOf_46 ?_
  exact RO.aret S hr (Or.inr ⟨_, rfl⟩) hlk (rfl) dX0_marksOf_49
set_option maxRecDepth 100000 in
set_option maxHeartbeats 4000000 in
theorem c_X0_marksOf_2 (l : Launch) (D : va_G) (cI cJ : ClassId) (o : Nat → Nat) (f : Nat → Int32) : RO l yX0_marksOf cX0_marksOf 2 (some (.array .int)) 0 D cI cJ (PW cI o f) [.ref (o 0), .int (nI 2)] (.ref (o 5)) := by
  refine RO.of (by decide) (Nat.le_of_ble_eq_true rfl) (fun p e s m below meth c ls S hr hlk hK hP hl => ?_)
  obtain ⟨hx, hb, hml, hown, hU⟩ := id S
  have hl : lv_has ls 2 [(0, .ref (o 0)), (1, .int (nI 2))] := hl
  refine lv_iload_n hx hb dX0_marksOf_0 rfl (lv_at hl 1 rfl) ?_
  refine lv_tableIn (tgt := 50) hx hb dX0_marksOf_1 (by decide) (by decide) rfl (by decide) ?_
  refine lv_aload_n hx hb dX0_marksOf_50 rfl (lv_at hl 0 rfl) ?_
  refine g00_peal S hK hP dX0_marksOf_51 ?_
  exact RO.aret S hr (Or.inr ⟨_, rfl⟩) hlk (rfl) dX0_marksOf_54
set_option maxRecDepth 100000 in
set_option maxHeartbeats 4000000 in
theorem c_X0_marksOf_3 (l : Launch) (D : va_G) (cI cJ : ClassId) (o : Nat → Nat) (f : Nat → Int32) : RO l yX0_marksOf cX0_marksOf 2 (some (.array .int)) 0 D cI cJ (PW cI o f) [.ref (o 0), .int (nI 3)] (.ref (o 6)) := by
  refine RO.of (by decide) (Nat.le_of_ble_eq_true rfl) (fun p e s m below meth c ls S hr hlk hK hP hl => ?_)
  obtain ⟨hx, hb, hml, hown, hU⟩ := id S
  have hl : lv_has ls 2 [(0, .ref (o 0)), (1, .int (nI 3))] := hl
  refine lv_iload_n hx hb dX0_marksOf_0 rfl (lv_at hl 1 rfl) ?_
  refine lv_tableIn (tgt := 55) hx hb dX0_marksOf_1 (by decide) (by decide) rfl (by decide) ?_
  refine lv_aload_n hx hb dX0_marksOf_55 rfl (lv_at hl 0 rfl) ?_
  refine g00_pitch S hK hP dX0_marksOf_56 ?_
  exact RO.aret S hr (Or.inr ⟨_, rfl⟩) hlk (rfl) dX0_marksOf_59
set_option maxRecDepth 100000 in
set_option maxHeartbeats 4000000 in
theorem c_X0_marksOf_4 (l : Launch) (D : va_G) (cI cJ : ClassId) (o : Nat → Nat) (f : Nat → Int32) : RO l yX0_marksOf cX0_marksOf 2 (some (.array .int)) 0 D cI cJ (PW cI o f) [.ref (o 0), .int (nI 4)] (.ref (o 7)) := by
  refine RO.of (by decide) (Nat.le_of_ble_eq_true rfl) (fun p e s m below meth c ls S hr hlk hK hP hl => ?_)
  obtain ⟨hx, hb, hml, hown, hU⟩ := id S
  have hl : lv_has ls 2 [(0, .ref (o 0)), (1, .int (nI 4))] := hl
  refine lv_iload_n hx hb dX0_marksOf_0 rfl (lv_at hl 1 rfl) ?_
  refine lv_tableIn (tgt := 60) hx hb dX0_marksOf_1 (by decide) (by decide) rfl (by decide) ?_
  refine lv_aload_n hx hb dX0_marksOf_60 rfl (lv_at hl 0 rfl) ?_
  refine g00_hoops S hK hP dX0_marksOf_61 ?_
  exact RO.aret S hr (Or.inr ⟨_, rfl⟩) hlk (rfl) dX0_marksOf_64
set_option maxRecDepth 100000 in
set_option maxHeartbeats 4000000 in
theorem c_X0_marksOf_5 (l : Launch) (D : va_G) (cI cJ : ClassId) (o : Nat → Nat) (f : Nat → Int32) : RO l yX0_marksOf cX0_marksOf 2 (some (.array .int)) 0 D cI cJ (PW cI o f) [.ref (o 0), .int (nI 5)] (.ref (o 8)) := by
  refine RO.of (by decide) (Nat.le_of_ble_eq_true rfl) (fun p e s m below meth c ls S hr hlk hK hP hl => ?_)
  obtain ⟨hx, hb, hml, hown, hU⟩ := id S
  have hl : lv_has ls 2 [(0, .ref (o 0)), (1, .int (nI 5))] := hl
  refine lv_iload_n hx hb dX0_marksOf_0 rfl (lv_at hl 1 rfl) ?_
  refine lv_tableIn (tgt := 65) hx hb dX0_marksOf_1 (by decide) (by decide) rfl (by decide) ?_
  refine lv_aload_n hx hb dX0_marksOf_65 rfl (lv_at hl 0 rfl) ?_
  refine g00_age S hK hP dX0_marksOf_66 ?_
  exact RO.aret S hr (Or.inr ⟨_, rfl⟩) hlk (rfl) dX0_marksOf_69
set_option maxRecDepth 100000 in
set_option maxHeartbeats 4000000 in
theorem c_X0_marksOf_6 (l : Launch) (D : va_G) (cI cJ : ClassId) (o : Nat → Nat) (f : Nat → Int32) : RO l yX0_marksOf cX0_marksOf 2 (some (.array .int)) 0 D cI cJ (PW cI o f) [.ref (o 0), .int (nI 6)] (.ref (o 9)) := by
  refine RO.of (by decide) (Nat.le_of_ble_eq_true rfl) (fun p e s m below meth c ls S hr hlk hK hP hl => ?_)
  obtain ⟨hx, hb, hml, hown, hU⟩ := id S
  have hl : lv_has ls 2 [(0, .ref (o 0)), (1, .int (nI 6))] := hl
  refine lv_iload_n hx hb dX0_marksOf_0 rfl (lv_at hl 1 rfl) ?_
  refine lv_tableOut (tgt := 70) hx hb dX0_marksOf_1 (Or.inr (by decide)) (by decide) ?_
  refine lv_aload_n hx hb dX0_marksOf_70 rfl (lv_at hl 0 rfl) ?_
  refine g00_burst S hK hP dX0_marksOf_71 ?_
  exact RO.aret S hr (Or.inr ⟨_, rfl⟩) hlk (rfl) dX0_marksOf_74
set_option maxRecDepth 100000 in
set_option maxHeartbeats 4000000 in
theorem c_X0_makeEmpty (l : Launch) (D : va_G) (cI cJ : ClassId) (o : Nat → Nat) (f : Nat → Int32) (k : Nat) (hk : k < 8) : WR l yX0_makeEmpty cX0_makeEmpty 2 none 0 D cI cJ (PW cI o f) [.ref (o 0), .int (nI k)] (none) (PW cI o (sEy f k)) := by
  refine WR.of (by decide) (Nat.le_of_ble_eq_true rfl) (fun p e s m below meth c ls A S hr hlk hK hP hD hS hA hl => ?_)
  obtain ⟨hx, hb, hml, hown, hU⟩ := id S
  have hl : lv_has ls 2 [(0, .ref (o 0)), (1, .int (nI k))] := hl
  refine lv_aload_n hx hb dX0_makeEmpty_0 rfl (lv_at hl 0 rfl) ?_
  refine g00_peal S hK hP dX0_makeEmpty_1 ?_
  refine lv_iload_n hx hb dX0_makeEmpty_4 rfl (lv_at hl 1 rfl) ?_
  refine lv_iconst (v := nI 0) hx hb dX0_makeEmpty_5 (by decide) ?_
  refine s0_peal S hK hP hD hS (j := k) (by omega) dX0_makeEmpty_6 (fun H locs hP hD hS => ?_)
  refine lv_aload_n hx hb dX0_makeEmpty_7 rfl (lv_at hl 0 rfl) ?_
  refine g00_age S hK hP dX0_makeEmpty_8 ?_
  refine lv_iload_n hx hb dX0_makeEmpty_11 rfl (lv_at hl 1 rfl) ?_
  refine lv_iconst (v := nI 0) hx hb dX0_makeEmpty_12 (by decide) ?_
  refine s0_age S hK hP hD hS (j := k) (by omega) dX0_makeEmpty_13 (fun H locs hP hD hS => ?_)
  exact WR.vret S hr hlk hP hS (rfl) dX0_makeEmpty_14
set_option maxRecDepth 100000 in
set_option maxHeartbeats 4000000 in
theorem c_X0_addCask (l : Launch) (D : va_G) (cI cJ : ClassId) (o : Nat → Nat) (f : Nat → Int32) (x : Int32) (y : Int32) (n : Nat) (hw : f 0 = nI n) (h8 : n < 8) : WR l yX0_addCask cX0_addCask 4 (some .int) 0 D cI cJ (PW cI o f) [.ref (o 0), .int x, .int y] (some (.int (nI n))) (PW cI o (sAd f n x y)) := by
  refine WR.of (by decide) (Nat.le_of_ble_eq_true rfl) (fun p e s m below meth c ls A S hr hlk hK hP hD hS hA hl => ?_)
  obtain ⟨hx, hb, hml, hown, hU⟩ := id S
  have hl : lv_has ls 4 [(0, .ref (o 0)), (1, .int x), (2, .int y)] := hl
  refine lv_aload_n hx hb dX0_addCask_0 rfl (lv_at hl 0 rfl) ?_
  refine g00_casks S hK hP dX0_addCask_1 ?_
  refine q_eqi (y := nI n) (hw) ?_
  refine lv_istore_n (lv' := [(3, .int (nI n)), (0, .ref (o 0)), (1, .int x), (2, .int y)]) hx hb dX0_addCask_4 rfl hl (by decide) rfl (fun ls hl => ?_)
  refine lv_aload_n hx hb dX0_addCask_5 rfl (lv_at hl 1 rfl) ?_
  refine lv_dup hx hb dX0_addCask_6 rfl ?_
  refine g00_casks S hK hP dX0_addCask_7 ?_
  refine q_eqi (y := nI n) (hw) ?_
  refine lv_iconst (v := nI 1) hx hb dX0_addCask_10 (by decide) ?_
  refine q_iaddN (a := n) (b := 1) hx hb dX0_addCask_11 ?_
  refine p0_casks S hK hP hD hS dX0_addCask_12 (fun H locs hP hD hS => ?_)
  refine lv_aload_n hx hb dX0_addCask_15 rfl (lv_at hl 1 rfl) ?_
  refine g00_kind S hK hP dX0_addCask_16 ?_
  refine lv_iload_n hx hb dX0_addCask_19 rfl (lv_at hl 0 rfl) ?_
  refine lv_iload_n hx hb dX0_addCask_20 rfl (lv_at hl 2 rfl) ?_
  refine s0_kind S hK hP hD hS (j := n) (by omega) dX0_addCask_21 (fun H locs hP hD hS => ?_)
  refine lv_aload_n hx hb dX0_addCask_22 rfl (lv_at hl 1 rfl) ?_
  refine g00_home S hK hP dX0_addCask_23 ?_
  refine lv_iload_n hx hb dX0_addCask_26 rfl (lv_at hl 0 rfl) ?_
  refine lv_iload_n hx hb dX0_addCask_27 rfl (lv_at hl 3 rfl) ?_
  refine s0_home S hK hP hD hS (j := n) (by omega) dX0_addCask_28 (fun H locs hP hD hS => ?_)
  refine lv_aload_n hx hb dX0_addCask_29 rfl (lv_at hl 1 rfl) ?_
  refine g00_peal S hK hP dX0_addCask_30 ?_
  refine lv_iload_n hx hb dX0_addCask_33 rfl (lv_at hl 0 rfl) ?_
  refine lv_iconst (v := nI 0) hx hb dX0_addCask_34 (by decide) ?_
  refine s0_peal S hK hP hD hS (j := n) (by omega) dX0_addCask_35 (fun H locs hP hD hS => ?_)
  refine lv_aload_n hx hb dX0_addCask_36 rfl (lv_at hl 1 rfl) ?_
  refine g00_pitch S hK hP dX0_addCask_37 ?_
  refine lv_iload_n hx hb dX0_addCask_40 rfl (lv_at hl 0 rfl) ?_
  refine lv_iconst (v := nI 0) hx hb dX0_addCask_41 (by decide) ?_
  refine s0_pitch S hK hP hD hS (j := n) (by omega) dX0_addCask_42 (fun H locs hP hD hS => ?_)
  refine lv_aload_n hx hb dX0_addCask_43 rfl (lv_at hl 1 rfl) ?_
  refine g00_hoops S hK hP dX0_addCask_44 ?_
  refine lv_iload_n hx hb dX0_addCask_47 rfl (lv_at hl 0 rfl) ?_
  refine lv_bipush (v := nI 100) hx hb dX0_addCask_48 (by decide) ?_
  refine s0_hoops S hK hP hD hS (j := n) (by omega) dX0_addCask_50 (fun H locs hP hD hS => ?_)
  refine lv_aload_n hx hb dX0_addCask_51 rfl (lv_at hl 1 rfl) ?_
  refine g00_age S hK hP dX0_addCask_52 ?_
  refine lv_iload_n hx hb dX0_addCask_55 rfl (lv_at hl 0 rfl) ?_
  refine lv_iconst (v := nI 0) hx hb dX0_addCask_56 (by decide) ?_
  refine s0_age S hK hP hD hS (j := n) (by omega) dX0_addCask_57 (fun H locs hP hD hS => ?_)
  refine lv_aload_n hx hb dX0_addCask_58 rfl (lv_at hl 1 rfl) ?_
  refine g00_burst S hK hP dX0_addCask_59 ?_
  refine lv_iload_n hx hb dX0_addCask_62 rfl (lv_at hl 0 rfl) ?_
  refine lv_iconst (v := nI 0) hx hb dX0_addCask_63 (by decide) ?_
  refine s0_burst S hK hP hD hS (j := n) (by omega) dX0_addCask_64 (fun H locs hP hD hS => ?_)
  refine lv_iload_n hx hb dX0_addCask_65 rfl (lv_at hl 0 rfl) ?_
  exact WR.iret S hr hlk hP hS (congrArg (PW cI o) (sAd_c f n x y).symm) rfl dX0_addCask_66
set_option maxRecDepth 100000 in
set_option maxHeartbeats 4000000 in
theorem c_X0_draw (l : Launch) (D : va_G) (cI cJ : ClassId) (o : Nat → Nat) (f : Nat → Int32) : WR l yX0_draw cX0_draw 1 (some .int) 0 D cI cJ (PW cI o f) [.ref (o 0)] (some (.int (sDr f))) (PW cI o (sDz f)) := by
  refine WR.of (by decide) (Nat.le_of_ble_eq_true rfl) (fun p e s m below meth c ls A S hr hlk hK hP hD hS hA hl => ?_)
  obtain ⟨hx, hb, hml, hown, hU⟩ := id S
  have hl : lv_has ls 1 [(0, .ref (o 0))] := hl
  refine lv_aload_n hx hb dX0_draw_0 rfl (lv_at hl 0 rfl) ?_
  refine lv_aload_n hx hb dX0_draw_1 rfl (lv_at hl 0 rfl) ?_
  refine g00_z S hK hP dX0_draw_2 ?_
  refine lv_ldc (v := nI 1103515245) hx hb hown (hU _ mK_X0_69) dX0_draw_5 ?_
  refine lv_imul hx hb dX0_draw_7 ?_
  refine lv_sipush (v := nI 12345) hx hb dX0_draw_8 (by decide) ?_
  refine lv_iadd hx hb dX0_draw_11 ?_
  refine p0_z S hK hP hD hS dX0_draw_12 (fun H locs hP hD hS => ?_)
  refine lv_aload_n hx hb dX0_draw_15 rfl (lv_at hl 0 rfl) ?_
  refine g00_z S hK hP dX0_draw_16 ?_
  refine lv_bipush (v := nI 8) hx hb dX0_draw_19 (by decide) ?_
  refine lv_iushr hx hb dX0_draw_21 rfl ?_
  exact WR.iret S hr hlk hP hS (rfl) rfl dX0_draw_22
set_option maxRecDepth 100000 in
set_option maxHeartbeats 4000000 in
theorem c_X0_firstTooLoud (l : Launch) (D : va_G) (cI cJ : ClassId) (o : Nat → Nat) (f : Nat → Int32) (n : Nat) (hw : Wk f n) : RO l yX0_firstTooLoud cX0_firstTooLoud 2 (some .int) 3 D cI cJ (PW cI o f) [.ref (o 0)] (.int (oI (sFt f n n 0))) := by
  have h8 := hw.2.1
  refine RO.of (by decide) (Nat.le_of_ble_eq_true rfl) (fun p e s m below meth c ls S hr hlk hK hP hl => ?_)
  obtain ⟨hx, hb, hml, hown, hU⟩ := id S
  have hl : lv_has ls 2 [(0, .ref (o 0))] := hl
  refine lv_iconst (v := nI 0) hx hb dX0_firstTooLoud_0 (by decide) ?_
  refine lv_istore_n (lv' := [(1, .int (nI 0)), (0, .ref (o 0))]) hx hb dX0_firstTooLoud_1 rfl hl (by decide) rfl (fun ls hl => ?_)
  have L_2 : ∀ (n9 : Nat) (j : Nat) (ls : Array Slot), n - j < n9 → j ≤ n → sFt f n (n - j) j = sFt f n n 0 → lv_has ls 2 [(0, .ref (o 0)), (1, .int (nI j))] → W p l e (rmd 3) s m ([.ref (o 0)] : List Value).toArray below meth c s.heap [] 0 0 (ZR below ([.ref (o 0)] : List Value).toArray s (.int (oI (sFt f n n 0)))) (F0 m 2 ls []) := by
    intro n9
    induction n9 with
    | zero => intro j ls hm; exact absurd hm (Nat.not_lt_zero _)
    | succ n9 ih_2 =>
      intro j ls hm hj hR hl
      refine lv_iload_n hx hb dX0_firstTooLoud_2 rfl (lv_at hl 1 rfl) ?_
      refine lv_aload_n hx hb dX0_firstTooLoud_3 rfl (lv_at hl 0 rfl) ?_
      refine g00_casks S hK hP dX0_firstTooLoud_4 ?_
      refine q_eqi (y := nI n) (hw.1) ?_
      refine q_icmp_geN (tgt := 31) (a := j) (b := n) hx hb dX0_firstTooLoud_7 (by decide) (by omega) (by omega) (fun c_7 => ?_) (fun c_7 => ?_)
      · refine lv_iconst (v := (-1)) hx hb dX0_firstTooLoud_31 (by decide) ?_
        exact RO.iret S hr hlk (congrArg Value.int (by rw [← hR, show n - j = 0 by omega]; rfl)) dX0_firstTooLoud_32
      · refine lv_aload_n hx hb dX0_firstTooLoud_10 rfl (lv_at hl 0 rfl) ?_
        refine lv_iload_n hx hb dX0_firstTooLoud_11 rfl (lv_at hl 1 rfl) ?_
        refine RO.callV S kv_X0_86 (c_X0_loudOf l D cI cJ o f j n (hw) (by omega)) hK hP rfl ⟨Nat.le_of_ble_eq_true rfl, Nat.le_of_ble_eq_true rfl⟩ hl.1 rfl rfl (Nat.le_of_ble_eq_true rfl) (Nat.zero_le _) (Nat.zero_le _) dX0_firstTooLoud_12 ?_
        refine lv_aload_n hx hb dX0_firstTooLoud_15 rfl (lv_at hl 0 rfl) ?_
        refine lv_iload_n hx hb dX0_firstTooLoud_16 rfl (lv_at hl 1 rfl) ?_
        refine RO.callV S kv_X0_89 (c_X0_bearsOf l D cI cJ o f j n (hw) (by omega)) hK hP rfl ⟨Nat.le_of_ble_eq_true rfl, Nat.le_of_ble_eq_true rfl⟩ hl.1 rfl rfl (Nat.le_of_ble_eq_true rfl) (Nat.zero_le _) (Nat.zero_le _) dX0_firstTooLoud_17 ?_
        refine lv_icmp_le (tgt := 25) hx hb dX0_firstTooLoud_20 (by decide) (fun c_20 => ?_) (fun c_20 => ?_)
        · refine lv_iinc (v := nI (j + 1)) (lv' := [(1, .int (nI (j + 1))), (0, .ref (o 0))]) hx hb dX0_firstTooLoud_25 hl (k := 1) rfl (q_inc _) (by decide) rfl (fun ls hl => ?_)
          refine lv_goto (tgt := 2) hx hb dX0_firstTooLoud_28 (by decide) ?_
          exact ih_2 (j + 1) ls (by omega) (by omega) (by rw [← hR, show n - j = (n - (j + 1)) + 1 by omega, sFt_go c_20]) (lv_sub hl [1, 0] rfl)
        · refine lv_iload_n hx hb dX0_firstTooLoud_23 rfl (lv_at hl 1 rfl) ?_
          exact RO.iret S hr hlk (congrArg Value.int (by rw [← hR, show n - j = (n - (j + 1)) + 1 by omega, sFt_hit c_20]; rfl)) dX0_firstTooLoud_24
  exact L_2 ((n - 0) + 1) 0 ls (Nat.lt_succ_self _) (Nat.zero_le n) (rfl) (lv_sub hl [1, 0] rfl)
set_option maxRecDepth 100000 in
set_option maxHeartbeats 4000000 in
theorem c_X0_burstOne (l : Launch) (D : va_G) (cI cJ : ClassId) (o : Nat → Nat) (f : Nat → Int32) (k : Nat) (n : Nat) (hw : Wk f n) (hk : k < n) : WR l yX0_burstOne cX0_burstOne 4 none 1 D cI cJ (PW cI o f) [.ref (o 0), .int (nI k)] (none) (PW cI o (sBu f n k)) := by
  have h8 := hw.2.1
  have hw0 := hw
  refine WR.of (by decide) (Nat.le_of_ble_eq_true rfl) (fun p e s m below meth c ls A S hr hlk hK hP hD hS hA hl => ?_)
  obtain ⟨hx, hb, hml, hown, hU⟩ := id S
  have hl : lv_has ls 4 [(0, .ref (o 0)), (1, .int (nI k))] := hl
  refine lv_aload_n hx hb dX0_burstOne_0 rfl (lv_at hl 0 rfl) ?_
  refine g00_peal S hK hP dX0_burstOne_1 ?_
  refine lv_iload_n hx hb dX0_burstOne_4 rfl (lv_at hl 1 rfl) ?_
  refine l0_peal S hK hP (j := k) (by omega) dX0_burstOne_5 ?_
  refine lv_iconst (v := nI 2) hx hb dX0_burstOne_6 (by decide) ?_
  refine lv_idiv hx hb dX0_burstOne_7 (by decide) ?_
  refine lv_istore_n (lv' := [(2, .int ((fi f k 2) / (nI 2))), (0, .ref (o 0)), (1, .int (nI k))]) hx hb dX0_burstOne_8 rfl hl (by decide) rfl (fun ls hl => ?_)
  refine lv_iconst (v := nI 0) hx hb dX0_burstOne_9 (by decide) ?_
  refine lv_istore_n (lv' := [(3, .int (nI 0)), (2, .int ((fi f k 2) / (nI 2))), (0, .ref (o 0)), (1, .int (nI k))]) hx hb dX0_burstOne_10 rfl hl (by decide) rfl (fun ls hl => ?_)
  have L_11 : ∀ (n9 : Nat) (j : Nat) (H : Heap) (locs : List Loc) (ls : Array Slot), n - j < n9 → j ≤ n → Wk (sBl f k (fi f k 2 / nI 2) j) n → va_P D vwCl (PW cI o (sBl f k (fi f k 2 / nI 2) j)) H → va_D A (PW cI o (sBl f k (fi f k 2 / nI 2) j)) → va_S A s.heap H locs → lv_has ls 4 [(0, .ref (o 0)), (1, .int (nI k)), (2, .int (fi f k 2 / nI 2)), (3, .int (nI j))] → W p l e (rmd 1) s m ([.ref (o 0), .int (nI k)] : List Value).toArray below meth c H locs 0 0 (ZW below ([.ref (o 0), .int (nI k)] : List Value).toArray s D (none) (PW cI o (sBu f n k)) A) (F0 m 11 ls []) := by
    intro n9
    induction n9 with
    | zero => intro j H locs ls hm; exact absurd hm (Nat.not_lt_zero _)
    | succ n9 ih_11 =>
      intro j H locs ls hm hj hw hP hD hS hl
      refine lv_iload_n hx hb dX0_burstOne_11 rfl (lv_at hl 3 rfl) ?_
      refine lv_aload_n hx hb dX0_burstOne_12 rfl (lv_at hl 0 rfl) ?_
      refine g00_casks S hK hP dX0_burstOne_13 ?_
      refine q_eqi (y := nI n) (hw.1) ?_
      refine q_icmp_geN (tgt := 65) (a := j) (b := n) hx hb dX0_burstOne_16 (by decide) (by omega) (by omega) (fun c_16 => ?_) (fun c_16 => ?_)
      · refine lv_aload_n hx hb dX0_burstOne_65 rfl (lv_at hl 0 rfl) ?_
        refine lv_iload_n hx hb dX0_burstOne_66 rfl (lv_at hl 1 rfl) ?_
        refine WR.callV (w1 := PW cI o (sEy (sBl f k (fi f k 2 / nI 2) j) k)) S kv_X0_65 (c_X0_makeEmpty l D cI cJ o (sBl f k (fi f k 2 / nI 2) j) k (by omega)) hK hP hD hS hA ([]) ([]) rfl rfl rfl rfl ⟨Nat.le_of_ble_eq_true rfl, Nat.le_of_ble_eq_true rfl⟩ hl.1 rfl rfl (Nat.le_of_ble_eq_true rfl) (Nat.zero_le _) (Nat.zero_le _) dX0_burstOne_67 (fun H locs hP hD hS => ?_)
        refine W.eq (g2 := F0 m 70 ls []) rfl ?_
        refine lv_aload_n hx hb dX0_burstOne_70 rfl (lv_at hl 0 rfl) ?_
        refine g00_burst S hK hP dX0_burstOne_71 ?_
        refine lv_iload_n hx hb dX0_burstOne_74 rfl (lv_at hl 1 rfl) ?_
        refine lv_aload_n hx hb dX0_burstOne_75 rfl (lv_at hl 0 rfl) ?_
        refine g00_burst S hK hP dX0_burstOne_76 ?_
        refine lv_iload_n hx hb dX0_burstOne_79 rfl (lv_at hl 1 rfl) ?_
        refine l0_burst S hK hP (j := k) (by omega) dX0_burstOne_80 ?_
        refine lv_iconst (v := nI 1) hx hb dX0_burstOne_81 (by decide) ?_
        refine lv_iadd hx hb dX0_burstOne_82 ?_
        refine lv_sipush (v := nI 999) hx hb dX0_burstOne_83 (by decide) ?_
        refine q_min hx hb (by rw [hml]; exact hl.1.symm) hown hU mL_X0_105 (Nat.le_of_ble_eq_true rfl) (Nat.le_of_ble_eq_true rfl) (Nat.zero_le _) (Nat.zero_le _) dX0_burstOne_86 ?_
        refine q_eqi (y := iMin (nI 999) (fi (sEy (sBl f k (fi f k 2 / nI 2) j) k) k 6 + nI 1)) (iMin_comm _ _) ?_
        refine s0_burst S hK hP hD hS (j := k) (by omega) dX0_burstOne_89 (fun H locs hP hD hS => ?_)
        refine lv_aload_n hx hb dX0_burstOne_90 rfl (lv_at hl 0 rfl) ?_
        refine lv_aload_n hx hb dX0_burstOne_91 rfl (lv_at hl 0 rfl) ?_
        refine g00_claps S hK hP dX0_burstOne_92 ?_
        refine lv_iconst (v := nI 1) hx hb dX0_burstOne_95 (by decide) ?_
        refine lv_iadd hx hb dX0_burstOne_96 ?_
        refine lv_ldc (v := nI 99999) hx hb hown (hU _ mK_X0_104) dX0_burstOne_97 ?_
        refine q_min hx hb (by rw [hml]; exact hl.1.symm) hown hU mL_X0_105 (Nat.le_of_ble_eq_true rfl) (Nat.le_of_ble_eq_true rfl) (Nat.zero_le _) (Nat.zero_le _) dX0_burstOne_99 ?_
        refine q_eqi (y := iMin (nI 99999) ((fu (sEy (sBl f k (fi f k 2 / nI 2) j) k) k 6 (iMin (nI 999) (fi (sEy (sBl f k (fi f k 2 / nI 2) j) k) k 6 + nI 1))) 3 + nI 1)) (iMin_comm _ _) ?_
        refine p0_claps S hK hP hD hS dX0_burstOne_102 (fun H locs hP hD hS => ?_)
        exact WR.vret S hr hlk hP hS (by rw [show j = n by omega]; rfl) dX0_burstOne_105
      · refine lv_iload_n hx hb dX0_burstOne_19 rfl (lv_at hl 3 rfl) ?_
        refine lv_iload_n hx hb dX0_burstOne_20 rfl (lv_at hl 1 rfl) ?_
        refine q_icmp_eqN (tgt := 59) (a := j) (b := k) hx hb dX0_burstOne_21 (by decide) (by omega) (by omega) (fun c_21 => ?_) (fun c_21 => ?_)
        · refine lv_iinc (v := nI (j + 1)) (lv' := [(3, .int (nI (j + 1))), (0, .ref (o 0)), (1, .int (nI k)), (2, .int (fi f k 2 / nI 2))]) hx hb dX0_burstOne_59 hl (k := 3) rfl (q_inc _) (by decide) rfl (fun ls hl => ?_)
          refine lv_goto (tgt := 11) hx hb dX0_burstOne_62 (by decide) ?_
          exact ih_11 (j + 1) _ _ ls (by omega) (by omega) (hw0.kp (sBl_kp (by omega))) (by rw [sBl_0 (fun q => q.1 c_21)]; exact hP) (by rw [sBl_0 (fun q => q.1 c_21)]; exact hD) hS (lv_sub hl [1, 2, 3, 0] rfl)
        · refine lv_aload_n hx hb dX0_burstOne_24 rfl (lv_at hl 0 rfl) ?_
          refine g00_home S hK hP dX0_burstOne_25 ?_
          refine lv_iload_n hx hb dX0_burstOne_28 rfl (lv_at hl 3 rfl) ?_
          refine l0_home S hK hP (j := j) (by omega) dX0_burstOne_29 ?_
          refine lv_aload_n hx hb dX0_burstOne_30 rfl (lv_at hl 0 rfl) ?_
          refine g00_home S hK hP dX0_burstOne_31 ?_
          refine lv_iload_n hx hb dX0_burstOne_34 rfl (lv_at hl 1 rfl) ?_
          refine l0_home S hK hP (j := k) (by omega) dX0_burstOne_35 ?_
          refine lv_icmp_ne (tgt := 59) hx hb dX0_burstOne_36 (by decide) (fun c_36 => ?_) (fun c_36 => ?_)
          · refine lv_iinc (v := nI (j + 1)) (lv' := [(3, .int (nI (j + 1))), (0, .ref (o 0)), (1, .int (nI k)), (2, .int (fi f k 2 / nI 2))]) hx hb dX0_burstOne_59 hl (k := 3) rfl (q_inc _) (by decide) rfl (fun ls hl => ?_)
            refine lv_goto (tgt := 11) hx hb dX0_burstOne_62 (by decide) ?_
            exact ih_11 (j + 1) _ _ ls (by omega) (by omega) (hw0.kp (sBl_kp (by omega))) (by rw [sBl_0 (fun q => c_36 q.2)]; exact hP) (by rw [sBl_0 (fun q => c_36 q.2)]; exact hD) hS (lv_sub hl [1, 2, 3, 0] rfl)
          · refine lv_aload_n hx hb dX0_burstOne_39 rfl (lv_at hl 0 rfl) ?_
            refine g00_peal S hK hP dX0_burstOne_40 ?_
            refine lv_iload_n hx hb dX0_burstOne_43 rfl (lv_at hl 3 rfl) ?_
            refine lv_aload_n hx hb dX0_burstOne_44 rfl (lv_at hl 0 rfl) ?_
            refine g00_peal S hK hP dX0_burstOne_45 ?_
            refine lv_iload_n hx hb dX0_burstOne_48 rfl (lv_at hl 3 rfl) ?_
            refine l0_peal S hK hP (j := j) (by omega) dX0_burstOne_49 ?_
            refine lv_iload_n hx hb dX0_burstOne_50 rfl (lv_at hl 2 rfl) ?_
            refine lv_iadd hx hb dX0_burstOne_51 ?_
            refine lv_sipush (v := nI 999) hx hb dX0_burstOne_52 (by decide) ?_
            refine q_min hx hb (by rw [hml]; exact hl.1.symm) hown hU mL_X0_105 (Nat.le_of_ble_eq_true rfl) (Nat.le_of_ble_eq_true rfl) (Nat.zero_le _) (Nat.zero_le _) dX0_burstOne_55 ?_
            refine q_eqi (y := iMin (nI 999) (fi (sBl f k (fi f k 2 / nI 2) j) j 2 + (fi f k 2 / nI 2))) (iMin_comm _ _) ?_
            refine s0_peal S hK hP hD hS (j := j) (by omega) dX0_burstOne_58 (fun H locs hP hD hS => ?_)
            refine lv_iinc (v := nI (j + 1)) (lv' := [(3, .int (nI (j + 1))), (0, .ref (o 0)), (1, .int (nI k)), (2, .int (fi f k 2 / nI 2))]) hx hb dX0_burstOne_59 hl (k := 3) rfl (q_inc _) (by decide) rfl (fun ls hl => ?_)
            refine lv_goto (tgt := 11) hx hb dX0_burstOne_62 (by decide) ?_
            exact ih_11 (j + 1) _ _ ls (by omega) (by omega) (hw0.kp (sBl_kp (by omega))) (by rw [sBl_1 ⟨c_21, c_36⟩]; exact hP) (by rw [sBl_1 ⟨c_21, c_36⟩]; exact hD) hS (lv_sub hl [1, 2, 3, 0] rfl)
  exact L_11 ((n - 0) + 1) 0 _ _ ls (Nat.lt_succ_self _) (Nat.zero_le n) (hw) hP hD hS (lv_sub hl [2, 3, 1, 0] rfl)
set_option maxRecDepth 100000 in
set_option maxHeartbeats 4000000 in
theorem c_X0_burstAll (l : Launch) (D : va_G) (cI cJ : ClassId) (o : Nat → Nat) (f : Nat → Int32) (n : Nat) (hw : Wk f n) : WR l yX0_burstAll cX0_burstAll 3 none 4 D cI cJ (PW cI o f) [.ref (o 0)] (none) (PW cI o (sBs n 8 f)) := by
  have h8 := hw.2.1
  refine WR.of (by decide) (Nat.le_of_ble_eq_true rfl) (fun p e s m below meth c ls A S hr hlk hK hP hD hS hA hl => ?_)
  obtain ⟨hx, hb, hml, hown, hU⟩ := id S
  have hl : lv_has ls 3 [(0, .ref (o 0))] := hl
  refine lv_iconst (v := nI 0) hx hb dX0_burstAll_0 (by decide) ?_
  refine lv_istore_n (lv' := [(1, .int (nI 0)), (0, .ref (o 0))]) hx hb dX0_burstAll_1 rfl hl (by decide) rfl (fun ls hl => ?_)
  have L_2 : ∀ (n9 : Nat) (k : Nat) (g : Nat → Int32) (H : Heap) (locs : List Loc) (ls : Array Slot), 8 - k < n9 → k ≤ 8 → Wk g n → sBs n (8 - k) g = sBs n 8 f → va_P D vwCl (PW cI o g) H → va_D A (PW cI o g) → va_S A s.heap H locs → lv_has ls 3 [(0, .ref (o 0)), (1, .int (nI k))] → W p l e (rmd 4) s m ([.ref (o 0)] : List Value).toArray below meth c H locs 0 0 (ZW below ([.ref (o 0)] : List Value).toArray s D (none) (PW cI o (sBs n 8 f)) A) (F0 m 2 ls []) := by
    intro n9
    induction n9 with
    | zero => intro k g H locs ls hm; exact absurd hm (Nat.not_lt_zero _)
    | succ n9 ih_2 =>
      intro k g H locs ls hm hk8 hw hF hP hD hS hl
      refine lv_iload_n hx hb dX0_burstAll_2 rfl (lv_at hl 1 rfl) ?_
      refine lv_bipush (v := nI 8) hx hb dX0_burstAll_3 (by decide) ?_
      refine q_icmp_geN (tgt := 29) (a := k) (b := 8) hx hb dX0_burstAll_5 (by decide) (by omega) (by omega) (fun c_5 => ?_) (fun c_5 => ?_)
      · exact WR.vret S hr hlk hP hS (by rw [← hF, show 8 - k = 0 by omega]; rfl) dX0_burstAll_29
      · refine lv_aload_n hx hb dX0_burstAll_8 rfl (lv_at hl 0 rfl) ?_
        refine RO.callV S kv_X0_114 (c_X0_firstTooLoud l D cI cJ o g n (hw)) hK hP rfl ⟨Nat.le_of_ble_eq_true rfl, Nat.le_of_ble_eq_true rfl⟩ hl.1 rfl rfl (Nat.le_of_ble_eq_true rfl) (Nat.zero_le _) (Nat.zero_le _) dX0_burstAll_9 ?_
        cases hE : sFt g n n 0 with
        | none =>
          refine q_eqi (y := (-1)) rfl ?_
          refine lv_istore_n (lv' := [(2, .int (-1)), (0, .ref (o 0)), (1, .int (nI k))]) hx hb dX0_burstAll_12 rfl hl (by decide) rfl (fun ls hl => ?_)
          refine lv_iload_n hx hb dX0_burstAll_13 rfl (lv_at hl 0 rfl) ?_
          refine lv_if_ge (tgt := 18) hx hb dX0_burstAll_14 (by decide) (fun h => absurd h (by decide)) (fun _ => ?_)
          exact WR.vret S hr hlk hP hS (by rw [← hF, show 8 - k = (8 - (k + 1)) + 1 by omega, sBs_n hE]) dX0_burstAll_17
        | some b =>
          refine q_eqi (y := nI b) rfl ?_
          have hbn := (sFt_lt hE).1
          refine lv_istore_n (lv' := [(2, .int (nI b)), (0, .ref (o 0)), (1, .int (nI k))]) hx hb dX0_burstAll_12 rfl hl (by decide) rfl (fun ls hl => ?_)
          refine lv_iload_n hx hb dX0_burstAll_13 rfl (lv_at hl 0 rfl) ?_
          refine q_if_geN (tgt := 18) (a := b) hx hb dX0_burstAll_14 (by decide) (by omega) ?_
          refine lv_aload_n hx hb dX0_burstAll_18 rfl (lv_at hl 1 rfl) ?_
          refine lv_iload_n hx hb dX0_burstAll_19 rfl (lv_at hl 0 rfl) ?_
          refine WR.callV (w1 := PW cI o (sBu g n b)) S kv_X0_118 (c_X0_burstOne l D cI cJ o g b n (hw) (by omega)) hK hP hD hS hA ([]) ([]) rfl rfl rfl rfl ⟨Nat.le_of_ble_eq_true rfl, Nat.le_of_ble_eq_true rfl⟩ hl.1 rfl rfl (Nat.le_of_ble_eq_true rfl) (Nat.zero_le _) (Nat.zero_le _) dX0_burstAll_20 (fun H locs hP hD hS => ?_)
          refine W.eq (g2 := F0 m 23 ls []) rfl ?_
          refine lv_iinc (v := nI (k + 1)) (lv' := [(1, .int (nI (k + 1))), (2, .int (nI b)), (0, .ref (o 0))]) hx hb dX0_burstAll_23 hl (k := 2) rfl (q_inc _) (by decide) rfl (fun ls hl => ?_)
          refine lv_goto (tgt := 2) hx hb dX0_burstAll_26 (by decide) ?_
          exact ih_2 (k + 1) (sBu g n b) _ _ ls (by omega) (by omega) (hw.kp (sBu_kp h8 (by omega))) (by rw [← hF, show 8 - k = (8 - (k + 1)) + 1 by omega, sBs_s hE]) hP hD hS (lv_sub hl [2, 0] rfl)
  exact L_2 ((8 - 0) + 1) 0 f _ _ ls (Nat.lt_succ_self _) (by omega) (hw) (rfl) hP hD hS (lv_sub hl [1, 0] rfl)
set_option maxRecDepth 100000 in
set_option maxHeartbeats 4000000 in
theorem c_X0_cancelPeals (l : Launch) (D : va_G) (cI cJ : ClassId) (o : Nat → Nat) (f : Nat → Int32) (n : Nat) (hw : Wk f n) (hp : Pk f n) : WR l yX0_cancelPeals cX0_cancelPeals 4 none 1 D cI cJ (PW cI o f) [.ref (o 0)] (none) (PW cI o (sCo f n n)) := by
  have h8 := hw.2.1
  have hw0 := hw
  refine WR.of (by decide) (Nat.le_of_ble_eq_true rfl) (fun p e s m below meth c ls A S hr hlk hK hP hD hS hA hl => ?_)
  obtain ⟨hx, hb, hml, hown, hU⟩ := id S
  have hl : lv_has ls 4 [(0, .ref (o 0))] := hl
  refine lv_iconst (v := nI 0) hx hb dX0_cancelPeals_0 (by decide) ?_
  refine lv_istore_n (lv' := [(1, .int (nI 0)), (0, .ref (o 0))]) hx hb dX0_cancelPeals_1 rfl hl (by decide) rfl (fun ls hl => ?_)
  have L_2 : ∀ (n9 : Nat) (x : Nat) (H : Heap) (locs : List Loc) (ls : Array Slot), n - x < n9 → x ≤ n → Wk (sCo f n x) n → va_P D vwCl (PW cI o (sCo f n x)) H → va_D A (PW cI o (sCo f n x)) → va_S A s.heap H locs → lv_has ls 4 [(0, .ref (o 0)), (1, .int (nI x))] → W p l e (rmd 1) s m ([.ref (o 0)] : List Value).toArray below meth c H locs 0 0 (ZW below ([.ref (o 0)] : List Value).toArray s D (none) (PW cI o (sCo f n n)) A) (F0 m 2 ls []) := by
    intro n9
    induction n9 with
    | zero => intro x H locs ls hm; exact absurd hm (Nat.not_lt_zero _)
    | succ n9 ih_2 =>
      intro x H locs ls hm hx1 hw hP hD hS hl
      refine lv_iload_n hx hb dX0_cancelPeals_2 rfl (lv_at hl 1 rfl) ?_
      refine lv_aload_n hx hb dX0_cancelPeals_3 rfl (lv_at hl 0 rfl) ?_
      refine g00_casks S hK hP dX0_cancelPeals_4 ?_
      refine q_eqi (y := nI n) (hw.1) ?_
      refine q_icmp_geN (tgt := 109) (a := x) (b := n) hx hb dX0_cancelPeals_7 (by decide) (by omega) (by omega) (fun c_7 => ?_) (fun c_7 => ?_)
      · exact WR.vret S hr hlk hP hS (by rw [show x = n by omega]) dX0_cancelPeals_109
      · refine lv_iload_n hx hb dX0_cancelPeals_10 rfl (lv_at hl 1 rfl) ?_
        refine lv_iconst (v := nI 1) hx hb dX0_cancelPeals_11 (by decide) ?_
        refine q_iaddN (a := x) (b := 1) hx hb dX0_cancelPeals_12 ?_
        refine lv_istore_n (lv' := [(2, .int (nI (x + 1))), (0, .ref (o 0)), (1, .int (nI x))]) hx hb dX0_cancelPeals_13 rfl hl (by decide) rfl (fun ls hl => ?_)
        have L_14 : ∀ (n9 : Nat) (i : Nat) (H : Heap) (locs : List Loc) (ls : Array Slot), n - (x + 1 + i) < n9 → x + 1 + i ≤ n → Wk (sCi (sCo f n x) x i) n → va_P D vwCl (PW cI o (sCi (sCo f n x) x i)) H → va_D A (PW cI o (sCi (sCo f n x) x i)) → va_S A s.heap H locs → lv_has ls 4 [(0, .ref (o 0)), (1, .int (nI x)), (2, .int (nI (x + 1 + i)))] → W p l e (rmd 1) s m ([.ref (o 0)] : List Value).toArray below meth c H locs 0 0 (ZW below ([.ref (o 0)] : List Value).toArray s D (none) (PW cI o (sCo f n n)) A) (F0 m 14 ls []) := by
          intro n9
          induction n9 with
          | zero => intro i H locs ls hm; exact absurd hm (Nat.not_lt_zero _)
          | succ n9 ih_14 =>
            intro i H locs ls hm hi1 hw hP hD hS hl
            refine lv_iload_n hx hb dX0_cancelPeals_14 rfl (lv_at hl 2 rfl) ?_
            refine lv_aload_n hx hb dX0_cancelPeals_15 rfl (lv_at hl 0 rfl) ?_
            refine g00_casks S hK hP dX0_cancelPeals_16 ?_
            refine q_eqi (y := nI n) (hw.1) ?_
            refine q_icmp_geN (tgt := 103) (a := x + 1 + i) (b := n) hx hb dX0_cancelPeals_19 (by decide) (by omega) (by omega) (fun c_19 => ?_) (fun c_19 => ?_)
            · refine lv_iinc (v := nI (x + 1)) (lv' := [(1, .int (nI (x + 1))), (0, .ref (o 0)), (2, .int (nI (x + 1 + i)))]) hx hb dX0_cancelPeals_103 hl (k := 1) rfl (q_inc _) (by decide) rfl (fun ls hl => ?_)
              refine lv_goto (tgt := 2) hx hb dX0_cancelPeals_106 (by decide) ?_
              have ei : i = n - (x + 1) := by omega
              subst ei
              exact ih_2 (x + 1) _ _ ls (by omega) (by omega) (hw0.kp (sCo_kp h8 (by omega))) hP hD hS (lv_sub hl [1, 0] rfl)
            · refine lv_aload_n hx hb dX0_cancelPeals_22 rfl (lv_at hl 0 rfl) ?_
              refine g00_peal S hK hP dX0_cancelPeals_23 ?_
              refine lv_iload_n hx hb dX0_cancelPeals_26 rfl (lv_at hl 1 rfl) ?_
              refine l0_peal S hK hP (j := x) (by omega) dX0_cancelPeals_27 ?_
              refine lv_if_le (tgt := 103) hx hb dX0_cancelPeals_28 (by decide) (fun c_28 => ?_) (fun c_28 => ?_)
              · refine lv_iinc (v := nI (x + 1)) (lv' := [(1, .int (nI (x + 1))), (0, .ref (o 0)), (2, .int (nI (x + 1 + i)))]) hx hb dX0_cancelPeals_103 hl (k := 1) rfl (q_inc _) (by decide) rfl (fun ls hl => ?_)
                refine lv_goto (tgt := 2) hx hb dX0_cancelPeals_106 (by decide) ?_
                have e0 : fi (sCi (sCo f n x) x i) x 2 = nI 0 := pk0 ((hp.co (by omega)).ci (by omega)) (by omega) c_28
                have es : sCo f n (x + 1) = sCi (sCo f n x) x i := by
                  show sCi (sCo f n x) x (n - (x + 1)) = _
                  rw [show n - (x + 1) = i + (n - (x + 1) - i) by omega]
                  exact sCi_stop (hp.co (by omega)) e0 (by omega)
                exact ih_2 (x + 1) _ _ ls (by omega) (by omega) (hw0.kp (sCo_kp h8 (by omega))) (by rw [es]; exact hP) (by rw [es]; exact hD) hS (lv_sub hl [1, 0] rfl)
              · refine lv_aload_n hx hb dX0_cancelPeals_31 rfl (lv_at hl 0 rfl) ?_
                refine g00_home S hK hP dX0_cancelPeals_32 ?_
                refine lv_iload_n hx hb dX0_cancelPeals_35 rfl (lv_at hl 1 rfl) ?_
                refine l0_home S hK hP (j := x) (by omega) dX0_cancelPeals_36 ?_
                refine lv_aload_n hx hb dX0_cancelPeals_37 rfl (lv_at hl 0 rfl) ?_
                refine g00_home S hK hP dX0_cancelPeals_38 ?_
                refine lv_iload_n hx hb dX0_cancelPeals_41 rfl (lv_at hl 2 rfl) ?_
                refine l0_home S hK hP (j := x + 1 + i) (by omega) dX0_cancelPeals_42 ?_
                refine lv_icmp_ne (tgt := 97) hx hb dX0_cancelPeals_43 (by decide) (fun c_43 => ?_) (fun c_43 => ?_)
                · refine lv_iinc (v := nI (x + 1 + i + 1)) (lv' := [(2, .int (nI (x + 1 + i + 1))), (0, .ref (o 0)), (1, .int (nI x))]) hx hb dX0_cancelPeals_97 hl (k := 2) rfl (q_inc _) (by decide) rfl (fun ls hl => ?_)
                  refine lv_goto (tgt := 14) hx hb dX0_cancelPeals_100 (by decide) ?_
                  exact ih_14 (i + 1) _ _ ls (by omega) (by omega) (hw0.kp ((sCo_kp h8 (by omega)).tr (sCi_kp (by omega)))) (by rw [sCi_0 (fun q => c_43 q.1)]; exact hP) (by rw [sCi_0 (fun q => c_43 q.1)]; exact hD) hS (lv_sub hl [1, 2, 0] rfl)
                · refine lv_aload_n hx hb dX0_cancelPeals_46 rfl (lv_at hl 0 rfl) ?_
                  refine g00_pitch S hK hP dX0_cancelPeals_47 ?_
                  refine lv_iload_n hx hb dX0_cancelPeals_50 rfl (lv_at hl 1 rfl) ?_
                  refine l0_pitch S hK hP (j := x) (by omega) dX0_cancelPeals_51 ?_
                  refine lv_aload_n hx hb dX0_cancelPeals_52 rfl (lv_at hl 0 rfl) ?_
                  refine g00_pitch S hK hP dX0_cancelPeals_53 ?_
                  refine lv_iload_n hx hb dX0_cancelPeals_56 rfl (lv_at hl 2 rfl) ?_
                  refine l0_pitch S hK hP (j := x + 1 + i) (by omega) dX0_cancelPeals_57 ?_
                  refine lv_icmp_ne (tgt := 97) hx hb dX0_cancelPeals_58 (by decide) (fun c_58 => ?_) (fun c_58 => ?_)
                  · refine lv_iinc (v := nI (x + 1 + i + 1)) (lv' := [(2, .int (nI (x + 1 + i + 1))), (0, .ref (o 0)), (1, .int (nI x))]) hx hb dX0_cancelPeals_97 hl (k := 2) rfl (q_inc _) (by decide) rfl (fun ls hl => ?_)
                    refine lv_goto (tgt := 14) hx hb dX0_cancelPeals_100 (by decide) ?_
                    exact ih_14 (i + 1) _ _ ls (by omega) (by omega) (hw0.kp ((sCo_kp h8 (by omega)).tr (sCi_kp (by omega)))) (by rw [sCi_0 (fun q => c_58 q.2)]; exact hP) (by rw [sCi_0 (fun q => c_58 q.2)]; exact hD) hS (lv_sub hl [1, 2, 0] rfl)
                  · refine lv_aload_n hx hb dX0_cancelPeals_61 rfl (lv_at hl 0 rfl) ?_
                    refine g00_peal S hK hP dX0_cancelPeals_62 ?_
                    refine lv_iload_n hx hb dX0_cancelPeals_65 rfl (lv_at hl 1 rfl) ?_
                    refine l0_peal S hK hP (j := x) (by omega) dX0_cancelPeals_66 ?_
                    refine lv_aload_n hx hb dX0_cancelPeals_67 rfl (lv_at hl 0 rfl) ?_
                    refine g00_peal S hK hP dX0_cancelPeals_68 ?_
                    refine lv_iload_n hx hb dX0_cancelPeals_71 rfl (lv_at hl 2 rfl) ?_
                    refine l0_peal S hK hP (j := x + 1 + i) (by omega) dX0_cancelPeals_72 ?_
                    refine q_min hx hb (by rw [hml]; exact hl.1.symm) hown hU mL_X0_105 (Nat.le_of_ble_eq_true rfl) (Nat.le_of_ble_eq_true rfl) (Nat.zero_le _) (Nat.zero_le _) dX0_cancelPeals_73 ?_
                    refine q_eqi (y := iMin (fi (sCi (sCo f n x) x i) x 2) (fi (sCi (sCo f n x) x i) (x + 1 + i) 2)) (rfl) ?_
                    refine lv_istore_n (lv' := [(3, .int (iMin (fi (sCi (sCo f n x) x i) x 2) (fi (sCi (sCo f n x) x i) (x + 1 + i) 2))), (0, .ref (o 0)), (1, .int (nI x)), (2, .int (nI (x + 1 + i)))]) hx hb dX0_cancelPeals_76 rfl hl (by decide) rfl (fun ls hl => ?_)
                    refine lv_aload_n hx hb dX0_cancelPeals_77 rfl (lv_at hl 1 rfl) ?_
                    refine g00_peal S hK hP dX0_cancelPeals_78 ?_
                    refine lv_iload_n hx hb dX0_cancelPeals_81 rfl (lv_at hl 2 rfl) ?_
                    refine lv_dup2_11 hx hb dX0_cancelPeals_82 rfl rfl ?_
                    refine l0_peal S hK hP (j := x) (by omega) dX0_cancelPeals_83 ?_
                    refine lv_iload_n hx hb dX0_cancelPeals_84 rfl (lv_at hl 0 rfl) ?_
                    refine lv_isub hx hb dX0_cancelPeals_85 ?_
                    refine s0_peal S hK hP hD hS (j := x) (by omega) dX0_cancelPeals_86 (fun H locs hP hD hS => ?_)
                    refine lv_aload_n hx hb dX0_cancelPeals_87 rfl (lv_at hl 1 rfl) ?_
                    refine g00_peal S hK hP dX0_cancelPeals_88 ?_
                    refine lv_iload_n hx hb dX0_cancelPeals_91 rfl (lv_at hl 3 rfl) ?_
                    refine lv_dup2_11 hx hb dX0_cancelPeals_92 rfl rfl ?_
                    refine l0_peal S hK hP (j := x + 1 + i) (by omega) dX0_cancelPeals_93 ?_
                    refine lv_iload_n hx hb dX0_cancelPeals_94 rfl (lv_at hl 0 rfl) ?_
                    refine lv_isub hx hb dX0_cancelPeals_95 ?_
                    refine s0_peal S hK hP hD hS (j := x + 1 + i) (by omega) dX0_cancelPeals_96 (fun H locs hP hD hS => ?_)
                    refine lv_iinc (v := nI (x + 1 + i + 1)) (lv' := [(2, .int (nI (x + 1 + i + 1))), (3, .int (iMin (fi (sCi (sCo f n x) x i) x 2) (fi (sCi (sCo f n x) x i) (x + 1 + i) 2))), (0, .ref (o 0)), (1, .int (nI x))]) hx hb dX0_cancelPeals_97 hl (k := 3) rfl (q_inc _) (by decide) rfl (fun ls hl => ?_)
                    refine lv_goto (tgt := 14) hx hb dX0_cancelPeals_100 (by decide) ?_
                    exact ih_14 (i + 1) _ _ ls (by omega) (by omega) (hw0.kp ((sCo_kp h8 (by omega)).tr (sCi_kp (by omega)))) (by rw [sCi_1 ⟨c_43, c_58⟩]; exact hP) (by rw [sCi_1 ⟨c_43, c_58⟩]; exact hD) hS (lv_sub hl [2, 3, 0] rfl)
        exact L_14 ((n - (x + 1 + 0)) + 1) 0 _ _ ls (Nat.lt_succ_self _) (by omega) (hw) hP hD hS (lv_sub hl [1, 2, 0] rfl)
  exact L_2 ((n - 0) + 1) 0 _ _ ls (Nat.lt_succ_self _) (Nat.zero_le n) (hw) hP hD hS (lv_sub hl [1, 0] rfl)
set_option maxRecDepth 100000 in
set_option maxHeartbeats 4000000 in
theorem c_X0_leakAndAge (l : Launch) (D : va_G) (cI cJ : ClassId) (o : Nat → Nat) (f : Nat → Int32) (n : Nat) (hw : Wk f n) : WR l yX0_leakAndAge cX0_leakAndAge 2 none 1 D cI cJ (PW cI o f) [.ref (o 0)] (none) (PW cI o (sLl f n)) := by
  have h8 := hw.2.1
  have hw0 := hw
  refine WR.of (by decide) (Nat.le_of_ble_eq_true rfl) (fun p e s m below meth c ls A S hr hlk hK hP hD hS hA hl => ?_)
  obtain ⟨hx, hb, hml, hown, hU⟩ := id S
  have hl : lv_has ls 2 [(0, .ref (o 0))] := hl
  refine lv_iconst (v := nI 0) hx hb dX0_leakAndAge_0 (by decide) ?_
  refine lv_istore_n (lv' := [(1, .int (nI 0)), (0, .ref (o 0))]) hx hb dX0_leakAndAge_1 rfl hl (by decide) rfl (fun ls hl => ?_)
  have L_2 : ∀ (n9 : Nat) (j : Nat) (H : Heap) (locs : List Loc) (ls : Array Slot), n - j < n9 → j ≤ n → Wk (sLl f j) n → va_P D vwCl (PW cI o (sLl f j)) H → va_D A (PW cI o (sLl f j)) → va_S A s.heap H locs → lv_has ls 2 [(0, .ref (o 0)), (1, .int (nI j))] → W p l e (rmd 1) s m ([.ref (o 0)] : List Value).toArray below meth c H locs 0 0 (ZW below ([.ref (o 0)] : List Value).toArray s D (none) (PW cI o (sLl f n)) A) (F0 m 2 ls []) := by
    intro n9
    induction n9 with
    | zero => intro j H locs ls hm; exact absurd hm (Nat.not_lt_zero _)
    | succ n9 ih_2 =>
      intro j H locs ls hm hj hw hP hD hS hl
      refine lv_iload_n hx hb dX0_leakAndAge_2 rfl (lv_at hl 1 rfl) ?_
      refine lv_aload_n hx hb dX0_leakAndAge_3 rfl (lv_at hl 0 rfl) ?_
      refine g00_casks S hK hP dX0_leakAndAge_4 ?_
      refine q_eqi (y := nI n) (hw.1) ?_
      refine q_icmp_geN (tgt := 58) (a := j) (b := n) hx hb dX0_leakAndAge_7 (by decide) (by omega) (by omega) (fun c_7 => ?_) (fun c_7 => ?_)
      · exact WR.vret S hr hlk hP hS (by rw [show j = n by omega]) dX0_leakAndAge_58
      · refine lv_aload_n hx hb dX0_leakAndAge_10 rfl (lv_at hl 0 rfl) ?_
        refine g00_peal S hK hP dX0_leakAndAge_11 ?_
        refine lv_iload_n hx hb dX0_leakAndAge_14 rfl (lv_at hl 1 rfl) ?_
        refine lv_iconst (v := nI 0) hx hb dX0_leakAndAge_15 (by decide) ?_
        refine lv_aload_n hx hb dX0_leakAndAge_16 rfl (lv_at hl 0 rfl) ?_
        refine g00_peal S hK hP dX0_leakAndAge_17 ?_
        refine lv_iload_n hx hb dX0_leakAndAge_20 rfl (lv_at hl 1 rfl) ?_
        refine l0_peal S hK hP (j := j) (by omega) dX0_leakAndAge_21 ?_
        refine lv_aload_n hx hb dX0_leakAndAge_22 rfl (lv_at hl 0 rfl) ?_
        refine lv_iload_n hx hb dX0_leakAndAge_23 rfl (lv_at hl 1 rfl) ?_
        refine RO.callV S kv_X0_111 (c_X0_leaksOf l D cI cJ o (sLl f j) j (by omega)) hK hP rfl ⟨Nat.le_of_ble_eq_true rfl, Nat.le_of_ble_eq_true rfl⟩ hl.1 rfl rfl (Nat.le_of_ble_eq_true rfl) (Nat.zero_le _) (Nat.zero_le _) dX0_leakAndAge_24 ?_
        refine lv_isub hx hb dX0_leakAndAge_27 ?_
        refine q_max hx hb (by rw [hml]; exact hl.1.symm) hown hU mL_X0_80 (Nat.le_of_ble_eq_true rfl) (Nat.le_of_ble_eq_true rfl) (Nat.zero_le _) (Nat.zero_le _) dX0_leakAndAge_28 ?_
        refine q_eqi (y := iMax (nI 0) (fi (sLl f j) j 2 - sLk (sLl f j) j)) (rfl) ?_
        refine s0_peal S hK hP hD hS (j := j) (by omega) dX0_leakAndAge_31 (fun H locs hP hD hS => ?_)
        refine lv_aload_n hx hb dX0_leakAndAge_32 rfl (lv_at hl 0 rfl) ?_
        refine g00_age S hK hP dX0_leakAndAge_33 ?_
        refine lv_iload_n hx hb dX0_leakAndAge_36 rfl (lv_at hl 1 rfl) ?_
        refine lv_aload_n hx hb dX0_leakAndAge_37 rfl (lv_at hl 0 rfl) ?_
        refine g00_age S hK hP dX0_leakAndAge_38 ?_
        refine lv_iload_n hx hb dX0_leakAndAge_41 rfl (lv_at hl 1 rfl) ?_
        refine l0_age S hK hP (j := j) (by omega) dX0_leakAndAge_42 ?_
        refine lv_iconst (v := nI 1) hx hb dX0_leakAndAge_43 (by decide) ?_
        refine lv_iadd hx hb dX0_leakAndAge_44 ?_
        refine lv_sipush (v := nI 999) hx hb dX0_leakAndAge_45 (by decide) ?_
        refine q_min hx hb (by rw [hml]; exact hl.1.symm) hown hU mL_X0_105 (Nat.le_of_ble_eq_true rfl) (Nat.le_of_ble_eq_true rfl) (Nat.zero_le _) (Nat.zero_le _) dX0_leakAndAge_48 ?_
        refine q_eqi (y := iMin (nI 999) (fi (fu (sLl f j) j 2 (iMax (nI 0) (fi (sLl f j) j 2 - sLk (sLl f j) j))) j 5 + nI 1)) (iMin_comm _ _) ?_
        refine s0_age S hK hP hD hS (j := j) (by omega) dX0_leakAndAge_51 (fun H locs hP hD hS => ?_)
        refine lv_iinc (v := nI (j + 1)) (lv' := [(1, .int (nI (j + 1))), (0, .ref (o 0))]) hx hb dX0_leakAndAge_52 hl (k := 1) rfl (q_inc _) (by decide) rfl (fun ls hl => ?_)
        refine lv_goto (tgt := 2) hx hb dX0_leakAndAge_55 (by decide) ?_
        exact ih_2 (j + 1) _ _ ls (by omega) (by omega) (hw0.kp (sLl_kp (by omega))) hP hD hS (lv_sub hl [1, 0] rfl)
  exact L_2 ((n - 0) + 1) 0 _ _ ls (Nat.lt_succ_self _) (Nat.zero_le n) (hw) hP hD hS (lv_sub hl [1, 0] rfl)
set_option maxRecDepth 100000 in
set_option maxHeartbeats 4000000 in
theorem c_X0_catchStorm (l : Launch) (D : va_G) (cI cJ : ClassId) (o : Nat → Nat) (f : Nat → Int32) (n : Nat) (hw : Wk f n) (d : Nat) (hd : f 1 = nI d) (hd2 : d < 2147483647) : WR l yX0_catchStorm cX0_catchStorm 3 none 1 D cI cJ (PW cI o f) [.ref (o 0)] (none) (PW cI o (sSo f n)) := by
  have h8 := hw.2.1
  refine WR.of (by decide) (Nat.le_of_ble_eq_true rfl) (fun p e s m below meth c ls A S hr hlk hK hP hD hS hA hl => ?_)
  obtain ⟨hx, hb, hml, hown, hU⟩ := id S
  have hl : lv_has ls 3 [(0, .ref (o 0))] := hl
  refine lv_aload_n hx hb dX0_catchStorm_0 rfl (lv_at hl 0 rfl) ?_
  refine g00_day S hK hP dX0_catchStorm_1 ?_
  refine q_eqi (y := nI d) (hd) ?_
  refine lv_bipush (v := nI 6) hx hb dX0_catchStorm_4 (by decide) ?_
  refine q_iremN (a := d) (b := 6) hx hb dX0_catchStorm_6 (by omega) (by omega) (by omega) ?_
  refine lv_istore_n (lv' := [(1, .int (nI (d % 6))), (0, .ref (o 0))]) hx hb dX0_catchStorm_7 rfl hl (by decide) rfl (fun ls hl => ?_)
  refine lv_aload_n hx hb dX0_catchStorm_8 rfl (lv_at hl 1 rfl) ?_
  refine lv_iload_n hx hb dX0_catchStorm_9 rfl (lv_at hl 0 rfl) ?_
  refine RO.callV S kv_X0_108 (c_X0_catcherIn l D cI cJ o f (nI (d % 6)) n (hw)) hK hP rfl ⟨Nat.le_of_ble_eq_true rfl, Nat.le_of_ble_eq_true rfl⟩ hl.1 rfl rfl (Nat.le_of_ble_eq_true rfl) (Nat.zero_le _) (Nat.zero_le _) dX0_catchStorm_10 ?_
  cases hE : sEm f (nI (d % 6)) n with
  | none =>
    refine q_eqi (y := (-1)) rfl ?_
    refine lv_istore_n (lv' := [(2, .int (-1)), (1, .int (nI (d % 6))), (0, .ref (o 0))]) hx hb dX0_catchStorm_13 rfl hl (by decide) rfl (fun ls hl => ?_)
    refine lv_iload_n hx hb dX0_catchStorm_14 rfl (lv_at hl 0 rfl) ?_
    refine lv_if_lt (tgt := 43) hx hb dX0_catchStorm_15 (by decide) (fun _ => ?_) (fun h => absurd (by decide) h)
    exact WR.vret S hr hlk hP hS (by rw [sSo_n hd (by omega) hE]) dX0_catchStorm_43
  | some b =>
    refine q_eqi (y := nI b) rfl ?_
    have hbj := sEm_lt hE
    refine lv_istore_n (lv' := [(2, .int (nI b)), (1, .int (nI (d % 6))), (0, .ref (o 0))]) hx hb dX0_catchStorm_13 rfl hl (by decide) rfl (fun ls hl => ?_)
    refine lv_iload_n hx hb dX0_catchStorm_14 rfl (lv_at hl 0 rfl) ?_
    refine q_if_ltN (tgt := 43) (a := b) hx hb dX0_catchStorm_15 (by decide) (by omega) ?_
    refine lv_aload_n hx hb dX0_catchStorm_18 rfl (lv_at hl 2 rfl) ?_
    refine g00_peal S hK hP dX0_catchStorm_19 ?_
    refine lv_iload_n hx hb dX0_catchStorm_22 rfl (lv_at hl 0 rfl) ?_
    refine lv_aload_n hx hb dX0_catchStorm_23 rfl (lv_at hl 2 rfl) ?_
    refine g00_peal S hK hP dX0_catchStorm_24 ?_
    refine lv_iload_n hx hb dX0_catchStorm_27 rfl (lv_at hl 0 rfl) ?_
    refine l0_peal S hK hP (j := b) (by omega) dX0_catchStorm_28 ?_
    refine lv_aload_n hx hb dX0_catchStorm_29 rfl (lv_at hl 2 rfl) ?_
    refine g00_list S hK hP dX0_catchStorm_30 ?_
    refine lv_iload_n hx hb dX0_catchStorm_33 rfl (lv_at hl 1 rfl) ?_
    refine l0_list S hK hP (j := d % 6) (by omega) dX0_catchStorm_34 ?_
    refine lv_iadd hx hb dX0_catchStorm_35 ?_
    refine lv_sipush (v := nI 999) hx hb dX0_catchStorm_36 (by decide) ?_
    refine q_min hx hb (by rw [hml]; exact hl.1.symm) hown hU mL_X0_105 (Nat.le_of_ble_eq_true rfl) (Nat.le_of_ble_eq_true rfl) (Nat.zero_le _) (Nat.zero_le _) dX0_catchStorm_39 ?_
    refine q_eqi (y := iMin (nI 999) (fi f b 2 + f (10 + d % 6))) (iMin_comm _ _) ?_
    refine s0_peal S hK hP hD hS (j := b) (by omega) dX0_catchStorm_42 (fun H locs hP hD hS => ?_)
    exact WR.vret S hr hlk hP hS (by rw [sSo_s hd (by omega) hE]; rfl) dX0_catchStorm_43
set_option maxRecDepth 100000 in
set_option maxHeartbeats 4000000 in
theorem c_X0_passDays (l : Launch) (D : va_G) (cI cJ : ClassId) (o : Nat → Nat) (f : Nat → Int32) (t : Nat) (n : Nat) (hw : Wk f n) (d : Nat) (hd : f 1 = nI d) (hd2 : d + t ≤ 99999) (hp : Pk f n) (hs : Sk f) : WR l yX0_passDays cX0_passDays 3 none 5 D cI cJ (PW cI o f) [.ref (o 0), .int (nI t)] (none) (PW cI o (sGo f n t)) := by
  have h8 := hw.2.1
  have hw0 := hw
  have hd0 := hd
  refine WR.of (by decide) (Nat.le_of_ble_eq_true rfl) (fun p e s m below meth c ls A S hr hlk hK hP hD hS hA hl => ?_)
  obtain ⟨hx, hb, hml, hown, hU⟩ := id S
  have hl : lv_has ls 3 [(0, .ref (o 0)), (1, .int (nI t))] := hl
  refine lv_iconst (v := nI 0) hx hb dX0_passDays_0 (by decide) ?_
  refine lv_istore_n (lv' := [(2, .int (nI 0)), (0, .ref (o 0)), (1, .int (nI t))]) hx hb dX0_passDays_1 rfl hl (by decide) rfl (fun ls hl => ?_)
  have L_2 : ∀ (n9 : Nat) (j : Nat) (H : Heap) (locs : List Loc) (ls : Array Slot), t - j < n9 → j ≤ t → Wk (sGo f n j) n → sGo f n j 1 = nI (d + j) → va_P D vwCl (PW cI o (sGo f n j)) H → va_D A (PW cI o (sGo f n j)) → va_S A s.heap H locs → lv_has ls 3 [(0, .ref (o 0)), (1, .int (nI t)), (2, .int (nI j))] → W p l e (rmd 5) s m ([.ref (o 0), .int (nI t)] : List Value).toArray below meth c H locs 0 0 (ZW below ([.ref (o 0), .int (nI t)] : List Value).toArray s D (none) (PW cI o (sGo f n t)) A) (F0 m 2 ls []) := by
    intro n9
    induction n9 with
    | zero => intro j H locs ls hm; exact absurd hm (Nat.not_lt_zero _)
    | succ n9 ih_2 =>
      intro j H locs ls hm hj hw hd hP hD hS hl
      refine lv_iload_n hx hb dX0_passDays_2 rfl (lv_at hl 2 rfl) ?_
      refine lv_iload_n hx hb dX0_passDays_3 rfl (lv_at hl 1 rfl) ?_
      refine q_icmp_geN (tgt := 44) (a := j) (b := t) hx hb dX0_passDays_4 (by decide) (by omega) (by omega) (fun c_4 => ?_) (fun c_4 => ?_)
      · exact WR.vret S hr hlk hP hS (by rw [show j = t by omega]) dX0_passDays_44
      · refine lv_aload_n hx hb dX0_passDays_7 rfl (lv_at hl 0 rfl) ?_
        refine WR.callV (w1 := PW cI o (sSo (sGo f n j) n)) S kv_X0_92 (c_X0_catchStorm l D cI cJ o (sGo f n j) n (hw) (d + j) (hd) (by omega)) hK hP hD hS hA ([]) ([]) rfl rfl rfl rfl ⟨Nat.le_of_ble_eq_true rfl, Nat.le_of_ble_eq_true rfl⟩ hl.1 rfl rfl (Nat.le_of_ble_eq_true rfl) (Nat.zero_le _) (Nat.zero_le _) dX0_passDays_8 (fun H locs hP hD hS => ?_)
        refine W.eq (g2 := F0 m 11 ls []) rfl ?_
        refine lv_aload_n hx hb dX0_passDays_11 rfl (lv_at hl 0 rfl) ?_
        refine WR.callV (w1 := PW cI o (sLl (sSo (sGo f n j) n) n)) S kv_X0_95 (c_X0_leakAndAge l D cI cJ o (sSo (sGo f n j) n) n (hw.kp (sSo_kp h8))) hK hP hD hS hA ([]) ([]) rfl rfl rfl rfl ⟨Nat.le_of_ble_eq_true rfl, Nat.le_of_ble_eq_true rfl⟩ hl.1 rfl rfl (Nat.le_of_ble_eq_true rfl) (Nat.zero_le _) (Nat.zero_le _) dX0_passDays_12 (fun H locs hP hD hS => ?_)
        refine W.eq (g2 := F0 m 15 ls []) rfl ?_
        refine lv_aload_n hx hb dX0_passDays_15 rfl (lv_at hl 0 rfl) ?_
        refine WR.callV (w1 := PW cI o (sCo (sLl (sSo (sGo f n j) n) n) n n)) S kv_X0_98 (c_X0_cancelPeals l D cI cJ o (sLl (sSo (sGo f n j) n) n) n (hw.kp ((sSo_kp h8).tr (sLl_kp h8))) ((((Pk.go h8 hp hs hd0 (by omega)).so (hs.kl (sGo_kl h8)) hd (by omega)).ll (Nat.le_refl n)))) hK hP hD hS hA ([]) ([]) rfl rfl rfl rfl ⟨Nat.le_of_ble_eq_true rfl, Nat.le_of_ble_eq_true rfl⟩ hl.1 rfl rfl (Nat.le_of_ble_eq_true rfl) (Nat.zero_le _) (Nat.zero_le _) dX0_passDays_16 (fun H locs hP hD hS => ?_)
        refine W.eq (g2 := F0 m 19 ls []) rfl ?_
        refine lv_aload_n hx hb dX0_passDays_19 rfl (lv_at hl 0 rfl) ?_
        refine WR.callV (w1 := PW cI o (sBs n 8 (sCo (sLl (sSo (sGo f n j) n) n) n n))) S kv_X0_101 (c_X0_burstAll l D cI cJ o (sCo (sLl (sSo (sGo f n j) n) n) n n) n (hw.kp (((sSo_kp h8).tr (sLl_kp h8)).tr (sCo_kp h8 (Nat.le_refl n))))) hK hP hD hS hA ([]) ([]) rfl rfl rfl rfl ⟨Nat.le_of_ble_eq_true rfl, Nat.le_of_ble_eq_true rfl⟩ hl.1 rfl rfl (Nat.le_of_ble_eq_true rfl) (Nat.zero_le _) (Nat.zero_le _) dX0_passDays_20 (fun H locs hP hD hS => ?_)
        refine W.eq (g2 := F0 m 23 ls []) rfl ?_
        refine lv_aload_n hx hb dX0_passDays_23 rfl (lv_at hl 0 rfl) ?_
        refine lv_aload_n hx hb dX0_passDays_24 rfl (lv_at hl 0 rfl) ?_
        refine g00_day S hK hP dX0_passDays_25 ?_
        refine q_eqi (y := nI (d + j)) ((sDa_kp h8).d.trans hd) ?_
        refine lv_iconst (v := nI 1) hx hb dX0_passDays_28 (by decide) ?_
        refine q_iaddN (a := d + j) (b := 1) hx hb dX0_passDays_29 ?_
        refine lv_ldc (v := nI 99999) hx hb hown (hU _ mK_X0_104) dX0_passDays_30 ?_
        refine q_min hx hb (by rw [hml]; exact hl.1.symm) hown hU mL_X0_105 (Nat.le_of_ble_eq_true rfl) (Nat.le_of_ble_eq_true rfl) (Nat.zero_le _) (Nat.zero_le _) dX0_passDays_32 ?_
        refine q_eqi (y := nI (d + j + 1)) (if_neg (nI_nlt (by omega) (by omega))) ?_
        refine p0_day S hK hP hD hS dX0_passDays_35 (fun H locs hP hD hS => ?_)
        refine lv_iinc (v := nI (j + 1)) (lv' := [(2, .int (nI (j + 1))), (0, .ref (o 0)), (1, .int (nI t))]) hx hb dX0_passDays_38 hl (k := 2) rfl (q_inc _) (by decide) rfl (fun ls hl => ?_)
        refine lv_goto (tgt := 2) hx hb dX0_passDays_41 (by decide) ?_
        have eg : sGo f n (j + 1) = upd (sDa (sGo f n j) n) 1 (nI (d + j + 1)) := by
          show upd (sDa (sGo f n j) n) 1 (sDa (sGo f n j) n 1 + nI 1) = _
          rw [(sDa_kp h8).d, hd, nI_add]
        exact ih_2 (j + 1) _ _ ls (by omega) (by omega) (hw0.kl (sGo_kl h8)) (sGo_1 h8 hd0) (by rw [eg]; exact hP) (by rw [eg]; exact hD) hS (lv_sub hl [1, 2, 0] rfl)
  exact L_2 ((t - 0) + 1) 0 _ _ ls (Nat.lt_succ_self _) (Nat.zero_le t) (hw) (hd) hP hD hS (lv_sub hl [1, 2, 0] rfl)

/-! the class ThunderCasks -/
def cFi (r : Nat → Int32) (k : Nat) : Nat → Int32 := upd r k (r k + nI 1)
theorem nI_nleq {a b : Nat} (h : b < a) (h2 : a < 2147483648) : ¬ nI a ≤ nI b := fun q => by
  have := (nI_leI (by omega) (by omega)).mp q
  omega
theorem rg_le {x : Int32} {a b : Nat} (h : nI 0 ≤ x ∧ x ≤ nI a) (hab : a ≤ b) (hb : b < 2147483648) : nI 0 ≤ x ∧ x ≤ nI b := ⟨h.1, by
  have h2 := h.2
  rw [Int32.le_iff_toInt_le, nI_toInt (by omega)] at *
  omega⟩
theorem rg_eq {x : Int32} {a b : Nat} (h : x = nI a) (hab : a ≤ b) (hb : b < 2147483648) : nI 0 ≤ x ∧ x ≤ nI b := by
  rw [h]
  exact ⟨nI_le (by omega) (by omega), nI_le (by omega) (by omega)⟩
set_option maxRecDepth 100000 in
set_option maxHeartbeats 4000000 in
theorem c_X3_isWithin (l : Launch) (D : va_G) (cI cJ : ClassId) (t : Nat → Nat) (f g h : Nat → Int32) (τ : Nat → Nat → Int32) (x : Int32) (y : Int32) : RO l yX3_isWithin cX3_isWithin 2 (some .boolean) 0 D cI cJ (TW cI cJ t f g h τ) [.int x, .int y] (.int (bI (nI 0 ≤ x ∧ x ≤ y))) := by
  refine RO.of (by decide) (Nat.le_of_ble_eq_true rfl) (fun p e s m below meth c ls S hr hlk hK hP hl => ?_)
  obtain ⟨hx, hb, hml, hown, hU⟩ := id S
  have hl : lv_has ls 2 [(0, .int x), (1, .int y)] := hl
  refine lv_iload_n hx hb dX3_isWithin_0 rfl (lv_at hl 0 rfl) ?_
  refine lv_if_lt (tgt := 13) hx hb dX3_isWithin_1 (by decide) (fun c_1 => ?_) (fun c_1 => ?_)
  · refine lv_iconst (v := nI 0) hx hb dX3_isWithin_13 (by decide) ?_
    exact RO.zret S hr hlk (bI_f (fun q => i32_not_lt_of_le q.1 c_1)) dX3_isWithin_14
  · refine lv_iload_n hx hb dX3_isWithin_4 rfl (lv_at hl 0 rfl) ?_
    refine lv_iload_n hx hb dX3_isWithin_5 rfl (lv_at hl 1 rfl) ?_
    refine lv_icmp_gt (tgt := 13) hx hb dX3_isWithin_6 (by decide) (fun c_6 => ?_) (fun c_6 => ?_)
    · refine lv_iconst (v := nI 0) hx hb dX3_isWithin_13 (by decide) ?_
      exact RO.zret S hr hlk (bI_f (fun q => i32_not_lt_of_le q.2 c_6)) dX3_isWithin_14
    · refine lv_iconst (v := nI 1) hx hb dX3_isWithin_9 (by decide) ?_
      refine lv_goto (tgt := 14) hx hb dX3_isWithin_10 (by decide) ?_
      exact RO.zret S hr hlk (bI_t (⟨i32_le_of_not_lt c_1, i32_le_of_not_lt c_6⟩)) dX3_isWithin_14
set_option maxRecDepth 100000 in
set_option maxHeartbeats 4000000 in
theorem c_X3_isCask (l : Launch) (D : va_G) (cI cJ : ClassId) (t : Nat → Nat) (f g h : Nat → Int32) (τ : Nat → Nat → Int32) (x : Int32) (n : Nat) (hw : Wk f n) : RO l yX3_isCask cX3_isCask 2 (some .boolean) 1 D cI cJ (TW cI cJ t f g h τ) [.ref (t 0), .int x] (.int (bI (0 ≤ x ∧ x < nI n))) := by
  have h8 := hw.2.1
  refine RO.of (by decide) (Nat.le_of_ble_eq_true rfl) (fun p e s m below meth c ls S hr hlk hK hP hl => ?_)
  obtain ⟨hx, hb, hml, hown, hU⟩ := id S
  have hl : lv_has ls 2 [(0, .ref (t 0)), (1, .int x)] := hl
  refine lv_iload_n hx hb dX3_isCask_0 rfl (lv_at hl 1 rfl) ?_
  refine lv_aload_n hx hb dX3_isCask_1 rfl (lv_at hl 0 rfl) ?_
  refine g3_live S hK hP dX3_isCask_2 ?_
  refine g30_casks S hK (TW_live hP) dX3_isCask_5 ?_
  refine q_eqi (y := nI n) (hw.1) ?_
  refine lv_iconst (v := nI 1) hx hb dX3_isCask_8 (by decide) ?_
  refine lv_isub hx hb dX3_isCask_9 ?_
  refine RO.callS S ks_X3_44 (c_X3_isWithin l D cI cJ t f g h τ x ((nI n) - (nI 1))) hK hP ⟨Nat.le_of_ble_eq_true rfl, Nat.le_of_ble_eq_true rfl⟩ hl.1 rfl rfl (Nat.le_of_ble_eq_true rfl) (Nat.zero_le _) (Nat.zero_le _) dX3_isCask_10 ?_
  refine q_eqi (y := bI (0 ≤ x ∧ x < nI n)) (bI_iff (rcn (by omega))) ?_
  exact RO.zret S hr hlk (rfl) dX3_isCask_13
set_option maxRecDepth 100000 in
set_option maxHeartbeats 4000000 in
theorem c_X3_finding_at (l : Launch) (D : va_G) (cI cJ : ClassId) (t : Nat → Nat) (f g h : Nat → Int32) (τ : Nat → Nat → Int32) (q : Nat) (hq : q < 7) : WR l yX3_finding cX3_finding 2 (some .int) 0 D cI cJ (TW cI cJ t f g h τ) [.ref (t 0), .int (nI q)] (some (.int ((-1000001) - nI q))) (TW cI cJ t f g h (va_up τ 9 (cFi (τ 9) q))) := by
  refine WR.of (by decide) (Nat.le_of_ble_eq_true rfl) (fun p e s m below meth c ls A S hr hlk hK hP hD hS hA hl => ?_)
  obtain ⟨hx, hb, hml, hown, hU⟩ := id S
  have hl : lv_has ls 2 [(0, .ref (t 0)), (1, .int (nI q))] := hl
  refine lv_aload_n hx hb dX3_finding_0 rfl (lv_at hl 0 rfl) ?_
  refine g3_findings S hK hP dX3_finding_1 ?_
  refine lv_iload_n hx hb dX3_finding_4 rfl (lv_at hl 1 rfl) ?_
  refine lv_dup2_11 hx hb dX3_finding_5 rfl rfl ?_
  refine l3_findings S hK hP (j := q) (by omega) dX3_finding_6 ?_
  refine lv_iconst (v := nI 1) hx hb dX3_finding_7 (by decide) ?_
  refine lv_iadd hx hb dX3_finding_8 ?_
  refine s3_findings S hK hP hD hS (j := q) (by omega) dX3_finding_9 (fun H locs hP hD hS => ?_)
  refine lv_ldc (v := (-1000001)) hx hb hown (hU _ mK_X3_234) dX3_finding_10 ?_
  refine lv_iload_n hx hb dX3_finding_12 rfl (lv_at hl 1 rfl) ?_
  refine lv_isub hx hb dX3_finding_13 ?_
  exact WR.iret S hr hlk hP hS (rfl) rfl dX3_finding_14
theorem c_X3_fd0 (l : Launch) (D : va_G) (cI cJ : ClassId) (t : Nat → Nat) (f g h : Nat → Int32) (τ : Nat → Nat → Int32) : WR l yX3_finding cX3_finding 2 (some .int) 0 D cI cJ (TW cI cJ t f g h τ) [.ref (t 0), .int (nI 0)] (some (.int (-1000001))) (TW cI cJ t f g h (va_up τ 9 (cFi (τ 9) 0))) := by
  have h1 := c_X3_finding_at l D cI cJ t f g h τ 0 (by decide)
  rw [show (-1000001 : Int32) - nI 0 = -1000001 by decide] at h1
  exact h1
theorem c_X3_fd1 (l : Launch) (D : va_G) (cI cJ : ClassId) (t : Nat → Nat) (f g h : Nat → Int32) (τ : Nat → Nat → Int32) : WR l yX3_finding cX3_finding 2 (some .int) 0 D cI cJ (TW cI cJ t f g h τ) [.ref (t 0), .int (nI 1)] (some (.int (-1000002))) (TW cI cJ t f g h (va_up τ 9 (cFi (τ 9) 1))) := by
  have h1 := c_X3_finding_at l D cI cJ t f g h τ 1 (by decide)
  rw [show (-1000001 : Int32) - nI 1 = -1000002 by decide] at h1
  exact h1
theorem c_X3_fd2 (l : Launch) (D : va_G) (cI cJ : ClassId) (t : Nat → Nat) (f g h : Nat → Int32) (τ : Nat → Nat → Int32) : WR l yX3_finding cX3_finding 2 (some .int) 0 D cI cJ (TW cI cJ t f g h τ) [.ref (t 0), .int (nI 2)] (some (.int (-1000003))) (TW cI cJ t f g h (va_up τ 9 (cFi (τ 9) 2))) := by
  have h1 := c_X3_finding_at l D cI cJ t f g h τ 2 (by decide)
  rw [show (-1000001 : Int32) - nI 2 = -1000003 by decide] at h1
  exact h1
theorem c_X3_fd3 (l : Launch) (D : va_G) (cI cJ : ClassId) (t : Nat → Nat) (f g h : Nat → Int32) (τ : Nat → Nat → Int32) : WR l yX3_finding cX3_finding 2 (some .int) 0 D cI cJ (TW cI cJ t f g h τ) [.ref (t 0), .int (nI 3)] (some (.int (-1000004))) (TW cI cJ t f g h (va_up τ 9 (cFi (τ 9) 3))) := by
  have h1 := c_X3_finding_at l D cI cJ t f g h τ 3 (by decide)
  rw [show (-1000001 : Int32) - nI 3 = -1000004 by decide] at h1
  exact h1
theorem c_X3_fd4 (l : Launch) (D : va_G) (cI cJ : ClassId) (t : Nat → Nat) (f g h : Nat → Int32) (τ : Nat → Nat → Int32) : WR l yX3_finding cX3_finding 2 (some .int) 0 D cI cJ (TW cI cJ t f g h τ) [.ref (t 0), .int (nI 4)] (some (.int (-1000005))) (TW cI cJ t f g h (va_up τ 9 (cFi (τ 9) 4))) := by
  have h1 := c_X3_finding_at l D cI cJ t f g h τ 4 (by decide)
  rw [show (-1000001 : Int32) - nI 4 = -1000005 by decide] at h1
  exact h1
theorem c_X3_fd5 (l : Launch) (D : va_G) (cI cJ : ClassId) (t : Nat → Nat) (f g h : Nat → Int32) (τ : Nat → Nat → Int32) : WR l yX3_finding cX3_finding 2 (some .int) 0 D cI cJ (TW cI cJ t f g h τ) [.ref (t 0), .int (nI 5)] (some (.int (-1000006))) (TW cI cJ t f g h (va_up τ 9 (cFi (τ 9) 5))) := by
  have h1 := c_X3_finding_at l D cI cJ t f g h τ 5 (by decide)
  rw [show (-1000001 : Int32) - nI 5 = -1000006 by decide] at h1
  exact h1
theorem c_X3_fd6 (l : Launch) (D : va_G) (cI cJ : ClassId) (t : Nat → Nat) (f g h : Nat → Int32) (τ : Nat → Nat → Int32) : WR l yX3_finding cX3_finding 2 (some .int) 0 D cI cJ (TW cI cJ t f g h τ) [.ref (t 0), .int (nI 6)] (some (.int (-1000007))) (TW cI cJ t f g h (va_up τ 9 (cFi (τ 9) 6))) := by
  have h1 := c_X3_finding_at l D cI cJ t f g h τ 6 (by decide)
  rw [show (-1000001 : Int32) - nI 6 = -1000007 by decide] at h1
  exact h1
set_option maxRecDepth 100000 in
set_option maxHeartbeats 4000000 in
theorem c_X3_frost_ok (l : Launch) (D : va_G) (cI cJ : ClassId) (t : Nat → Nat) (f g h : Nat → Int32) (τ : Nat → Nat → Int32) (ce : Nat) (v : Nat) (hc : ce < 6) (hv : v ≤ 9) : WR l yX3_frost cX3_frost 4 (some .int) 1 D cI cJ (TW cI cJ t f g h τ) [.ref (t 0), .int (nI ce), .int (nI v)] (some (.int (f (4 + ce)))) (TW cI cJ t (upd f (4 + ce) (nI v)) g h τ) := by
  refine WR.of (by decide) (Nat.le_of_ble_eq_true rfl) (fun p e s m below meth c ls A S hr hlk hK hP hD hS hA hl => ?_)
  obtain ⟨hx, hb, hml, hown, hU⟩ := id S
  have hl : lv_has ls 4 [(0, .ref (t 0)), (1, .int (nI ce)), (2, .int (nI v))] := hl
  refine lv_iload_n hx hb dX3_frost_0 rfl (lv_at hl 1 rfl) ?_
  refine lv_iconst (v := nI 5) hx hb dX3_frost_1 (by decide) ?_
  refine RO.callS S ks_X3_44 (c_X3_isWithin l D cI cJ t f g h τ (nI ce) (nI 5)) hK hP ⟨Nat.le_of_ble_eq_true rfl, Nat.le_of_ble_eq_true rfl⟩ hl.1 rfl rfl (Nat.le_of_ble_eq_true rfl) (Nat.zero_le _) (Nat.zero_le _) dX3_frost_2 ?_
  refine q_if_eqB (tgt := 17) hx hb dX3_frost_5 (by decide) (fun h => absurd (⟨nI_le (by omega) (by omega), nI_le (by omega) (by omega)⟩) h) (fun _ => ?_)
  refine lv_iload_n hx hb dX3_frost_8 rfl (lv_at hl 2 rfl) ?_
  refine lv_bipush (v := nI 9) hx hb dX3_frost_9 (by decide) ?_
  refine RO.callS S ks_X3_44 (c_X3_isWithin l D cI cJ t f g h τ (nI v) (nI 9)) hK hP ⟨Nat.le_of_ble_eq_true rfl, Nat.le_of_ble_eq_true rfl⟩ hl.1 rfl rfl (Nat.le_of_ble_eq_true rfl) (Nat.zero_le _) (Nat.zero_le _) dX3_frost_11 ?_
  refine q_if_neB (tgt := 23) hx hb dX3_frost_14 (by decide) (fun _ => ?_) (fun h => absurd (⟨nI_le (by omega) (by omega), nI_le (by omega) (by omega)⟩) h)
  refine lv_aload_n hx hb dX3_frost_23 rfl (lv_at hl 0 rfl) ?_
  refine g3_live S hK hP dX3_frost_24 ?_
  refine g30_frosts S hK (TW_live hP) dX3_frost_27 ?_
  refine lv_iload_n hx hb dX3_frost_30 rfl (lv_at hl 1 rfl) ?_
  refine l0_frosts S hK (TW_live hP) (j := ce) (by omega) dX3_frost_31 ?_
  refine lv_istore_n (lv' := [(3, .int (f (4 + ce))), (0, .ref (t 0)), (1, .int (nI ce)), (2, .int (nI v))]) hx hb dX3_frost_32 rfl hl (by decide) rfl (fun ls hl => ?_)
  refine lv_aload_n hx hb dX3_frost_33 rfl (lv_at hl 1 rfl) ?_
  refine g3_live S hK hP dX3_frost_34 ?_
  refine g30_frosts S hK (TW_live hP) dX3_frost_37 ?_
  refine lv_iload_n hx hb dX3_frost_40 rfl (lv_at hl 2 rfl) ?_
  refine lv_iload_n hx hb dX3_frost_41 rfl (lv_at hl 3 rfl) ?_
  refine ss_frosts (w1 := TW cI cJ t (upd f (4 + ce) (nI v)) g h τ) S hK hP hD hS TW_s1 (j := ce) (by omega) TW_s1 dX3_frost_42 (fun H locs hP hD hS => ?_)
  refine lv_iload_n hx hb dX3_frost_43 rfl (lv_at hl 0 rfl) ?_
  exact WR.iret S hr hlk hP hS (rfl) rfl dX3_frost_44
set_option maxRecDepth 100000 in
set_option maxHeartbeats 4000000 in
theorem c_X3_frost_bad (l : Launch) (D : va_G) (cI cJ : ClassId) (t : Nat → Nat) (f g h : Nat → Int32) (τ : Nat → Nat → Int32) (x : Int32) (y : Int32) (hb0 : ¬ ((nI 0 ≤ x ∧ x ≤ nI 5) ∧ (nI 0 ≤ y ∧ y ≤ nI 9))) : WR l yX3_frost cX3_frost 4 (some .int) 1 D cI cJ (TW cI cJ t f g h τ) [.ref (t 0), .int x, .int y] (some (.int (-1000001))) (TW cI cJ t f g h (va_up τ 9 (cFi (τ 9) 0))) := by
  refine WR.of (by decide) (Nat.le_of_ble_eq_true rfl) (fun p e s m below meth c ls A S hr hlk hK hP hD hS hA hl => ?_)
  obtain ⟨hx, hb, hml, hown, hU⟩ := id S
  have hl : lv_has ls 4 [(0, .ref (t 0)), (1, .int x), (2, .int y)] := hl
  refine lv_iload_n hx hb dX3_frost_0 rfl (lv_at hl 1 rfl) ?_
  refine lv_iconst (v := nI 5) hx hb dX3_frost_1 (by decide) ?_
  refine RO.callS S ks_X3_44 (c_X3_isWithin l D cI cJ t f g h τ x (nI 5)) hK hP ⟨Nat.le_of_ble_eq_true rfl, Nat.le_of_ble_eq_true rfl⟩ hl.1 rfl rfl (Nat.le_of_ble_eq_true rfl) (Nat.zero_le _) (Nat.zero_le _) dX3_frost_2 ?_
  refine q_if_eqB (tgt := 17) hx hb dX3_frost_5 (by decide) (fun c_5 => ?_) (fun c_5 => ?_)
  · refine lv_aload_n hx hb dX3_frost_17 rfl (lv_at hl 0 rfl) ?_
    refine lv_iconst (v := nI 0) hx hb dX3_frost_18 (by decide) ?_
    refine WR.callV (w1 := TW cI cJ t f g h (va_up τ 9 (cFi (τ 9) 0))) S kv_X3_48 (c_X3_fd0 l D cI cJ t f g h τ) hK hP hD hS hA ([]) ([]) (List.append_nil _).symm (List.append_nil _).symm TW_fst rfl ⟨Nat.le_of_ble_eq_true rfl, Nat.le_of_ble_eq_true rfl⟩ hl.1 rfl rfl (Nat.le_of_ble_eq_true rfl) (Nat.zero_le _) (Nat.zero_le _) dX3_frost_19 (fun H locs hP hD hS => ?_)
    exact WR.iret S hr hlk hP hS (rfl) rfl dX3_frost_22
  · refine lv_iload_n hx hb dX3_frost_8 rfl (lv_at hl 2 rfl) ?_
    refine lv_bipush (v := nI 9) hx hb dX3_frost_9 (by decide) ?_
    refine RO.callS S ks_X3_44 (c_X3_isWithin l D cI cJ t f g h τ y (nI 9)) hK hP ⟨Nat.le_of_ble_eq_true rfl, Nat.le_of_ble_eq_true rfl⟩ hl.1 rfl rfl (Nat.le_of_ble_eq_true rfl) (Nat.zero_le _) (Nat.zero_le _) dX3_frost_11 ?_
    refine q_if_neB (tgt := 23) hx hb dX3_frost_14 (by decide) (fun c_14 => ?_) (fun c_14 => ?_)
    · exact absurd (⟨c_5, c_14⟩) hb0
    · refine lv_aload_n hx hb dX3_frost_17 rfl (lv_at hl 0 rfl) ?_
      refine lv_iconst (v := nI 0) hx hb dX3_frost_18 (by decide) ?_
      refine WR.callV (w1 := TW cI cJ t f g h (va_up τ 9 (cFi (τ 9) 0))) S kv_X3_48 (c_X3_fd0 l D cI cJ t f g h τ) hK hP hD hS hA ([]) ([]) (List.append_nil _).symm (List.append_nil _).symm TW_fst rfl ⟨Nat.le_of_ble_eq_true rfl, Nat.le_of_ble_eq_true rfl⟩ hl.1 rfl rfl (Nat.le_of_ble_eq_true rfl) (Nat.zero_le _) (Nat.zero_le _) dX3_frost_19 (fun H locs hP hD hS => ?_)
      exact WR.iret S hr hlk hP hS (rfl) rfl dX3_frost_22
set_option maxRecDepth 100000 in
set_option maxHeartbeats 4000000 in
theorem c_X3_storm_ok (l : Launch) (D : va_G) (cI cJ : ClassId) (t : Nat → Nat) (f g h : Nat → Int32) (τ : Nat → Nat → Int32) (ce : Nat) (v : Nat) (hc : ce < 6) (hv : v ≤ 99) : WR l yX3_storm cX3_storm 4 (some .int) 1 D cI cJ (TW cI cJ t f g h τ) [.ref (t 0), .int (nI ce), .int (nI v)] (some (.int (f (10 + ce)))) (TW cI cJ t (upd f (10 + ce) (nI v)) g h τ) := by
  refine WR.of (by decide) (Nat.le_of_ble_eq_true rfl) (fun p e s m below meth c ls A S hr hlk hK hP hD hS hA hl => ?_)
  obtain ⟨hx, hb, hml, hown, hU⟩ := id S
  have hl : lv_has ls 4 [(0, .ref (t 0)), (1, .int (nI ce)), (2, .int (nI v))] := hl
  refine lv_iload_n hx hb dX3_storm_0 rfl (lv_at hl 1 rfl) ?_
  refine lv_iconst (v := nI 5) hx hb dX3_storm_1 (by decide) ?_
  refine RO.callS S ks_X3_44 (c_X3_isWithin l D cI cJ t f g h τ (nI ce) (nI 5)) hK hP ⟨Nat.le_of_ble_eq_true rfl, Nat.le_of_ble_eq_true rfl⟩ hl.1 rfl rfl (Nat.le_of_ble_eq_true rfl) (Nat.zero_le _) (Nat.zero_le _) dX3_storm_2 ?_
  refine q_if_eqB (tgt := 17) hx hb dX3_storm_5 (by decide) (fun h => absurd (⟨nI_le (by omega) (by omega), nI_le (by omega) (by omega)⟩) h) (fun _ => ?_)
  refine lv_iload_n hx hb dX3_storm_8 rfl (lv_at hl 2 rfl) ?_
  refine lv_bipush (v := nI 99) hx hb dX3_storm_9 (by decide) ?_
  refine RO.callS S ks_X3_44 (c_X3_isWithin l D cI cJ t f g h τ (nI v) (nI 99)) hK hP ⟨Nat.le_of_ble_eq_true rfl, Nat.le_of_ble_eq_true rfl⟩ hl.1 rfl rfl (Nat.le_of_ble_eq_true rfl) (Nat.zero_le _) (Nat.zero_le _) dX3_storm_11 ?_
  refine q_if_neB (tgt := 23) hx hb dX3_storm_14 (by decide) (fun _ => ?_) (fun h => absurd (⟨nI_le (by omega) (by omega), nI_le (by omega) (by omega)⟩) h)
  refine lv_aload_n hx hb dX3_storm_23 rfl (lv_at hl 0 rfl) ?_
  refine g3_live S hK hP dX3_storm_24 ?_
  refine g30_list S hK (TW_live hP) dX3_storm_27 ?_
  refine lv_iload_n hx hb dX3_storm_30 rfl (lv_at hl 1 rfl) ?_
  refine l0_list S hK (TW_live hP) (j := ce) (by omega) dX3_storm_31 ?_
  refine lv_istore_n (lv' := [(3, .int (f (10 + ce))), (0, .ref (t 0)), (1, .int (nI ce)), (2, .int (nI v))]) hx hb dX3_storm_32 rfl hl (by decide) rfl (fun ls hl => ?_)
  refine lv_aload_n hx hb dX3_storm_33 rfl (lv_at hl 1 rfl) ?_
  refine g3_live S hK hP dX3_storm_34 ?_
  refine g30_list S hK (TW_live hP) dX3_storm_37 ?_
  refine lv_iload_n hx hb dX3_storm_40 rfl (lv_at hl 2 rfl) ?_
  refine lv_iload_n hx hb dX3_storm_41 rfl (lv_at hl 3 rfl) ?_
  refine ss_list (w1 := TW cI cJ t (upd f (10 + ce) (nI v)) g h τ) S hK hP hD hS TW_s1 (j := ce) (by omega) TW_s1 dX3_storm_42 (fun H locs hP hD hS => ?_)
  refine lv_iload_n hx hb dX3_storm_43 rfl (lv_at hl 0 rfl) ?_
  exact WR.iret S hr hlk hP hS (rfl) rfl dX3_storm_44
set_option maxRecDepth 100000 in
set_option maxHeartbeats 4000000 in
theorem c_X3_storm_bad (l : Launch) (D : va_G) (cI cJ : ClassId) (t : Nat → Nat) (f g h : Nat → Int32) (τ : Nat → Nat → Int32) (x : Int32) (y : Int32) (hb0 : ¬ ((nI 0 ≤ x ∧ x ≤ nI 5) ∧ (nI 0 ≤ y ∧ y ≤ nI 99))) : WR l yX3_storm cX3_storm 4 (some .int) 1 D cI cJ (TW cI cJ t f g h τ) [.ref (t 0), .int x, .int y] (some (.int (-1000001))) (TW cI cJ t f g h (va_up τ 9 (cFi (τ 9) 0))) := by
  refine WR.of (by decide) (Nat.le_of_ble_eq_true rfl) (fun p e s m below meth c ls A S hr hlk hK hP hD hS hA hl => ?_)
  obtain ⟨hx, hb, hml, hown, hU⟩ := id S
  have hl : lv_has ls 4 [(0, .ref (t 0)), (1, .int x), (2, .int y)] := hl
  refine lv_iload_n hx hb dX3_storm_0 rfl (lv_at hl 1 rfl) ?_
  refine lv_iconst (v := nI 5) hx hb dX3_storm_1 (by decide) ?_
  refine RO.callS S ks_X3_44 (c_X3_isWithin l D cI cJ t f g h τ x (nI 5)) hK hP ⟨Nat.le_of_ble_eq_true rfl, Nat.le_of_ble_eq_true rfl⟩ hl.1 rfl rfl (Nat.le_of_ble_eq_true rfl) (Nat.zero_le _) (Nat.zero_le _) dX3_storm_2 ?_
  refine q_if_eqB (tgt := 17) hx hb dX3_storm_5 (by decide) (fun c_5 => ?_) (fun c_5 => ?_)
  · refine lv_aload_n hx hb dX3_storm_17 rfl (lv_at hl 0 rfl) ?_
    refine lv_iconst (v := nI 0) hx hb dX3_storm_18 (by decide) ?_
    refine WR.callV (w1 := TW cI cJ t f g h (va_up τ 9 (cFi (τ 9) 0))) S kv_X3_48 (c_X3_fd0 l D cI cJ t f g h τ) hK hP hD hS hA ([]) ([]) (List.append_nil _).symm (List.append_nil _).symm TW_fst rfl ⟨Nat.le_of_ble_eq_true rfl, Nat.le_of_ble_eq_true rfl⟩ hl.1 rfl rfl (Nat.le_of_ble_eq_true rfl) (Nat.zero_le _) (Nat.zero_le _) dX3_storm_19 (fun H locs hP hD hS => ?_)
    exact WR.iret S hr hlk hP hS (rfl) rfl dX3_storm_22
  · refine lv_iload_n hx hb dX3_storm_8 rfl (lv_at hl 2 rfl) ?_
    refine lv_bipush (v := nI 99) hx hb dX3_storm_9 (by decide) ?_
    refine RO.callS S ks_X3_44 (c_X3_isWithin l D cI cJ t f g h τ y (nI 99)) hK hP ⟨Nat.le_of_ble_eq_true rfl, Nat.le_of_ble_eq_true rfl⟩ hl.1 rfl rfl (Nat.le_of_ble_eq_true rfl) (Nat.zero_le _) (Nat.zero_le _) dX3_storm_11 ?_
    refine q_if_neB (tgt := 23) hx hb dX3_storm_14 (by decide) (fun c_14 => ?_) (fun c_14 => ?_)
    · exact absurd (⟨c_5, c_14⟩) hb0
    · refine lv_aload_n hx hb dX3_storm_17 rfl (lv_at hl 0 rfl) ?_
      refine lv_iconst (v := nI 0) hx hb dX3_storm_18 (by decide) ?_
      refine WR.callV (w1 := TW cI cJ t f g h (va_up τ 9 (cFi (τ 9) 0))) S kv_X3_48 (c_X3_fd0 l D cI cJ t f g h τ) hK hP hD hS hA ([]) ([]) (List.append_nil _).symm (List.append_nil _).symm TW_fst rfl ⟨Nat.le_of_ble_eq_true rfl, Nat.le_of_ble_eq_true rfl⟩ hl.1 rfl rfl (Nat.le_of_ble_eq_true rfl) (Nat.zero_le _) (Nat.zero_le _) dX3_storm_19 (fun H locs hP hD hS => ?_)
      exact WR.iret S hr hlk hP hS (rfl) rfl dX3_storm_22
set_option maxRecDepth 100000 in
set_option maxHeartbeats 4000000 in
theorem c_X3_cellar_ok0 (l : Launch) (D : va_G) (cI cJ : ClassId) (t : Nat → Nat) (f g h : Nat → Int32) (τ : Nat → Nat → Int32) (ce : Nat) (hc : ce < 6) (n : Nat) (hw : Wk f n) : WR l yX3_cellar cX3_cellar 3 (some .int) 1 D cI cJ (TW cI cJ t f g h τ) [.ref (t 0), .int (nI ce), .int (nI 0)] (some (.int (f (4 + ce)))) (TW cI cJ t f g h τ) := by
  refine WR.of (by decide) (Nat.le_of_ble_eq_true rfl) (fun p e s m below meth c ls A S hr hlk hK hP hD hS hA hl => ?_)
  obtain ⟨hx, hb, hml, hown, hU⟩ := id S
  have hl : lv_has ls 3 [(0, .ref (t 0)), (1, .int (nI ce)), (2, .int (nI 0))] := hl
  refine lv_iload_n hx hb dX3_cellar_0 rfl (lv_at hl 1 rfl) ?_
  refine lv_iconst (v := nI 5) hx hb dX3_cellar_1 (by decide) ?_
  refine RO.callS S ks_X3_44 (c_X3_isWithin l D cI cJ t f g h τ (nI ce) (nI 5)) hK hP ⟨Nat.le_of_ble_eq_true rfl, Nat.le_of_ble_eq_true rfl⟩ hl.1 rfl rfl (Nat.le_of_ble_eq_true rfl) (Nat.zero_le _) (Nat.zero_le _) dX3_cellar_2 ?_
  refine q_if_neB (tgt := 14) hx hb dX3_cellar_5 (by decide) (fun _ => ?_) (fun h => absurd (⟨nI_le (by omega) (by omega), nI_le (by omega) (by omega)⟩) h)
  refine lv_iload_n hx hb dX3_cellar_14 rfl (lv_at hl 2 rfl) ?_
  refine lv_tableIn (tgt := 44) hx hb dX3_cellar_15 (by decide) (by decide) rfl (by decide) ?_
  refine lv_aload_n hx hb dX3_cellar_44 rfl (lv_at hl 0 rfl) ?_
  refine g3_live S hK hP dX3_cellar_45 ?_
  refine g30_frosts S hK (TW_live hP) dX3_cellar_48 ?_
  refine lv_iload_n hx hb dX3_cellar_51 rfl (lv_at hl 1 rfl) ?_
  refine l0_frosts S hK (TW_live hP) (j := ce) (by omega) dX3_cellar_52 ?_
  exact WR.iret S hr hlk hP hS (rfl) rfl dX3_cellar_53
set_option maxRecDepth 100000 in
set_option maxHeartbeats 4000000 in
theorem c_X3_cellar_ok1 (l : Launch) (D : va_G) (cI cJ : ClassId) (t : Nat → Nat) (f g h : Nat → Int32) (τ : Nat → Nat → Int32) (ce : Nat) (hc : ce < 6) (n : Nat) (hw : Wk f n) : WR l yX3_cellar cX3_cellar 3 (some .int) 1 D cI cJ (TW cI cJ t f g h τ) [.ref (t 0), .int (nI ce), .int (nI 1)] (some (.int (f (10 + ce)))) (TW cI cJ t f g h τ) := by
  refine WR.of (by decide) (Nat.le_of_ble_eq_true rfl) (fun p e s m below meth c ls A S hr hlk hK hP hD hS hA hl => ?_)
  obtain ⟨hx, hb, hml, hown, hU⟩ := id S
  have hl : lv_has ls 3 [(0, .ref (t 0)), (1, .int (nI ce)), (2, .int (nI 1))] := hl
  refine lv_iload_n hx hb dX3_cellar_0 rfl (lv_at hl 1 rfl) ?_
  refine lv_iconst (v := nI 5) hx hb dX3_cellar_1 (by decide) ?_
  refine RO.callS S ks_X3_44 (c_X3_isWithin l D cI cJ t f g h τ (nI ce) (nI 5)) hK hP ⟨Nat.le_of_ble_eq_true rfl, Nat.le_of_ble_eq_true rfl⟩ hl.1 rfl rfl (Nat.le_of_ble_eq_true rfl) (Nat.zero_le _) (Nat.zero_le _) dX3_cellar_2 ?_
  refine q_if_neB (tgt := 14) hx hb dX3_cellar_5 (by decide) (fun _ => ?_) (fun h => absurd (⟨nI_le (by omega) (by omega), nI_le (by omega) (by omega)⟩) h)
  refine lv_iload_n hx hb dX3_cellar_14 rfl (lv_at hl 2 rfl) ?_
  refine lv_tableIn (tgt := 54) hx hb dX3_cellar_15 (by decide) (by decide) rfl (by decide) ?_
  refine lv_aload_n hx hb dX3_cellar_54 rfl (lv_at hl 0 rfl) ?_
  refine g3_live S hK hP dX3_cellar_55 ?_
  refine g30_list S hK (TW_live hP) dX3_cellar_58 ?_
  refine lv_iload_n hx hb dX3_cellar_61 rfl (lv_at hl 1 rfl) ?_
  refine l0_list S hK (TW_live hP) (j := ce) (by omega) dX3_cellar_62 ?_
  exact WR.iret S hr hlk hP hS (rfl) rfl dX3_cellar_63
set_option maxRecDepth 100000 in
set_option maxHeartbeats 4000000 in
theorem c_X3_cellar_ok2 (l : Launch) (D : va_G) (cI cJ : ClassId) (t : Nat → Nat) (f g h : Nat → Int32) (τ : Nat → Nat → Int32) (ce : Nat) (hc : ce < 6) (n : Nat) (hw : Wk f n) : WR l yX3_cellar cX3_cellar 3 (some .int) 1 D cI cJ (TW cI cJ t f g h τ) [.ref (t 0), .int (nI ce), .int (nI 2)] (some (.int (nI (sTh f (nI ce) n)))) (TW cI cJ t f g h τ) := by
  refine WR.of (by decide) (Nat.le_of_ble_eq_true rfl) (fun p e s m below meth c ls A S hr hlk hK hP hD hS hA hl => ?_)
  obtain ⟨hx, hb, hml, hown, hU⟩ := id S
  have hl : lv_has ls 3 [(0, .ref (t 0)), (1, .int (nI ce)), (2, .int (nI 2))] := hl
  refine lv_iload_n hx hb dX3_cellar_0 rfl (lv_at hl 1 rfl) ?_
  refine lv_iconst (v := nI 5) hx hb dX3_cellar_1 (by decide) ?_
  refine RO.callS S ks_X3_44 (c_X3_isWithin l D cI cJ t f g h τ (nI ce) (nI 5)) hK hP ⟨Nat.le_of_ble_eq_true rfl, Nat.le_of_ble_eq_true rfl⟩ hl.1 rfl rfl (Nat.le_of_ble_eq_true rfl) (Nat.zero_le _) (Nat.zero_le _) dX3_cellar_2 ?_
  refine q_if_neB (tgt := 14) hx hb dX3_cellar_5 (by decide) (fun _ => ?_) (fun h => absurd (⟨nI_le (by omega) (by omega), nI_le (by omega) (by omega)⟩) h)
  refine lv_iload_n hx hb dX3_cellar_14 rfl (lv_at hl 2 rfl) ?_
  refine lv_tableIn (tgt := 64) hx hb dX3_cellar_15 (by decide) (by decide) rfl (by decide) ?_
  refine lv_aload_n hx hb dX3_cellar_64 rfl (lv_at hl 0 rfl) ?_
  refine g3_live S hK hP dX3_cellar_65 ?_
  refine lv_iload_n hx hb dX3_cellar_68 rfl (lv_at hl 1 rfl) ?_
  refine RO.callV S kv_X3_58 (c_X0_setIn l D cI cJ (sf t 1) f (nI ce) n (hw)) hK (TW_live hP) rfl ⟨Nat.le_of_ble_eq_true rfl, Nat.le_of_ble_eq_true rfl⟩ hl.1 rfl rfl (Nat.le_of_ble_eq_true rfl) (Nat.zero_le _) (Nat.zero_le _) dX3_cellar_69 ?_
  exact WR.iret S hr hlk hP hS (rfl) rfl dX3_cellar_72
set_option maxRecDepth 100000 in
set_option maxHeartbeats 4000000 in
theorem c_X3_cellar_ok3 (l : Launch) (D : va_G) (cI cJ : ClassId) (t : Nat → Nat) (f g h : Nat → Int32) (τ : Nat → Nat → Int32) (ce : Nat) (hc : ce < 6) (n : Nat) (hw : Wk f n) : WR l yX3_cellar cX3_cellar 3 (some .int) 1 D cI cJ (TW cI cJ t f g h τ) [.ref (t 0), .int (nI ce), .int (nI 3)] (some (.int (oI (sEm f (nI ce) n)))) (TW cI cJ t f g h τ) := by
  refine WR.of (by decide) (Nat.le_of_ble_eq_true rfl) (fun p e s m below meth c ls A S hr hlk hK hP hD hS hA hl => ?_)
  obtain ⟨hx, hb, hml, hown, hU⟩ := id S
  have hl : lv_has ls 3 [(0, .ref (t 0)), (1, .int (nI ce)), (2, .int (nI 3))] := hl
  refine lv_iload_n hx hb dX3_cellar_0 rfl (lv_at hl 1 rfl) ?_
  refine lv_iconst (v := nI 5) hx hb dX3_cellar_1 (by decide) ?_
  refine RO.callS S ks_X3_44 (c_X3_isWithin l D cI cJ t f g h τ (nI ce) (nI 5)) hK hP ⟨Nat.le_of_ble_eq_true rfl, Nat.le_of_ble_eq_true rfl⟩ hl.1 rfl rfl (Nat.le_of_ble_eq_true rfl) (Nat.zero_le _) (Nat.zero_le _) dX3_cellar_2 ?_
  refine q_if_neB (tgt := 14) hx hb dX3_cellar_5 (by decide) (fun _ => ?_) (fun h => absurd (⟨nI_le (by omega) (by omega), nI_le (by omega) (by omega)⟩) h)
  refine lv_iload_n hx hb dX3_cellar_14 rfl (lv_at hl 2 rfl) ?_
  refine lv_tableIn (tgt := 73) hx hb dX3_cellar_15 (by decide) (by decide) rfl (by decide) ?_
  refine lv_aload_n hx hb dX3_cellar_73 rfl (lv_at hl 0 rfl) ?_
  refine g3_live S hK hP dX3_cellar_74 ?_
  refine lv_iload_n hx hb dX3_cellar_77 rfl (lv_at hl 1 rfl) ?_
  refine RO.callV S kv_X3_61 (c_X0_catcherIn l D cI cJ (sf t 1) f (nI ce) n (hw)) hK (TW_live hP) rfl ⟨Nat.le_of_ble_eq_true rfl, Nat.le_of_ble_eq_true rfl⟩ hl.1 rfl rfl (Nat.le_of_ble_eq_true rfl) (Nat.zero_le _) (Nat.zero_le _) dX3_cellar_78 ?_
  exact WR.iret S hr hlk hP hS (rfl) rfl dX3_cellar_81
set_option maxRecDepth 100000 in
set_option maxHeartbeats 4000000 in
theorem c_X3_cask_ok (l : Launch) (D : va_G) (cI cJ : ClassId) (t : Nat → Nat) (f g h : Nat → Int32) (τ : Nat → Nat → Int32) (q : Nat) (ce : Nat) (hq : q ≤ 6) (hc : ce < 6) (n : Nat) (hw : Wk f n) (hn8 : n < 8) : WR l yX3_cask cX3_cask 3 (some .int) 1 D cI cJ (TW cI cJ t f g h τ) [.ref (t 0), .int (nI q), .int (nI ce)] (some (.int (nI n))) (TW cI cJ t (sAd f n (nI q) (nI ce)) g h τ) := by
  refine WR.of (by decide) (Nat.le_of_ble_eq_true rfl) (fun p e s m below meth c ls A S hr hlk hK hP hD hS hA hl => ?_)
  obtain ⟨hx, hb, hml, hown, hU⟩ := id S
  have hl : lv_has ls 3 [(0, .ref (t 0)), (1, .int (nI q)), (2, .int (nI ce))] := hl
  refine lv_iload_n hx hb dX3_cask_0 rfl (lv_at hl 1 rfl) ?_
  refine lv_bipush (v := nI 6) hx hb dX3_cask_1 (by decide) ?_
  refine RO.callS S ks_X3_44 (c_X3_isWithin l D cI cJ t f g h τ (nI q) (nI 6)) hK hP ⟨Nat.le_of_ble_eq_true rfl, Nat.le_of_ble_eq_true rfl⟩ hl.1 rfl rfl (Nat.le_of_ble_eq_true rfl) (Nat.zero_le _) (Nat.zero_le _) dX3_cask_3 ?_
  refine q_if_eqB (tgt := 17) hx hb dX3_cask_6 (by decide) (fun h => absurd (⟨nI_le (by omega) (by omega), nI_le (by omega) (by omega)⟩) h) (fun _ => ?_)
  refine lv_iload_n hx hb dX3_cask_9 rfl (lv_at hl 2 rfl) ?_
  refine lv_iconst (v := nI 5) hx hb dX3_cask_10 (by decide) ?_
  refine RO.callS S ks_X3_44 (c_X3_isWithin l D cI cJ t f g h τ (nI ce) (nI 5)) hK hP ⟨Nat.le_of_ble_eq_true rfl, Nat.le_of_ble_eq_true rfl⟩ hl.1 rfl rfl (Nat.le_of_ble_eq_true rfl) (Nat.zero_le _) (Nat.zero_le _) dX3_cask_11 ?_
  refine q_if_neB (tgt := 23) hx hb dX3_cask_14 (by decide) (fun _ => ?_) (fun h => absurd (⟨nI_le (by omega) (by omega), nI_le (by omega) (by omega)⟩) h)
  refine lv_aload_n hx hb dX3_cask_23 rfl (lv_at hl 0 rfl) ?_
  refine g3_live S hK hP dX3_cask_24 ?_
  refine g30_casks S hK (TW_live hP) dX3_cask_27 ?_
  refine q_eqi (y := nI n) (hw.1) ?_
  refine lv_bipush (v := nI 8) hx hb dX3_cask_30 (by decide) ?_
  refine q_icmp_ltN (tgt := 41) (a := n) (b := 8) hx hb dX3_cask_32 (by decide) (by omega) (by omega) (fun _ => ?_) (fun h => absurd h (by omega))
  refine lv_aload_n hx hb dX3_cask_41 rfl (lv_at hl 0 rfl) ?_
  refine g3_live S hK hP dX3_cask_42 ?_
  refine lv_iload_n hx hb dX3_cask_45 rfl (lv_at hl 1 rfl) ?_
  refine lv_iload_n hx hb dX3_cask_46 rfl (lv_at hl 2 rfl) ?_
  refine WR.callV (w1 := TW cI cJ t (sAd f n (nI q) (nI ce)) g h τ) S kv_X3_68 (c_X0_addCask l D cI cJ (sf t 1) f (nI q) (nI ce) n (hw.1) (by omega)) hK hP hD hS hA (_) (_) TW_s1 TW_s1 PW_fst rfl ⟨Nat.le_of_ble_eq_true rfl, Nat.le_of_ble_eq_true rfl⟩ hl.1 rfl rfl (Nat.le_of_ble_eq_true rfl) (Nat.zero_le _) (Nat.zero_le _) dX3_cask_47 (fun H locs hP hD hS => ?_)
  exact WR.iret S hr hlk hP hS (rfl) rfl dX3_cask_50
set_option maxRecDepth 100000 in
set_option maxHeartbeats 4000000 in
theorem c_X3_cask_full (l : Launch) (D : va_G) (cI cJ : ClassId) (t : Nat → Nat) (f g h : Nat → Int32) (τ : Nat → Nat → Int32) (q : Nat) (ce : Nat) (hq : q ≤ 6) (hc : ce < 6) (n : Nat) (hw : Wk f n) (hn8 : n = 8) : WR l yX3_cask cX3_cask 3 (some .int) 1 D cI cJ (TW cI cJ t f g h τ) [.ref (t 0), .int (nI q), .int (nI ce)] (some (.int (-1000002))) (TW cI cJ t f g h (va_up τ 9 (cFi (τ 9) 1))) := by
  refine WR.of (by decide) (Nat.le_of_ble_eq_true rfl) (fun p e s m below meth c ls A S hr hlk hK hP hD hS hA hl => ?_)
  obtain ⟨hx, hb, hml, hown, hU⟩ := id S
  have hl : lv_has ls 3 [(0, .ref (t 0)), (1, .int (nI q)), (2, .int (nI ce))] := hl
  refine lv_iload_n hx hb dX3_cask_0 rfl (lv_at hl 1 rfl) ?_
  refine lv_bipush (v := nI 6) hx hb dX3_cask_1 (by decide) ?_
  refine RO.callS S ks_X3_44 (c_X3_isWithin l D cI cJ t f g h τ (nI q) (nI 6)) hK hP ⟨Nat.le_of_ble_eq_true rfl, Nat.le_of_ble_eq_true rfl⟩ hl.1 rfl rfl (Nat.le_of_ble_eq_true rfl) (Nat.zero_le _) (Nat.zero_le _) dX3_cask_3 ?_
  refine q_if_eqB (tgt := 17) hx hb dX3_cask_6 (by decide) (fun h => absurd (⟨nI_le (by omega) (by omega), nI_le (by omega) (by omega)⟩) h) (fun _ => ?_)
  refine lv_iload_n hx hb dX3_cask_9 rfl (lv_at hl 2 rfl) ?_
  refine lv_iconst (v := nI 5) hx hb dX3_cask_10 (by decide) ?_
  refine RO.callS S ks_X3_44 (c_X3_isWithin l D cI cJ t f g h τ (nI ce) (nI 5)) hK hP ⟨Nat.le_of_ble_eq_true rfl, Nat.le_of_ble_eq_true rfl⟩ hl.1 rfl rfl (Nat.le_of_ble_eq_true rfl) (Nat.zero_le _) (Nat.zero_le _) dX3_cask_11 ?_
  refine q_if_neB (tgt := 23) hx hb dX3_cask_14 (by decide) (fun _ => ?_) (fun h => absurd (⟨nI_le (by omega) (by omega), nI_le (by omega) (by omega)⟩) h)
  refine lv_aload_n hx hb dX3_cask_23 rfl (lv_at hl 0 rfl) ?_
  refine g3_live S hK hP dX3_cask_24 ?_
  refine g30_casks S hK (TW_live hP) dX3_cask_27 ?_
  refine q_eqi (y := nI n) (hw.1) ?_
  refine lv_bipush (v := nI 8) hx hb dX3_cask_30 (by decide) ?_
  refine q_icmp_ltN (tgt := 41) (a := n) (b := 8) hx hb dX3_cask_32 (by decide) (by omega) (by omega) (fun h => absurd h (by omega)) (fun _ => ?_)
  refine lv_aload_n hx hb dX3_cask_35 rfl (lv_at hl 0 rfl) ?_
  refine lv_iconst (v := nI 1) hx hb dX3_cask_36 (by decide) ?_
  refine WR.callV (w1 := TW cI cJ t f g h (va_up τ 9 (cFi (τ 9) 1))) S kv_X3_48 (c_X3_fd1 l D cI cJ t f g h τ) hK hP hD hS hA ([]) ([]) (List.append_nil _).symm (List.append_nil _).symm TW_fst rfl ⟨Nat.le_of_ble_eq_true rfl, Nat.le_of_ble_eq_true rfl⟩ hl.1 rfl rfl (Nat.le_of_ble_eq_true rfl) (Nat.zero_le _) (Nat.zero_le _) dX3_cask_37 (fun H locs hP hD hS => ?_)
  exact WR.iret S hr hlk hP hS (rfl) rfl dX3_cask_40
set_option maxRecDepth 100000 in
set_option maxHeartbeats 4000000 in
theorem c_X3_cask_bad (l : Launch) (D : va_G) (cI cJ : ClassId) (t : Nat → Nat) (f g h : Nat → Int32) (τ : Nat → Nat → Int32) (x : Int32) (y : Int32) (hb0 : ¬ ((nI 0 ≤ x ∧ x ≤ nI 6) ∧ (nI 0 ≤ y ∧ y ≤ nI 5))) : WR l yX3_cask cX3_cask 3 (some .int) 1 D cI cJ (TW cI cJ t f g h τ) [.ref (t 0), .int x, .int y] (some (.int (-1000001))) (TW cI cJ t f g h (va_up τ 9 (cFi (τ 9) 0))) := by
  refine WR.of (by decide) (Nat.le_of_ble_eq_true rfl) (fun p e s m below meth c ls A S hr hlk hK hP hD hS hA hl => ?_)
  obtain ⟨hx, hb, hml, hown, hU⟩ := id S
  have hl : lv_has ls 3 [(0, .ref (t 0)), (1, .int x), (2, .int y)] := hl
  refine lv_iload_n hx hb dX3_cask_0 rfl (lv_at hl 1 rfl) ?_
  refine lv_bipush (v := nI 6) hx hb dX3_cask_1 (by decide) ?_
  refine RO.callS S ks_X3_44 (c_X3_isWithin l D cI cJ t f g h τ x (nI 6)) hK hP ⟨Nat.le_of_ble_eq_true rfl, Nat.le_of_ble_eq_true rfl⟩ hl.1 rfl rfl (Nat.le_of_ble_eq_true rfl) (Nat.zero_le _) (Nat.zero_le _) dX3_cask_3 ?_
  refine q_if_eqB (tgt := 17) hx hb dX3_cask_6 (by decide) (fun c_6 => ?_) (fun c_6 => ?_)
  · refine lv_aload_n hx hb dX3_cask_17 rfl (lv_at hl 0 rfl) ?_
    refine lv_iconst (v := nI 0) hx hb dX3_cask_18 (by decide) ?_
    refine WR.callV (w1 := TW cI cJ t f g h (va_up τ 9 (cFi (τ 9) 0))) S kv_X3_48 (c_X3_fd0 l D cI cJ t f g h τ) hK hP hD hS hA ([]) ([]) (List.append_nil _).symm (List.append_nil _).symm TW_fst rfl ⟨Nat.le_of_ble_eq_true rfl, Nat.le_of_ble_eq_true rfl⟩ hl.1 rfl rfl (Nat.le_of_ble_eq_true rfl) (Nat.zero_le _) (Nat.zero_le _) dX3_cask_19 (fun H locs hP hD hS => ?_)
    exact WR.iret S hr hlk hP hS (rfl) rfl dX3_cask_22
  · refine lv_iload_n hx hb dX3_cask_9 rfl (lv_at hl 2 rfl) ?_
    refine lv_iconst (v := nI 5) hx hb dX3_cask_10 (by decide) ?_
    refine RO.callS S ks_X3_44 (c_X3_isWithin l D cI cJ t f g h τ y (nI 5)) hK hP ⟨Nat.le_of_ble_eq_true rfl, Nat.le_of_ble_eq_true rfl⟩ hl.1 rfl rfl (Nat.le_of_ble_eq_true rfl) (Nat.zero_le _) (Nat.zero_le _) dX3_cask_11 ?_
    refine q_if_neB (tgt := 23) hx hb dX3_cask_14 (by decide) (fun c_14 => ?_) (fun c_14 => ?_)
    · exact absurd (⟨c_6, c_14⟩) hb0
    · refine lv_aload_n hx hb dX3_cask_17 rfl (lv_at hl 0 rfl) ?_
      refine lv_iconst (v := nI 0) hx hb dX3_cask_18 (by decide) ?_
      refine WR.callV (w1 := TW cI cJ t f g h (va_up τ 9 (cFi (τ 9) 0))) S kv_X3_48 (c_X3_fd0 l D cI cJ t f g h τ) hK hP hD hS hA ([]) ([]) (List.append_nil _).symm (List.append_nil _).symm TW_fst rfl ⟨Nat.le_of_ble_eq_true rfl, Nat.le_of_ble_eq_true rfl⟩ hl.1 rfl rfl (Nat.le_of_ble_eq_true rfl) (Nat.zero_le _) (Nat.zero_le _) dX3_cask_19 (fun H locs hP hD hS => ?_)
      exact WR.iret S hr hlk hP hS (rfl) rfl dX3_cask_22
set_option maxRecDepth 100000 in
set_option maxHeartbeats 4000000 in
theorem c_X3_of_ok0 (l : Launch) (D : va_G) (cI cJ : ClassId) (t : Nat → Nat) (f g h : Nat → Int32) (τ : Nat → Nat → Int32) (k : Nat) (n : Nat) (hw : Wk f n) (hk : k < n) : WR l yX3_of cX3_of 3 (some .int) 3 D cI cJ (TW cI cJ t f g h τ) [.ref (t 0), .int (nI k), .int (nI 0)] (some (.int (fi f k 0))) (TW cI cJ t f g h τ) := by
  have h8 := hw.2.1
  refine WR.of (by decide) (Nat.le_of_ble_eq_true rfl) (fun p e s m below meth c ls A S hr hlk hK hP hD hS hA hl => ?_)
  obtain ⟨hx, hb, hml, hown, hU⟩ := id S
  have hl : lv_has ls 3 [(0, .ref (t 0)), (1, .int (nI k)), (2, .int (nI 0))] := hl
  refine lv_aload_n hx hb dX3_of_0 rfl (lv_at hl 0 rfl) ?_
  refine lv_iload_n hx hb dX3_of_1 rfl (lv_at hl 1 rfl) ?_
  refine RO.callV S kv_X3_72 (c_X3_isCask l D cI cJ t f g h τ (nI k) n (hw)) hK hP rfl ⟨Nat.le_of_ble_eq_true rfl, Nat.le_of_ble_eq_true rfl⟩ hl.1 rfl rfl (Nat.le_of_ble_eq_true rfl) (Nat.zero_le _) (Nat.zero_le _) dX3_of_2 ?_
  refine q_if_neB (tgt := 14) hx hb dX3_of_5 (by decide) (fun _ => ?_) (fun h => absurd (⟨nI_pos' (by omega), nI_lt (by omega) (by omega)⟩) h)
  refine lv_iload_n hx hb dX3_of_14 rfl (lv_at hl 2 rfl) ?_
  refine lv_bipush (v := nI 6) hx hb dX3_of_15 (by decide) ?_
  refine RO.callS S ks_X3_44 (c_X3_isWithin l D cI cJ t f g h τ (nI 0) (nI 6)) hK hP ⟨Nat.le_of_ble_eq_true rfl, Nat.le_of_ble_eq_true rfl⟩ hl.1 rfl rfl (Nat.le_of_ble_eq_true rfl) (Nat.zero_le _) (Nat.zero_le _) dX3_of_17 ?_
  refine q_if_eqB (tgt := 34) hx hb dX3_of_20 (by decide) (fun h => absurd (⟨nI_le (by omega) (by omega), nI_le (by omega) (by omega)⟩) h) (fun _ => ?_)
  refine lv_aload_n hx hb dX3_of_23 rfl (lv_at hl 0 rfl) ?_
  refine g3_live S hK hP dX3_of_24 ?_
  refine lv_iload_n hx hb dX3_of_27 rfl (lv_at hl 2 rfl) ?_
  refine RO.callV S kv_X3_76 (c_X0_marksOf_0 l D cI cJ (sf t 1) f) hK (TW_live hP) rfl ⟨Nat.le_of_ble_eq_true rfl, Nat.le_of_ble_eq_true rfl⟩ hl.1 rfl rfl (Nat.le_of_ble_eq_true rfl) (Nat.zero_le _) (Nat.zero_le _) dX3_of_28 ?_
  refine lv_iload_n hx hb dX3_of_31 rfl (lv_at hl 1 rfl) ?_
  refine l0_kind S hK (TW_live hP) (j := k) (by omega) dX3_of_32 ?_
  exact WR.iret S hr hlk hP hS (rfl) rfl dX3_of_33
set_option maxRecDepth 100000 in
set_option maxHeartbeats 4000000 in
theorem c_X3_of_ok1 (l : Launch) (D : va_G) (cI cJ : ClassId) (t : Nat → Nat) (f g h : Nat → Int32) (τ : Nat → Nat → Int32) (k : Nat) (n : Nat) (hw : Wk f n) (hk : k < n) : WR l yX3_of cX3_of 3 (some .int) 3 D cI cJ (TW cI cJ t f g h τ) [.ref (t 0), .int (nI k), .int (nI 1)] (some (.int (fi f k 1))) (TW cI cJ t f g h τ) := by
  have h8 := hw.2.1
  refine WR.of (by decide) (Nat.le_of_ble_eq_true rfl) (fun p e s m below meth c ls A S hr hlk hK hP hD hS hA hl => ?_)
  obtain ⟨hx, hb, hml, hown, hU⟩ := id S
  have hl : lv_has ls 3 [(0, .ref (t 0)), (1, .int (nI k)), (2, .int (nI 1))] := hl
  refine lv_aload_n hx hb dX3_of_0 rfl (lv_at hl 0 rfl) ?_
  refine lv_iload_n hx hb dX3_of_1 rfl (lv_at hl 1 rfl) ?_
  refine RO.callV S kv_X3_72 (c_X3_isCask l D cI cJ t f g h τ (nI k) n (hw)) hK hP rfl ⟨Nat.le_of_ble_eq_true rfl, Nat.le_of_ble_eq_true rfl⟩ hl.1 rfl rfl (Nat.le_of_ble_eq_true rfl) (Nat.zero_le _) (Nat.zero_le _) dX3_of_2 ?_
  refine q_if_neB (tgt := 14) hx hb dX3_of_5 (by decide) (fun _ => ?_) (fun h => absurd (⟨nI_pos' (by omega), nI_lt (by omega) (by omega)⟩) h)
  refine lv_iload_n hx hb dX3_of_14 rfl (lv_at hl 2 rfl) ?_
  refine lv_bipush (v := nI 6) hx hb dX3_of_15 (by decide) ?_
  refine RO.callS S ks_X3_44 (c_X3_isWithin l D cI cJ t f g h τ (nI 1) (nI 6)) hK hP ⟨Nat.le_of_ble_eq_true rfl, Nat.le_of_ble_eq_true rfl⟩ hl.1 rfl rfl (Nat.le_of_ble_eq_true rfl) (Nat.zero_le _) (Nat.zero_le _) dX3_of_17 ?_
  refine q_if_eqB (tgt := 34) hx hb dX3_of_20 (by decide) (fun h => absurd (⟨nI_le (by omega) (by omega), nI_le (by omega) (by omega)⟩) h) (fun _ => ?_)
  refine lv_aload_n hx hb dX3_of_23 rfl (lv_at hl 0 rfl) ?_
  refine g3_live S hK hP dX3_of_24 ?_
  refine lv_iload_n hx hb dX3_of_27 rfl (lv_at hl 2 rfl) ?_
  refine RO.callV S kv_X3_76 (c_X0_marksOf_1 l D cI cJ (sf t 1) f) hK (TW_live hP) rfl ⟨Nat.le_of_ble_eq_true rfl, Nat.le_of_ble_eq_true rfl⟩ hl.1 rfl rfl (Nat.le_of_ble_eq_true rfl) (Nat.zero_le _) (Nat.zero_le _) dX3_of_28 ?_
  refine lv_iload_n hx hb dX3_of_31 rfl (lv_at hl 1 rfl) ?_
  refine l0_home S hK (TW_live hP) (j := k) (by omega) dX3_of_32 ?_
  exact WR.iret S hr hlk hP hS (rfl) rfl dX3_of_33
set_option maxRecDepth 100000 in
set_option maxHeartbeats 4000000 in
theorem c_X3_of_ok2 (l : Launch) (D : va_G) (cI cJ : ClassId) (t : Nat → Nat) (f g h : Nat → Int32) (τ : Nat → Nat → Int32) (k : Nat) (n : Nat) (hw : Wk f n) (hk : k < n) : WR l yX3_of cX3_of 3 (some .int) 3 D cI cJ (TW cI cJ t f g h τ) [.ref (t 0), .int (nI k), .int (nI 2)] (some (.int (fi f k 2))) (TW cI cJ t f g h τ) := by
  have h8 := hw.2.1
  refine WR.of (by decide) (Nat.le_of_ble_eq_true rfl) (fun p e s m below meth c ls A S hr hlk hK hP hD hS hA hl => ?_)
  obtain ⟨hx, hb, hml, hown, hU⟩ := id S
  have hl : lv_has ls 3 [(0, .ref (t 0)), (1, .int (nI k)), (2, .int (nI 2))] := hl
  refine lv_aload_n hx hb dX3_of_0 rfl (lv_at hl 0 rfl) ?_
  refine lv_iload_n hx hb dX3_of_1 rfl (lv_at hl 1 rfl) ?_
  refine RO.callV S kv_X3_72 (c_X3_isCask l D cI cJ t f g h τ (nI k) n (hw)) hK hP rfl ⟨Nat.le_of_ble_eq_true rfl, Nat.le_of_ble_eq_true rfl⟩ hl.1 rfl rfl (Nat.le_of_ble_eq_true rfl) (Nat.zero_le _) (Nat.zero_le _) dX3_of_2 ?_
  refine q_if_neB (tgt := 14) hx hb dX3_of_5 (by decide) (fun _ => ?_) (fun h => absurd (⟨nI_pos' (by omega), nI_lt (by omega) (by omega)⟩) h)
  refine lv_iload_n hx hb dX3_of_14 rfl (lv_at hl 2 rfl) ?_
  refine lv_bipush (v := nI 6) hx hb dX3_of_15 (by decide) ?_
  refine RO.callS S ks_X3_44 (c_X3_isWithin l D cI cJ t f g h τ (nI 2) (nI 6)) hK hP ⟨Nat.le_of_ble_eq_true rfl, Nat.le_of_ble_eq_true rfl⟩ hl.1 rfl rfl (Nat.le_of_ble_eq_true rfl) (Nat.zero_le _) (Nat.zero_le _) dX3_of_17 ?_
  refine q_if_eqB (tgt := 34) hx hb dX3_of_20 (by decide) (fun h => absurd (⟨nI_le (by omega) (by omega), nI_le (by omega) (by omega)⟩) h) (fun _ => ?_)
  refine lv_aload_n hx hb dX3_of_23 rfl (lv_at hl 0 rfl) ?_
  refine g3_live S hK hP dX3_of_24 ?_
  refine lv_iload_n hx hb dX3_of_27 rfl (lv_at hl 2 rfl) ?_
  refine RO.callV S kv_X3_76 (c_X0_marksOf_2 l D cI cJ (sf t 1) f) hK (TW_live hP) rfl ⟨Nat.le_of_ble_eq_true rfl, Nat.le_of_ble_eq_true rfl⟩ hl.1 rfl rfl (Nat.le_of_ble_eq_true rfl) (Nat.zero_le _) (Nat.zero_le _) dX3_of_28 ?_
  refine lv_iload_n hx hb dX3_of_31 rfl (lv_at hl 1 rfl) ?_
  refine l0_peal S hK (TW_live hP) (j := k) (by omega) dX3_of_32 ?_
  exact WR.iret S hr hlk hP hS (rfl) rfl dX3_of_33
set_option maxRecDepth 100000 in
set_option maxHeartbeats 4000000 in
theorem c_X3_of_ok3 (l : Launch) (D : va_G) (cI cJ : ClassId) (t : Nat → Nat) (f g h : Nat → Int32) (τ : Nat → Nat → Int32) (k : Nat) (n : Nat) (hw : Wk f n) (hk : k < n) : WR l yX3_of cX3_of 3 (some .int) 3 D cI cJ (TW cI cJ t f g h τ) [.ref (t 0), .int (nI k), .int (nI 3)] (some (.int (fi f k 3))) (TW cI cJ t f g h τ) := by
  have h8 := hw.2.1
  refine WR.of (by decide) (Nat.le_of_ble_eq_true rfl) (fun p e s m below meth c ls A S hr hlk hK hP hD hS hA hl => ?_)
  obtain ⟨hx, hb, hml, hown, hU⟩ := id S
  have hl : lv_has ls 3 [(0, .ref (t 0)), (1, .int (nI k)), (2, .int (nI 3))] := hl
  refine lv_aload_n hx hb dX3_of_0 rfl (lv_at hl 0 rfl) ?_
  refine lv_iload_n hx hb dX3_of_1 rfl (lv_at hl 1 rfl) ?_
  refine RO.callV S kv_X3_72 (c_X3_isCask l D cI cJ t f g h τ (nI k) n (hw)) hK hP rfl ⟨Nat.le_of_ble_eq_true rfl, Nat.le_of_ble_eq_true rfl⟩ hl.1 rfl rfl (Nat.le_of_ble_eq_true rfl) (Nat.zero_le _) (Nat.zero_le _) dX3_of_2 ?_
  refine q_if_neB (tgt := 14) hx hb dX3_of_5 (by decide) (fun _ => ?_) (fun h => absurd (⟨nI_pos' (by omega), nI_lt (by omega) (by omega)⟩) h)
  refine lv_iload_n hx hb dX3_of_14 rfl (lv_at hl 2 rfl) ?_
  refine lv_bipush (v := nI 6) hx hb dX3_of_15 (by decide) ?_
  refine RO.callS S ks_X3_44 (c_X3_isWithin l D cI cJ t f g h τ (nI 3) (nI 6)) hK hP ⟨Nat.le_of_ble_eq_true rfl, Nat.le_of_ble_eq_true rfl⟩ hl.1 rfl rfl (Nat.le_of_ble_eq_true rfl) (Nat.zero_le _) (Nat.zero_le _) dX3_of_17 ?_
  refine q_if_eqB (tgt := 34) hx hb dX3_of_20 (by decide) (fun h => absurd (⟨nI_le (by omega) (by omega), nI_le (by omega) (by omega)⟩) h) (fun _ => ?_)
  refine lv_aload_n hx hb dX3_of_23 rfl (lv_at hl 0 rfl) ?_
  refine g3_live S hK hP dX3_of_24 ?_
  refine lv_iload_n hx hb dX3_of_27 rfl (lv_at hl 2 rfl) ?_
  refine RO.callV S kv_X3_76 (c_X0_marksOf_3 l D cI cJ (sf t 1) f) hK (TW_live hP) rfl ⟨Nat.le_of_ble_eq_true rfl, Nat.le_of_ble_eq_true rfl⟩ hl.1 rfl rfl (Nat.le_of_ble_eq_true rfl) (Nat.zero_le _) (Nat.zero_le _) dX3_of_28 ?_
  refine lv_iload_n hx hb dX3_of_31 rfl (lv_at hl 1 rfl) ?_
  refine l0_pitch S hK (TW_live hP) (j := k) (by omega) dX3_of_32 ?_
  exact WR.iret S hr hlk hP hS (rfl) rfl dX3_of_33
set_option maxRecDepth 100000 in
set_option maxHeartbeats 4000000 in
theorem c_X3_of_ok4 (l : Launch) (D : va_G) (cI cJ : ClassId) (t : Nat → Nat) (f g h : Nat → Int32) (τ : Nat → Nat → Int32) (k : Nat) (n : Nat) (hw : Wk f n) (hk : k < n) : WR l yX3_of cX3_of 3 (some .int) 3 D cI cJ (TW cI cJ t f g h τ) [.ref (t 0), .int (nI k), .int (nI 4)] (some (.int (fi f k 4))) (TW cI cJ t f g h τ) := by
  have h8 := hw.2.1
  refine WR.of (by decide) (Nat.le_of_ble_eq_true rfl) (fun p e s m below meth c ls A S hr hlk hK hP hD hS hA hl => ?_)
  obtain ⟨hx, hb, hml, hown, hU⟩ := id S
  have hl : lv_has ls 3 [(0, .ref (t 0)), (1, .int (nI k)), (2, .int (nI 4))] := hl
  refine lv_aload_n hx hb dX3_of_0 rfl (lv_at hl 0 rfl) ?_
  refine lv_iload_n hx hb dX3_of_1 rfl (lv_at hl 1 rfl) ?_
  refine RO.callV S kv_X3_72 (c_X3_isCask l D cI cJ t f g h τ (nI k) n (hw)) hK hP rfl ⟨Nat.le_of_ble_eq_true rfl, Nat.le_of_ble_eq_true rfl⟩ hl.1 rfl rfl (Nat.le_of_ble_eq_true rfl) (Nat.zero_le _) (Nat.zero_le _) dX3_of_2 ?_
  refine q_if_neB (tgt := 14) hx hb dX3_of_5 (by decide) (fun _ => ?_) (fun h => absurd (⟨nI_pos' (by omega), nI_lt (by omega) (by omega)⟩) h)
  refine lv_iload_n hx hb dX3_of_14 rfl (lv_at hl 2 rfl) ?_
  refine lv_bipush (v := nI 6) hx hb dX3_of_15 (by decide) ?_
  refine RO.callS S ks_X3_44 (c_X3_isWithin l D cI cJ t f g h τ (nI 4) (nI 6)) hK hP ⟨Nat.le_of_ble_eq_true rfl, Nat.le_of_ble_eq_true rfl⟩ hl.1 rfl rfl (Nat.le_of_ble_eq_true rfl) (Nat.zero_le _) (Nat.zero_le _) dX3_of_17 ?_
  refine q_if_eqB (tgt := 34) hx hb dX3_of_20 (by decide) (fun h => absurd (⟨nI_le (by omega) (by omega), nI_le (by omega) (by omega)⟩) h) (fun _ => ?_)
  refine lv_aload_n hx hb dX3_of_23 rfl (lv_at hl 0 rfl) ?_
  refine g3_live S hK hP dX3_of_24 ?_
  refine lv_iload_n hx hb dX3_of_27 rfl (lv_at hl 2 rfl) ?_
  refine RO.callV S kv_X3_76 (c_X0_marksOf_4 l D cI cJ (sf t 1) f) hK (TW_live hP) rfl ⟨Nat.le_of_ble_eq_true rfl, Nat.le_of_ble_eq_true rfl⟩ hl.1 rfl rfl (Nat.le_of_ble_eq_true rfl) (Nat.zero_le _) (Nat.zero_le _) dX3_of_28 ?_
  refine lv_iload_n hx hb dX3_of_31 rfl (lv_at hl 1 rfl) ?_
  refine l0_hoops S hK (TW_live hP) (j := k) (by omega) dX3_of_32 ?_
  exact WR.iret S hr hlk hP hS (rfl) rfl dX3_of_33
set_option maxRecDepth 100000 in
set_option maxHeartbeats 4000000 in
theorem c_X3_of_ok5 (l : Launch) (D : va_G) (cI cJ : ClassId) (t : Nat → Nat) (f g h : Nat → Int32) (τ : Nat → Nat → Int32) (k : Nat) (n : Nat) (hw : Wk f n) (hk : k < n) : WR l yX3_of cX3_of 3 (some .int) 3 D cI cJ (TW cI cJ t f g h τ) [.ref (t 0), .int (nI k), .int (nI 5)] (some (.int (fi f k 5))) (TW cI cJ t f g h τ) := by
  have h8 := hw.2.1
  refine WR.of (by decide) (Nat.le_of_ble_eq_true rfl) (fun p e s m below meth c ls A S hr hlk hK hP hD hS hA hl => ?_)
  obtain ⟨hx, hb, hml, hown, hU⟩ := id S
  have hl : lv_has ls 3 [(0, .ref (t 0)), (1, .int (nI k)), (2, .int (nI 5))] := hl
  refine lv_aload_n hx hb dX3_of_0 rfl (lv_at hl 0 rfl) ?_
  refine lv_iload_n hx hb dX3_of_1 rfl (lv_at hl 1 rfl) ?_
  refine RO.callV S kv_X3_72 (c_X3_isCask l D cI cJ t f g h τ (nI k) n (hw)) hK hP rfl ⟨Nat.le_of_ble_eq_true rfl, Nat.le_of_ble_eq_true rfl⟩ hl.1 rfl rfl (Nat.le_of_ble_eq_true rfl) (Nat.zero_le _) (Nat.zero_le _) dX3_of_2 ?_
  refine q_if_neB (tgt := 14) hx hb dX3_of_5 (by decide) (fun _ => ?_) (fun h => absurd (⟨nI_pos' (by omega), nI_lt (by omega) (by omega)⟩) h)
  refine lv_iload_n hx hb dX3_of_14 rfl (lv_at hl 2 rfl) ?_
  refine lv_bipush (v := nI 6) hx hb dX3_of_15 (by decide) ?_
  refine RO.callS S ks_X3_44 (c_X3_isWithin l D cI cJ t f g h τ (nI 5) (nI 6)) hK hP ⟨Nat.le_of_ble_eq_true rfl, Nat.le_of_ble_eq_true rfl⟩ hl.1 rfl rfl (Nat.le_of_ble_eq_true rfl) (Nat.zero_le _) (Nat.zero_le _) dX3_of_17 ?_
  refine q_if_eqB (tgt := 34) hx hb dX3_of_20 (by decide) (fun h => absurd (⟨nI_le (by omega) (by omega), nI_le (by omega) (by omega)⟩) h) (fun _ => ?_)
  refine lv_aload_n hx hb dX3_of_23 rfl (lv_at hl 0 rfl) ?_
  refine g3_live S hK hP dX3_of_24 ?_
  refine lv_iload_n hx hb dX3_of_27 rfl (lv_at hl 2 rfl) ?_
  refine RO.callV S kv_X3_76 (c_X0_marksOf_5 l D cI cJ (sf t 1) f) hK (TW_live hP) rfl ⟨Nat.le_of_ble_eq_true rfl, Nat.le_of_ble_eq_true rfl⟩ hl.1 rfl rfl (Nat.le_of_ble_eq_true rfl) (Nat.zero_le _) (Nat.zero_le _) dX3_of_28 ?_
  refine lv_iload_n hx hb dX3_of_31 rfl (lv_at hl 1 rfl) ?_
  refine l0_age S hK (TW_live hP) (j := k) (by omega) dX3_of_32 ?_
  exact WR.iret S hr hlk hP hS (rfl) rfl dX3_of_33
set_option maxRecDepth 100000 in
set_option maxHeartbeats 4000000 in
theorem c_X3_of_ok6 (l : Launch) (D : va_G) (cI cJ : ClassId) (t : Nat → Nat) (f g h : Nat → Int32) (τ : Nat → Nat → Int32) (k : Nat) (n : Nat) (hw : Wk f n) (hk : k < n) : WR l yX3_of cX3_of 3 (some .int) 3 D cI cJ (TW cI cJ t f g h τ) [.ref (t 0), .int (nI k), .int (nI 6)] (some (.int (fi f k 6))) (TW cI cJ t f g h τ) := by
  have h8 := hw.2.1
  refine WR.of (by decide) (Nat.le_of_ble_eq_true rfl) (fun p e s m below meth c ls A S hr hlk hK hP hD hS hA hl => ?_)
  obtain ⟨hx, hb, hml, hown, hU⟩ := id S
  have hl : lv_has ls 3 [(0, .ref (t 0)), (1, .int (nI k)), (2, .int (nI 6))] := hl
  refine lv_aload_n hx hb dX3_of_0 rfl (lv_at hl 0 rfl) ?_
  refine lv_iload_n hx hb dX3_of_1 rfl (lv_at hl 1 rfl) ?_
  refine RO.callV S kv_X3_72 (c_X3_isCask l D cI cJ t f g h τ (nI k) n (hw)) hK hP rfl ⟨Nat.le_of_ble_eq_true rfl, Nat.le_of_ble_eq_true rfl⟩ hl.1 rfl rfl (Nat.le_of_ble_eq_true rfl) (Nat.zero_le _) (Nat.zero_le _) dX3_of_2 ?_
  refine q_if_neB (tgt := 14) hx hb dX3_of_5 (by decide) (fun _ => ?_) (fun h => absurd (⟨nI_pos' (by omega), nI_lt (by omega) (by omega)⟩) h)
  refine lv_iload_n hx hb dX3_of_14 rfl (lv_at hl 2 rfl) ?_
  refine lv_bipush (v := nI 6) hx hb dX3_of_15 (by decide) ?_
  refine RO.callS S ks_X3_44 (c_X3_isWithin l D cI cJ t f g h τ (nI 6) (nI 6)) hK hP ⟨Nat.le_of_ble_eq_true rfl, Nat.le_of_ble_eq_true rfl⟩ hl.1 rfl rfl (Nat.le_of_ble_eq_true rfl) (Nat.zero_le _) (Nat.zero_le _) dX3_of_17 ?_
  refine q_if_eqB (tgt := 34) hx hb dX3_of_20 (by decide) (fun h => absurd (⟨nI_le (by omega) (by omega), nI_le (by omega) (by omega)⟩) h) (fun _ => ?_)
  refine lv_aload_n hx hb dX3_of_23 rfl (lv_at hl 0 rfl) ?_
  refine g3_live S hK hP dX3_of_24 ?_
  refine lv_iload_n hx hb dX3_of_27 rfl (lv_at hl 2 rfl) ?_
  refine RO.callV S kv_X3_76 (c_X0_marksOf_6 l D cI cJ (sf t 1) f) hK (TW_live hP) rfl ⟨Nat.le_of_ble_eq_true rfl, Nat.le_of_ble_eq_true rfl⟩ hl.1 rfl rfl (Nat.le_of_ble_eq_true rfl) (Nat.zero_le _) (Nat.zero_le _) dX3_of_28 ?_
  refine lv_iload_n hx hb dX3_of_31 rfl (lv_at hl 1 rfl) ?_
  refine l0_burst S hK (TW_live hP) (j := k) (by omega) dX3_of_32 ?_
  exact WR.iret S hr hlk hP hS (rfl) rfl dX3_of_33
set_option maxRecDepth 100000 in
set_option maxHeartbeats 4000000 in
theorem c_X3_of_ok7 (l : Launch) (D : va_G) (cI cJ : ClassId) (t : Nat → Nat) (f g h : Nat → Int32) (τ : Nat → Nat → Int32) (k : Nat) (n : Nat) (hw : Wk f n) (hk : k < n) : WR l yX3_of cX3_of 3 (some .int) 3 D cI cJ (TW cI cJ t f g h τ) [.ref (t 0), .int (nI k), .int (nI 7)] (some (.int (sLd f n k))) (TW cI cJ t f g h τ) := by
  have h8 := hw.2.1
  refine WR.of (by decide) (Nat.le_of_ble_eq_true rfl) (fun p e s m below meth c ls A S hr hlk hK hP hD hS hA hl => ?_)
  obtain ⟨hx, hb, hml, hown, hU⟩ := id S
  have hl : lv_has ls 3 [(0, .ref (t 0)), (1, .int (nI k)), (2, .int (nI 7))] := hl
  refine lv_aload_n hx hb dX3_of_0 rfl (lv_at hl 0 rfl) ?_
  refine lv_iload_n hx hb dX3_of_1 rfl (lv_at hl 1 rfl) ?_
  refine RO.callV S kv_X3_72 (c_X3_isCask l D cI cJ t f g h τ (nI k) n (hw)) hK hP rfl ⟨Nat.le_of_ble_eq_true rfl, Nat.le_of_ble_eq_true rfl⟩ hl.1 rfl rfl (Nat.le_of_ble_eq_true rfl) (Nat.zero_le _) (Nat.zero_le _) dX3_of_2 ?_
  refine q_if_neB (tgt := 14) hx hb dX3_of_5 (by decide) (fun _ => ?_) (fun h => absurd (⟨nI_pos' (by omega), nI_lt (by omega) (by omega)⟩) h)
  refine lv_iload_n hx hb dX3_of_14 rfl (lv_at hl 2 rfl) ?_
  refine lv_bipush (v := nI 6) hx hb dX3_of_15 (by decide) ?_
  refine RO.callS S ks_X3_44 (c_X3_isWithin l D cI cJ t f g h τ (nI 7) (nI 6)) hK hP ⟨Nat.le_of_ble_eq_true rfl, Nat.le_of_ble_eq_true rfl⟩ hl.1 rfl rfl (Nat.le_of_ble_eq_true rfl) (Nat.zero_le _) (Nat.zero_le _) dX3_of_17 ?_
  refine q_if_eqB (tgt := 34) hx hb dX3_of_20 (by decide) (fun _ => ?_) (fun h => absurd h (fun q => absurd q.2 (nI_nleq (by omega) (by omega))))
  refine lv_iload_n hx hb dX3_of_34 rfl (lv_at hl 2 rfl) ?_
  refine lv_tableIn (tgt := 60) hx hb dX3_of_35 (by decide) (by decide) rfl (by decide) ?_
  refine lv_aload_n hx hb dX3_of_60 rfl (lv_at hl 0 rfl) ?_
  refine g3_live S hK hP dX3_of_61 ?_
  refine lv_iload_n hx hb dX3_of_64 rfl (lv_at hl 1 rfl) ?_
  refine RO.callV S kv_X3_80 (c_X0_loudOf l D cI cJ (sf t 1) f k n (hw) (by omega)) hK (TW_live hP) rfl ⟨Nat.le_of_ble_eq_true rfl, Nat.le_of_ble_eq_true rfl⟩ hl.1 rfl rfl (Nat.le_of_ble_eq_true rfl) (Nat.zero_le _) (Nat.zero_le _) dX3_of_65 ?_
  exact WR.iret S hr hlk hP hS (rfl) rfl dX3_of_68
set_option maxRecDepth 100000 in
set_option maxHeartbeats 4000000 in
theorem c_X3_of_ok8 (l : Launch) (D : va_G) (cI cJ : ClassId) (t : Nat → Nat) (f g h : Nat → Int32) (τ : Nat → Nat → Int32) (k : Nat) (n : Nat) (hw : Wk f n) (hk : k < n) : WR l yX3_of cX3_of 3 (some .int) 3 D cI cJ (TW cI cJ t f g h τ) [.ref (t 0), .int (nI k), .int (nI 8)] (some (.int (sLk f k))) (TW cI cJ t f g h τ) := by
  have h8 := hw.2.1
  refine WR.of (by decide) (Nat.le_of_ble_eq_true rfl) (fun p e s m below meth c ls A S hr hlk hK hP hD hS hA hl => ?_)
  obtain ⟨hx, hb, hml, hown, hU⟩ := id S
  have hl : lv_has ls 3 [(0, .ref (t 0)), (1, .int (nI k)), (2, .int (nI 8))] := hl
  refine lv_aload_n hx hb dX3_of_0 rfl (lv_at hl 0 rfl) ?_
  refine lv_iload_n hx hb dX3_of_1 rfl (lv_at hl 1 rfl) ?_
  refine RO.callV S kv_X3_72 (c_X3_isCask l D cI cJ t f g h τ (nI k) n (hw)) hK hP rfl ⟨Nat.le_of_ble_eq_true rfl, Nat.le_of_ble_eq_true rfl⟩ hl.1 rfl rfl (Nat.le_of_ble_eq_true rfl) (Nat.zero_le _) (Nat.zero_le _) dX3_of_2 ?_
  refine q_if_neB (tgt := 14) hx hb dX3_of_5 (by decide) (fun _ => ?_) (fun h => absurd (⟨nI_pos' (by omega), nI_lt (by omega) (by omega)⟩) h)
  refine lv_iload_n hx hb dX3_of_14 rfl (lv_at hl 2 rfl) ?_
  refine lv_bipush (v := nI 6) hx hb dX3_of_15 (by decide) ?_
  refine RO.callS S ks_X3_44 (c_X3_isWithin l D cI cJ t f g h τ (nI 8) (nI 6)) hK hP ⟨Nat.le_of_ble_eq_true rfl, Nat.le_of_ble_eq_true rfl⟩ hl.1 rfl rfl (Nat.le_of_ble_eq_true rfl) (Nat.zero_le _) (Nat.zero_le _) dX3_of_17 ?_
  refine q_if_eqB (tgt := 34) hx hb dX3_of_20 (by decide) (fun _ => ?_) (fun h => absurd h (fun q => absurd q.2 (nI_nleq (by omega) (by omega))))
  refine lv_iload_n hx hb dX3_of_34 rfl (lv_at hl 2 rfl) ?_
  refine lv_tableIn (tgt := 69) hx hb dX3_of_35 (by decide) (by decide) rfl (by decide) ?_
  refine lv_aload_n hx hb dX3_of_69 rfl (lv_at hl 0 rfl) ?_
  refine g3_live S hK hP dX3_of_70 ?_
  refine lv_iload_n hx hb dX3_of_73 rfl (lv_at hl 1 rfl) ?_
  refine RO.callV S kv_X3_83 (c_X0_leaksOf l D cI cJ (sf t 1) f k (by omega)) hK (TW_live hP) rfl ⟨Nat.le_of_ble_eq_true rfl, Nat.le_of_ble_eq_true rfl⟩ hl.1 rfl rfl (Nat.le_of_ble_eq_true rfl) (Nat.zero_le _) (Nat.zero_le _) dX3_of_74 ?_
  exact WR.iret S hr hlk hP hS (rfl) rfl dX3_of_77
set_option maxRecDepth 100000 in
set_option maxHeartbeats 4000000 in
theorem c_X3_of_ok9 (l : Launch) (D : va_G) (cI cJ : ClassId) (t : Nat → Nat) (f g h : Nat → Int32) (τ : Nat → Nat → Int32) (k : Nat) (n : Nat) (hw : Wk f n) (hk : k < n) : WR l yX3_of cX3_of 3 (some .int) 3 D cI cJ (TW cI cJ t f g h τ) [.ref (t 0), .int (nI k), .int (nI 9)] (some (.int (sBr f k))) (TW cI cJ t f g h τ) := by
  have h8 := hw.2.1
  refine WR.of (by decide) (Nat.le_of_ble_eq_true rfl) (fun p e s m below meth c ls A S hr hlk hK hP hD hS hA hl => ?_)
  obtain ⟨hx, hb, hml, hown, hU⟩ := id S
  have hl : lv_has ls 3 [(0, .ref (t 0)), (1, .int (nI k)), (2, .int (nI 9))] := hl
  refine lv_aload_n hx hb dX3_of_0 rfl (lv_at hl 0 rfl) ?_
  refine lv_iload_n hx hb dX3_of_1 rfl (lv_at hl 1 rfl) ?_
  refine RO.callV S kv_X3_72 (c_X3_isCask l D cI cJ t f g h τ (nI k) n (hw)) hK hP rfl ⟨Nat.le_of_ble_eq_true rfl, Nat.le_of_ble_eq_true rfl⟩ hl.1 rfl rfl (Nat.le_of_ble_eq_true rfl) (Nat.zero_le _) (Nat.zero_le _) dX3_of_2 ?_
  refine q_if_neB (tgt := 14) hx hb dX3_of_5 (by decide) (fun _ => ?_) (fun h => absurd (⟨nI_pos' (by omega), nI_lt (by omega) (by omega)⟩) h)
  refine lv_iload_n hx hb dX3_of_14 rfl (lv_at hl 2 rfl) ?_
  refine lv_bipush (v := nI 6) hx hb dX3_of_15 (by decide) ?_
  refine RO.callS S ks_X3_44 (c_X3_isWithin l D cI cJ t f g h τ (nI 9) (nI 6)) hK hP ⟨Nat.le_of_ble_eq_true rfl, Nat.le_of_ble_eq_true rfl⟩ hl.1 rfl rfl (Nat.le_of_ble_eq_true rfl) (Nat.zero_le _) (Nat.zero_le _) dX3_of_17 ?_
  refine q_if_eqB (tgt := 34) hx hb dX3_of_20 (by decide) (fun _ => ?_) (fun h => absurd h (fun q => absurd q.2 (nI_nleq (by omega) (by omega))))
  refine lv_iload_n hx hb dX3_of_34 rfl (lv_at hl 2 rfl) ?_
  refine lv_tableIn (tgt := 78) hx hb dX3_of_35 (by decide) (by decide) rfl (by decide) ?_
  refine lv_aload_n hx hb dX3_of_78 rfl (lv_at hl 0 rfl) ?_
  refine g3_live S hK hP dX3_of_79 ?_
  refine lv_iload_n hx hb dX3_of_82 rfl (lv_at hl 1 rfl) ?_
  refine RO.callV S kv_X3_86 (c_X0_bearsOf l D cI cJ (sf t 1) f k n (hw) (by omega)) hK (TW_live hP) rfl ⟨Nat.le_of_ble_eq_true rfl, Nat.le_of_ble_eq_true rfl⟩ hl.1 rfl rfl (Nat.le_of_ble_eq_true rfl) (Nat.zero_le _) (Nat.zero_le _) dX3_of_83 ?_
  exact WR.iret S hr hlk hP hS (rfl) rfl dX3_of_86
set_option maxRecDepth 100000 in
set_option maxHeartbeats 4000000 in
theorem c_X3_sell_ok (l : Launch) (D : va_G) (cI cJ : ClassId) (t : Nat → Nat) (f g h : Nat → Int32) (τ : Nat → Nat → Int32) (k : Nat) (n : Nat) (hw : Wk f n) (hk : k < n) : WR l yX3_sell cX3_sell 3 (some .int) 3 D cI cJ (TW cI cJ t f g h τ) [.ref (t 0), .int (nI k)] (some (.int (sLd f n k))) (TW cI cJ t (sEy f k) g h τ) := by
  have h8 := hw.2.1
  refine WR.of (by decide) (Nat.le_of_ble_eq_true rfl) (fun p e s m below meth c ls A S hr hlk hK hP hD hS hA hl => ?_)
  obtain ⟨hx, hb, hml, hown, hU⟩ := id S
  have hl : lv_has ls 3 [(0, .ref (t 0)), (1, .int (nI k))] := hl
  refine lv_aload_n hx hb dX3_sell_0 rfl (lv_at hl 0 rfl) ?_
  refine lv_iload_n hx hb dX3_sell_1 rfl (lv_at hl 1 rfl) ?_
  refine RO.callV S kv_X3_72 (c_X3_isCask l D cI cJ t f g h τ (nI k) n (hw)) hK hP rfl ⟨Nat.le_of_ble_eq_true rfl, Nat.le_of_ble_eq_true rfl⟩ hl.1 rfl rfl (Nat.le_of_ble_eq_true rfl) (Nat.zero_le _) (Nat.zero_le _) dX3_sell_2 ?_
  refine q_if_neB (tgt := 14) hx hb dX3_sell_5 (by decide) (fun _ => ?_) (fun h => absurd (⟨nI_pos' (by omega), nI_lt (by omega) (by omega)⟩) h)
  refine lv_aload_n hx hb dX3_sell_14 rfl (lv_at hl 0 rfl) ?_
  refine g3_live S hK hP dX3_sell_15 ?_
  refine lv_iload_n hx hb dX3_sell_18 rfl (lv_at hl 1 rfl) ?_
  refine RO.callV S kv_X3_80 (c_X0_loudOf l D cI cJ (sf t 1) f k n (hw) (by omega)) hK (TW_live hP) rfl ⟨Nat.le_of_ble_eq_true rfl, Nat.le_of_ble_eq_true rfl⟩ hl.1 rfl rfl (Nat.le_of_ble_eq_true rfl) (Nat.zero_le _) (Nat.zero_le _) dX3_sell_19 ?_
  refine lv_istore_n (lv' := [(2, .int (sLd f n k)), (0, .ref (t 0)), (1, .int (nI k))]) hx hb dX3_sell_22 rfl hl (by decide) rfl (fun ls hl => ?_)
  refine lv_aload_n hx hb dX3_sell_23 rfl (lv_at hl 1 rfl) ?_
  refine g3_live S hK hP dX3_sell_24 ?_
  refine lv_iload_n hx hb dX3_sell_27 rfl (lv_at hl 2 rfl) ?_
  refine WR.callV (w1 := TW cI cJ t (sEy f k) g h τ) S kv_X3_92 (c_X0_makeEmpty l D cI cJ (sf t 1) f k (by omega)) hK hP hD hS hA (_) (_) TW_s1 TW_s1 PW_fst rfl ⟨Nat.le_of_ble_eq_true rfl, Nat.le_of_ble_eq_true rfl⟩ hl.1 rfl rfl (Nat.le_of_ble_eq_true rfl) (Nat.zero_le _) (Nat.zero_le _) dX3_sell_28 (fun H locs hP hD hS => ?_)
  refine W.eq (g2 := F0 m 31 ls []) rfl ?_
  refine lv_iload_n hx hb dX3_sell_31 rfl (lv_at hl 0 rfl) ?_
  exact WR.iret S hr hlk hP hS (rfl) rfl dX3_sell_32
set_option maxRecDepth 100000 in
set_option maxHeartbeats 4000000 in
theorem c_X3_sell_bad (l : Launch) (D : va_G) (cI cJ : ClassId) (t : Nat → Nat) (f g h : Nat → Int32) (τ : Nat → Nat → Int32) (x : Int32) (n : Nat) (hw : Wk f n) (hb0 : ¬ ((0 ≤ x ∧ x < nI n))) : WR l yX3_sell cX3_sell 3 (some .int) 3 D cI cJ (TW cI cJ t f g h τ) [.ref (t 0), .int x] (some (.int (-1000001))) (TW cI cJ t f g h (va_up τ 9 (cFi (τ 9) 0))) := by
  refine WR.of (by decide) (Nat.le_of_ble_eq_true rfl) (fun p e s m below meth c ls A S hr hlk hK hP hD hS hA hl => ?_)
  obtain ⟨hx, hb, hml, hown, hU⟩ := id S
  have hl : lv_has ls 3 [(0, .ref (t 0)), (1, .int x)] := hl
  refine lv_aload_n hx hb dX3_sell_0 rfl (lv_at hl 0 rfl) ?_
  refine lv_iload_n hx hb dX3_sell_1 rfl (lv_at hl 1 rfl) ?_
  refine RO.callV S kv_X3_72 (c_X3_isCask l D cI cJ t f g h τ x n (hw)) hK hP rfl ⟨Nat.le_of_ble_eq_true rfl, Nat.le_of_ble_eq_true rfl⟩ hl.1 rfl rfl (Nat.le_of_ble_eq_true rfl) (Nat.zero_le _) (Nat.zero_le _) dX3_sell_2 ?_
  refine q_if_neB (tgt := 14) hx hb dX3_sell_5 (by decide) (fun c_5 => ?_) (fun c_5 => ?_)
  · exact absurd (c_5) hb0
  · refine lv_aload_n hx hb dX3_sell_8 rfl (lv_at hl 0 rfl) ?_
    refine lv_iconst (v := nI 0) hx hb dX3_sell_9 (by decide) ?_
    refine WR.callV (w1 := TW cI cJ t f g h (va_up τ 9 (cFi (τ 9) 0))) S kv_X3_48 (c_X3_fd0 l D cI cJ t f g h τ) hK hP hD hS hA ([]) ([]) (List.append_nil _).symm (List.append_nil _).symm TW_fst rfl ⟨Nat.le_of_ble_eq_true rfl, Nat.le_of_ble_eq_true rfl⟩ hl.1 rfl rfl (Nat.le_of_ble_eq_true rfl) (Nat.zero_le _) (Nat.zero_le _) dX3_sell_10 (fun H locs hP hD hS => ?_)
    exact WR.iret S hr hlk hP hS (rfl) rfl dX3_sell_13

theorem rg5 {x : Int32} (h : 0 ≤ x ∧ x < nI 6) : nI 0 ≤ x ∧ x ≤ nI 5 := ⟨h.1, by
  have h2 := h.2
  rw [Int32.lt_iff_toInt_lt] at h2
  rw [Int32.le_iff_toInt_le]
  have e1 : (nI 6).toInt = 6 := rfl
  have e2 : (nI 5).toInt = 5 := rfl
  omega⟩
/-- the greatest value of a mark -/
def gOf (x : Int32) : Int32 := if x = 0 then nI 6 else if x = nI 1 then nI 5 else if x = nI 3 then nI 11 else nI 999
theorem c_X4_fd0 (l : Launch) (D : va_G) (cI cJ : ClassId) (a : Nat → Nat) (f : Nat → Int32) (σ : Nat → Nat → Int32) : WR l yX4_finds cX4_finds 2 (some .int) 0 D cI cJ (MW cI a f σ) [.ref (a 0), .int (-1000001)] (some (.int (-1000001))) (MW cI a f (va_up σ 4 (mFi (σ 4) 0))) := by
  have h := c_X4_finds l D cI cJ a f σ 0 (by decide)
  rw [show (-1000001 : Int32) - nI 0 = -1000001 by decide] at h
  exact h
theorem c_X4_fd1 (l : Launch) (D : va_G) (cI cJ : ClassId) (a : Nat → Nat) (f : Nat → Int32) (σ : Nat → Nat → Int32) : WR l yX4_finds cX4_finds 2 (some .int) 0 D cI cJ (MW cI a f σ) [.ref (a 0), .int (-1000002)] (some (.int (-1000002))) (MW cI a f (va_up σ 4 (mFi (σ 4) 1))) := by
  have h := c_X4_finds l D cI cJ a f σ 1 (by decide)
  rw [show (-1000001 : Int32) - nI 1 = -1000002 by decide] at h
  exact h
theorem c_X4_fd2 (l : Launch) (D : va_G) (cI cJ : ClassId) (a : Nat → Nat) (f : Nat → Int32) (σ : Nat → Nat → Int32) : WR l yX4_finds cX4_finds 2 (some .int) 0 D cI cJ (MW cI a f σ) [.ref (a 0), .int (-1000003)] (some (.int (-1000003))) (MW cI a f (va_up σ 4 (mFi (σ 4) 2))) := by
  have h := c_X4_finds l D cI cJ a f σ 2 (by decide)
  rw [show (-1000001 : Int32) - nI 2 = -1000003 by decide] at h
  exact h
theorem c_X4_fd3 (l : Launch) (D : va_G) (cI cJ : ClassId) (a : Nat → Nat) (f : Nat → Int32) (σ : Nat → Nat → Int32) : WR l yX4_finds cX4_finds 2 (some .int) 0 D cI cJ (MW cI a f σ) [.ref (a 0), .int (-1000004)] (some (.int (-1000004))) (MW cI a f (va_up σ 4 (mFi (σ 4) 3))) := by
  have h := c_X4_finds l D cI cJ a f σ 3 (by decide)
  rw [show (-1000001 : Int32) - nI 3 = -1000004 by decide] at h
  exact h
theorem c_X4_fd4 (l : Launch) (D : va_G) (cI cJ : ClassId) (a : Nat → Nat) (f : Nat → Int32) (σ : Nat → Nat → Int32) : WR l yX4_finds cX4_finds 2 (some .int) 0 D cI cJ (MW cI a f σ) [.ref (a 0), .int (-1000005)] (some (.int (-1000005))) (MW cI a f (va_up σ 4 (mFi (σ 4) 4))) := by
  have h := c_X4_finds l D cI cJ a f σ 4 (by decide)
  rw [show (-1000001 : Int32) - nI 4 = -1000005 by decide] at h
  exact h
theorem c_X4_fd5 (l : Launch) (D : va_G) (cI cJ : ClassId) (a : Nat → Nat) (f : Nat → Int32) (σ : Nat → Nat → Int32) : WR l yX4_finds cX4_finds 2 (some .int) 0 D cI cJ (MW cI a f σ) [.ref (a 0), .int (-1000006)] (some (.int (-1000006))) (MW cI a f (va_up σ 4 (mFi (σ 4) 5))) := by
  have h := c_X4_finds l D cI cJ a f σ 5 (by decide)
  rw [show (-1000001 : Int32) - nI 5 = -1000006 by decide] at h
  exact h
theorem c_X4_fd6 (l : Launch) (D : va_G) (cI cJ : ClassId) (a : Nat → Nat) (f : Nat → Int32) (σ : Nat → Nat → Int32) : WR l yX4_finds cX4_finds 2 (some .int) 0 D cI cJ (MW cI a f σ) [.ref (a 0), .int (-1000007)] (some (.int (-1000007))) (MW cI a f (va_up σ 4 (mFi (σ 4) 6))) := by
  have h := c_X4_finds l D cI cJ a f σ 6 (by decide)
  rw [show (-1000001 : Int32) - nI 6 = -1000007 by decide] at h
  exact h
set_option maxRecDepth 100000 in
set_option maxHeartbeats 4000000 in
theorem c_X4_frost_ok (l : Launch) (D : va_G) (cI cJ : ClassId) (a : Nat → Nat) (f : Nat → Int32) (σ : Nat → Nat → Int32) (ce : Nat) (v : Nat) (hc : ce < 6) (hv : v ≤ 9) : WR l yX4_frost cX4_frost 3 (some .int) 1 D cI cJ (MW cI a f σ) [.ref (a 0), .int (nI ce), .int (nI v)] (some (.int (f (4 + ce)))) (MW cI a (upd f (4 + ce) (nI v)) σ) := by
  refine WR.of (by decide) (Nat.le_of_ble_eq_true rfl) (fun p e s m below meth c ls A S hr hlk hK hP hD hS hA hl => ?_)
  obtain ⟨hx, hb, hml, hown, hU⟩ := id S
  have hl : lv_has ls 3 [(0, .ref (a 0)), (1, .int (nI ce)), (2, .int (nI v))] := hl
  refine lv_iload_n hx hb dX4_frost_0 rfl (lv_at hl 1 rfl) ?_
  refine RO.callS S ks_X4_43 (c_X4_isCellar l D cI cJ a f σ (nI ce)) hK hP ⟨Nat.le_of_ble_eq_true rfl, Nat.le_of_ble_eq_true rfl⟩ hl.1 rfl rfl (Nat.le_of_ble_eq_true rfl) (Nat.zero_le _) (Nat.zero_le _) dX4_frost_1 ?_
  refine q_if_eqB (tgt := 30) hx hb dX4_frost_4 (by decide) (fun h => absurd (⟨nI_pos' (by omega), nI_lt (by omega) (by decide)⟩) h) (fun _ => ?_)
  refine lv_iload_n hx hb dX4_frost_7 rfl (lv_at hl 2 rfl) ?_
  refine lv_i2l hx hb dX4_frost_8 rfl ?_
  refine lv_lconst (v := 0) hx hb dX4_frost_9 (by decide) ?_
  refine lv_ldc2 (v := 9) hx hb hown (hU _ mK_X4_47) dX4_frost_10 ?_
  refine RO.callS S ks_X4_49 (c_X4_isIn l D cI cJ a f σ (nI v) (nI 0) (nI 9)) hK hP ⟨Nat.le_of_ble_eq_true rfl, Nat.le_of_ble_eq_true rfl⟩ hl.1 rfl rfl (Nat.le_of_ble_eq_true rfl) (Nat.zero_le _) (Nat.zero_le _) dX4_frost_13 ?_
  refine q_if_eqB (tgt := 30) hx hb dX4_frost_16 (by decide) (fun h => absurd (⟨nI_le (by omega) (by omega), nI_le (by omega) (by omega)⟩) h) (fun _ => ?_)
  refine lv_aload_n hx hb dX4_frost_19 rfl (lv_at hl 0 rfl) ?_
  refine lv_iconst (v := nI 4) hx hb dX4_frost_20 (by decide) ?_
  refine lv_iload_n hx hb dX4_frost_21 rfl (lv_at hl 1 rfl) ?_
  refine q_iaddN (a := 4) (b := ce) hx hb dX4_frost_22 ?_
  refine lv_iload_n hx hb dX4_frost_23 rfl (lv_at hl 2 rfl) ?_
  refine WR.callV (w1 := MW cI a (upd f (4 + ce) (nI v)) σ) S kv_X4_53 (c_X4_becomes l D cI cJ a f σ (4 + ce) (nI v) (by omega)) hK hP hD hS hA ([]) ([]) rfl rfl rfl rfl ⟨Nat.le_of_ble_eq_true rfl, Nat.le_of_ble_eq_true rfl⟩ hl.1 rfl rfl (Nat.le_of_ble_eq_true rfl) (Nat.zero_le _) (Nat.zero_le _) dX4_frost_24 (fun H locs hP hD hS => ?_)
  refine lv_goto (tgt := 36) hx hb dX4_frost_27 (by decide) ?_
  exact WR.iret S hr hlk hP hS (rfl) rfl dX4_frost_36
set_option maxRecDepth 100000 in
set_option maxHeartbeats 4000000 in
theorem c_X4_frost_bad (l : Launch) (D : va_G) (cI cJ : ClassId) (a : Nat → Nat) (f : Nat → Int32) (σ : Nat → Nat → Int32) (x : Int32) (y : Int32) (hb0 : ¬ ((nI 0 ≤ x ∧ x ≤ nI 5) ∧ (nI 0 ≤ y ∧ y ≤ nI 9))) : WR l yX4_frost cX4_frost 3 (some .int) 1 D cI cJ (MW cI a f σ) [.ref (a 0), .int x, .int y] (some (.int (-1000001))) (MW cI a f (va_up σ 4 (mFi (σ 4) 0))) := by
  refine WR.of (by decide) (Nat.le_of_ble_eq_true rfl) (fun p e s m below meth c ls A S hr hlk hK hP hD hS hA hl => ?_)
  obtain ⟨hx, hb, hml, hown, hU⟩ := id S
  have hl : lv_has ls 3 [(0, .ref (a 0)), (1, .int x), (2, .int y)] := hl
  refine lv_iload_n hx hb dX4_frost_0 rfl (lv_at hl 1 rfl) ?_
  refine RO.callS S ks_X4_43 (c_X4_isCellar l D cI cJ a f σ x) hK hP ⟨Nat.le_of_ble_eq_true rfl, Nat.le_of_ble_eq_true rfl⟩ hl.1 rfl rfl (Nat.le_of_ble_eq_true rfl) (Nat.zero_le _) (Nat.zero_le _) dX4_frost_1 ?_
  refine q_if_eqB (tgt := 30) hx hb dX4_frost_4 (by decide) (fun c_4 => ?_) (fun c_4 => ?_)
  · refine lv_aload_n hx hb dX4_frost_30 rfl (lv_at hl 0 rfl) ?_
    refine lv_ldc (v := (-1000001)) hx hb hown (hU _ mK_X4_37) dX4_frost_31 ?_
    refine WR.callV (w1 := MW cI a f (va_up σ 4 (mFi (σ 4) 0))) S kv_X4_39 (c_X4_fd0 l D cI cJ a f σ) hK hP hD hS hA ([]) ([]) rfl rfl rfl rfl ⟨Nat.le_of_ble_eq_true rfl, Nat.le_of_ble_eq_true rfl⟩ hl.1 rfl rfl (Nat.le_of_ble_eq_true rfl) (Nat.zero_le _) (Nat.zero_le _) dX4_frost_33 (fun H locs hP hD hS => ?_)
    exact WR.iret S hr hlk hP hS (rfl) rfl dX4_frost_36
  · refine lv_iload_n hx hb dX4_frost_7 rfl (lv_at hl 2 rfl) ?_
    refine lv_i2l hx hb dX4_frost_8 rfl ?_
    refine lv_lconst (v := 0) hx hb dX4_frost_9 (by decide) ?_
    refine lv_ldc2 (v := 9) hx hb hown (hU _ mK_X4_47) dX4_frost_10 ?_
    refine RO.callS S ks_X4_49 (c_X4_isIn l D cI cJ a f σ y (nI 0) (nI 9)) hK hP ⟨Nat.le_of_ble_eq_true rfl, Nat.le_of_ble_eq_true rfl⟩ hl.1 rfl rfl (Nat.le_of_ble_eq_true rfl) (Nat.zero_le _) (Nat.zero_le _) dX4_frost_13 ?_
    refine q_if_eqB (tgt := 30) hx hb dX4_frost_16 (by decide) (fun c_16 => ?_) (fun c_16 => ?_)
    · refine lv_aload_n hx hb dX4_frost_30 rfl (lv_at hl 0 rfl) ?_
      refine lv_ldc (v := (-1000001)) hx hb hown (hU _ mK_X4_37) dX4_frost_31 ?_
      refine WR.callV (w1 := MW cI a f (va_up σ 4 (mFi (σ 4) 0))) S kv_X4_39 (c_X4_fd0 l D cI cJ a f σ) hK hP hD hS hA ([]) ([]) rfl rfl rfl rfl ⟨Nat.le_of_ble_eq_true rfl, Nat.le_of_ble_eq_true rfl⟩ hl.1 rfl rfl (Nat.le_of_ble_eq_true rfl) (Nat.zero_le _) (Nat.zero_le _) dX4_frost_33 (fun H locs hP hD hS => ?_)
      exact WR.iret S hr hlk hP hS (rfl) rfl dX4_frost_36
    · exact absurd (⟨rg5 c_4, c_16⟩) hb0
set_option maxRecDepth 100000 in
set_option maxHeartbeats 4000000 in
theorem c_X4_storm_ok (l : Launch) (D : va_G) (cI cJ : ClassId) (a : Nat → Nat) (f : Nat → Int32) (σ : Nat → Nat → Int32) (ce : Nat) (v : Nat) (hc : ce < 6) (hv : v ≤ 99) : WR l yX4_storm cX4_storm 3 (some .int) 1 D cI cJ (MW cI a f σ) [.ref (a 0), .int (nI ce), .int (nI v)] (some (.int (f (10 + ce)))) (MW cI a (upd f (10 + ce) (nI v)) σ) := by
  refine WR.of (by decide) (Nat.le_of_ble_eq_true rfl) (fun p e s m below meth c ls A S hr hlk hK hP hD hS hA hl => ?_)
  obtain ⟨hx, hb, hml, hown, hU⟩ := id S
  have hl : lv_has ls 3 [(0, .ref (a 0)), (1, .int (nI ce)), (2, .int (nI v))] := hl
  refine lv_iload_n hx hb dX4_storm_0 rfl (lv_at hl 1 rfl) ?_
  refine RO.callS S ks_X4_43 (c_X4_isCellar l D cI cJ a f σ (nI ce)) hK hP ⟨Nat.le_of_ble_eq_true rfl, Nat.le_of_ble_eq_true rfl⟩ hl.1 rfl rfl (Nat.le_of_ble_eq_true rfl) (Nat.zero_le _) (Nat.zero_le _) dX4_storm_1 ?_
  refine q_if_eqB (tgt := 31) hx hb dX4_storm_4 (by decide) (fun h => absurd (⟨nI_pos' (by omega), nI_lt (by omega) (by decide)⟩) h) (fun _ => ?_)
  refine lv_iload_n hx hb dX4_storm_7 rfl (lv_at hl 2 rfl) ?_
  refine lv_i2l hx hb dX4_storm_8 rfl ?_
  refine lv_lconst (v := 0) hx hb dX4_storm_9 (by decide) ?_
  refine lv_ldc2 (v := 99) hx hb hown (hU _ mK_X4_68) dX4_storm_10 ?_
  refine RO.callS S ks_X4_49 (c_X4_isIn l D cI cJ a f σ (nI v) (nI 0) (nI 99)) hK hP ⟨Nat.le_of_ble_eq_true rfl, Nat.le_of_ble_eq_true rfl⟩ hl.1 rfl rfl (Nat.le_of_ble_eq_true rfl) (Nat.zero_le _) (Nat.zero_le _) dX4_storm_13 ?_
  refine q_if_eqB (tgt := 31) hx hb dX4_storm_16 (by decide) (fun h => absurd (⟨nI_le (by omega) (by omega), nI_le (by omega) (by omega)⟩) h) (fun _ => ?_)
  refine lv_aload_n hx hb dX4_storm_19 rfl (lv_at hl 0 rfl) ?_
  refine lv_bipush (v := nI 10) hx hb dX4_storm_20 (by decide) ?_
  refine lv_iload_n hx hb dX4_storm_22 rfl (lv_at hl 1 rfl) ?_
  refine q_iaddN (a := 10) (b := ce) hx hb dX4_storm_23 ?_
  refine lv_iload_n hx hb dX4_storm_24 rfl (lv_at hl 2 rfl) ?_
  refine WR.callV (w1 := MW cI a (upd f (10 + ce) (nI v)) σ) S kv_X4_53 (c_X4_becomes l D cI cJ a f σ (10 + ce) (nI v) (by omega)) hK hP hD hS hA ([]) ([]) rfl rfl rfl rfl ⟨Nat.le_of_ble_eq_true rfl, Nat.le_of_ble_eq_true rfl⟩ hl.1 rfl rfl (Nat.le_of_ble_eq_true rfl) (Nat.zero_le _) (Nat.zero_le _) dX4_storm_25 (fun H locs hP hD hS => ?_)
  refine lv_goto (tgt := 37) hx hb dX4_storm_28 (by decide) ?_
  exact WR.iret S hr hlk hP hS (rfl) rfl dX4_storm_37
set_option maxRecDepth 100000 in
set_option maxHeartbeats 4000000 in
theorem c_X4_storm_bad (l : Launch) (D : va_G) (cI cJ : ClassId) (a : Nat → Nat) (f : Nat → Int32) (σ : Nat → Nat → Int32) (x : Int32) (y : Int32) (hb0 : ¬ ((nI 0 ≤ x ∧ x ≤ nI 5) ∧ (nI 0 ≤ y ∧ y ≤ nI 99))) : WR l yX4_storm cX4_storm 3 (some .int) 1 D cI cJ (MW cI a f σ) [.ref (a 0), .int x, .int y] (some (.int (-1000001))) (MW cI a f (va_up σ 4 (mFi (σ 4) 0))) := by
  refine WR.of (by decide) (Nat.le_of_ble_eq_true rfl) (fun p e s m below meth c ls A S hr hlk hK hP hD hS hA hl => ?_)
  obtain ⟨hx, hb, hml, hown, hU⟩ := id S
  have hl : lv_has ls 3 [(0, .ref (a 0)), (1, .int x), (2, .int y)] := hl
  refine lv_iload_n hx hb dX4_storm_0 rfl (lv_at hl 1 rfl) ?_
  refine RO.callS S ks_X4_43 (c_X4_isCellar l D cI cJ a f σ x) hK hP ⟨Nat.le_of_ble_eq_true rfl, Nat.le_of_ble_eq_true rfl⟩ hl.1 rfl rfl (Nat.le_of_ble_eq_true rfl) (Nat.zero_le _) (Nat.zero_le _) dX4_storm_1 ?_
  refine q_if_eqB (tgt := 31) hx hb dX4_storm_4 (by decide) (fun c_4 => ?_) (fun c_4 => ?_)
  · refine lv_aload_n hx hb dX4_storm_31 rfl (lv_at hl 0 rfl) ?_
    refine lv_ldc (v := (-1000001)) hx hb hown (hU _ mK_X4_37) dX4_storm_32 ?_
    refine WR.callV (w1 := MW cI a f (va_up σ 4 (mFi (σ 4) 0))) S kv_X4_39 (c_X4_fd0 l D cI cJ a f σ) hK hP hD hS hA ([]) ([]) rfl rfl rfl rfl ⟨Nat.le_of_ble_eq_true rfl, Nat.le_of_ble_eq_true rfl⟩ hl.1 rfl rfl (Nat.le_of_ble_eq_true rfl) (Nat.zero_le _) (Nat.zero_le _) dX4_storm_34 (fun H locs hP hD hS => ?_)
    exact WR.iret S hr hlk hP hS (rfl) rfl dX4_storm_37
  · refine lv_iload_n hx hb dX4_storm_7 rfl (lv_at hl 2 rfl) ?_
    refine lv_i2l hx hb dX4_storm_8 rfl ?_
    refine lv_lconst (v := 0) hx hb dX4_storm_9 (by decide) ?_
    refine lv_ldc2 (v := 99) hx hb hown (hU _ mK_X4_68) dX4_storm_10 ?_
    refine RO.callS S ks_X4_49 (c_X4_isIn l D cI cJ a f σ y (nI 0) (nI 99)) hK hP ⟨Nat.le_of_ble_eq_true rfl, Nat.le_of_ble_eq_true rfl⟩ hl.1 rfl rfl (Nat.le_of_ble_eq_true rfl) (Nat.zero_le _) (Nat.zero_le _) dX4_storm_13 ?_
    refine q_if_eqB (tgt := 31) hx hb dX4_storm_16 (by decide) (fun c_16 => ?_) (fun c_16 => ?_)
    · refine lv_aload_n hx hb dX4_storm_31 rfl (lv_at hl 0 rfl) ?_
      refine lv_ldc (v := (-1000001)) hx hb hown (hU _ mK_X4_37) dX4_storm_32 ?_
      refine WR.callV (w1 := MW cI a f (va_up σ 4 (mFi (σ 4) 0))) S kv_X4_39 (c_X4_fd0 l D cI cJ a f σ) hK hP hD hS hA ([]) ([]) rfl rfl rfl rfl ⟨Nat.le_of_ble_eq_true rfl, Nat.le_of_ble_eq_true rfl⟩ hl.1 rfl rfl (Nat.le_of_ble_eq_true rfl) (Nat.zero_le _) (Nat.zero_le _) dX4_storm_34 (fun H locs hP hD hS => ?_)
      exact WR.iret S hr hlk hP hS (rfl) rfl dX4_storm_37
    · exact absurd (⟨rg5 c_4, c_16⟩) hb0
set_option maxRecDepth 100000 in
set_option maxHeartbeats 4000000 in
theorem c_X4_cellar_ok0 (l : Launch) (D : va_G) (cI cJ : ClassId) (a : Nat → Nat) (f : Nat → Int32) (σ : Nat → Nat → Int32) (ce : Nat) (hc : ce < 6) (n : Nat) (hw : Wk f n) : WR l yX4_cellar cX4_cellar 3 (some .int) 2 D cI cJ (MW cI a f σ) [.ref (a 0), .int (nI ce), .int (nI 0)] (some (.int (f (4 + ce)))) (MW cI a f σ) := by
  refine WR.of (by decide) (Nat.le_of_ble_eq_true rfl) (fun p e s m below meth c ls A S hr hlk hK hP hD hS hA hl => ?_)
  obtain ⟨hx, hb, hml, hown, hU⟩ := id S
  have hl : lv_has ls 3 [(0, .ref (a 0)), (1, .int (nI ce)), (2, .int (nI 0))] := hl
  refine lv_iload_n hx hb dX4_cellar_0 rfl (lv_at hl 1 rfl) ?_
  refine RO.callS S ks_X4_43 (c_X4_isCellar l D cI cJ a f σ (nI ce)) hK hP ⟨Nat.le_of_ble_eq_true rfl, Nat.le_of_ble_eq_true rfl⟩ hl.1 rfl rfl (Nat.le_of_ble_eq_true rfl) (Nat.zero_le _) (Nat.zero_le _) dX4_cellar_1 ?_
  refine q_if_eqB (tgt := 19) hx hb dX4_cellar_4 (by decide) (fun h => absurd (⟨nI_pos' (by omega), nI_lt (by omega) (by decide)⟩) h) (fun _ => ?_)
  refine lv_iload_n hx hb dX4_cellar_7 rfl (lv_at hl 2 rfl) ?_
  refine lv_i2l hx hb dX4_cellar_8 rfl ?_
  refine lv_lconst (v := 0) hx hb dX4_cellar_9 (by decide) ?_
  refine lv_ldc2 (v := 3) hx hb hown (hU _ mK_X4_60) dX4_cellar_10 ?_
  refine RO.callS S ks_X4_49 (c_X4_isIn l D cI cJ a f σ (nI 0) (nI 0) (nI 3)) hK hP ⟨Nat.le_of_ble_eq_true rfl, Nat.le_of_ble_eq_true rfl⟩ hl.1 rfl rfl (Nat.le_of_ble_eq_true rfl) (Nat.zero_le _) (Nat.zero_le _) dX4_cellar_13 ?_
  refine q_if_neB (tgt := 26) hx hb dX4_cellar_16 (by decide) (fun _ => ?_) (fun h => absurd (⟨nI_le (by omega) (by omega), nI_le (by omega) (by omega)⟩) h)
  refine lv_iload_n hx hb dX4_cellar_26 rfl (lv_at hl 2 rfl) ?_
  refine q_if_neN (tgt := 41) (a := 0) hx hb dX4_cellar_27 (by decide) (by omega) (fun h => absurd h (by omega)) (fun _ => ?_)
  refine lv_aload_n hx hb dX4_cellar_30 rfl (lv_at hl 0 rfl) ?_
  refine g4_s S hK hP dX4_cellar_31 ?_
  refine lv_iconst (v := nI 4) hx hb dX4_cellar_34 (by decide) ?_
  refine lv_iload_n hx hb dX4_cellar_35 rfl (lv_at hl 1 rfl) ?_
  refine q_iaddN (a := 4) (b := ce) hx hb dX4_cellar_36 ?_
  refine l4_s S hK hP (j := 4 + ce) (by omega) dX4_cellar_37 ?_
  refine lv_goto (tgt := 76) hx hb dX4_cellar_38 (by decide) ?_
  exact WR.iret S hr hlk hP hS (rfl) rfl dX4_cellar_76
set_option maxRecDepth 100000 in
set_option maxHeartbeats 4000000 in
theorem c_X4_cellar_ok1 (l : Launch) (D : va_G) (cI cJ : ClassId) (a : Nat → Nat) (f : Nat → Int32) (σ : Nat → Nat → Int32) (ce : Nat) (hc : ce < 6) (n : Nat) (hw : Wk f n) : WR l yX4_cellar cX4_cellar 3 (some .int) 2 D cI cJ (MW cI a f σ) [.ref (a 0), .int (nI ce), .int (nI 1)] (some (.int (f (10 + ce)))) (MW cI a f σ) := by
  refine WR.of (by decide) (Nat.le_of_ble_eq_true rfl) (fun p e s m below meth c ls A S hr hlk hK hP hD hS hA hl => ?_)
  obtain ⟨hx, hb, hml, hown, hU⟩ := id S
  have hl : lv_has ls 3 [(0, .ref (a 0)), (1, .int (nI ce)), (2, .int (nI 1))] := hl
  refine lv_iload_n hx hb dX4_cellar_0 rfl (lv_at hl 1 rfl) ?_
  refine RO.callS S ks_X4_43 (c_X4_isCellar l D cI cJ a f σ (nI ce)) hK hP ⟨Nat.le_of_ble_eq_true rfl, Nat.le_of_ble_eq_true rfl⟩ hl.1 rfl rfl (Nat.le_of_ble_eq_true rfl) (Nat.zero_le _) (Nat.zero_le _) dX4_cellar_1 ?_
  refine q_if_eqB (tgt := 19) hx hb dX4_cellar_4 (by decide) (fun h => absurd (⟨nI_pos' (by omega), nI_lt (by omega) (by decide)⟩) h) (fun _ => ?_)
  refine lv_iload_n hx hb dX4_cellar_7 rfl (lv_at hl 2 rfl) ?_
  refine lv_i2l hx hb dX4_cellar_8 rfl ?_
  refine lv_lconst (v := 0) hx hb dX4_cellar_9 (by decide) ?_
  refine lv_ldc2 (v := 3) hx hb hown (hU _ mK_X4_60) dX4_cellar_10 ?_
  refine RO.callS S ks_X4_49 (c_X4_isIn l D cI cJ a f σ (nI 1) (nI 0) (nI 3)) hK hP ⟨Nat.le_of_ble_eq_true rfl, Nat.le_of_ble_eq_true rfl⟩ hl.1 rfl rfl (Nat.le_of_ble_eq_true rfl) (Nat.zero_le _) (Nat.zero_le _) dX4_cellar_13 ?_
  refine q_if_neB (tgt := 26) hx hb dX4_cellar_16 (by decide) (fun _ => ?_) (fun h => absurd (⟨nI_le (by omega) (by omega), nI_le (by omega) (by omega)⟩) h)
  refine lv_iload_n hx hb dX4_cellar_26 rfl (lv_at hl 2 rfl) ?_
  refine q_if_neN (tgt := 41) (a := 1) hx hb dX4_cellar_27 (by decide) (by omega) (fun _ => ?_) (fun h => absurd h (by omega))
  refine lv_iload_n hx hb dX4_cellar_41 rfl (lv_at hl 2 rfl) ?_
  refine lv_iconst (v := nI 1) hx hb dX4_cellar_42 (by decide) ?_
  refine q_icmp_neN (tgt := 58) (a := 1) (b := 1) hx hb dX4_cellar_43 (by decide) (by omega) (by omega) (fun h => absurd h (by omega)) (fun _ => ?_)
  refine lv_aload_n hx hb dX4_cellar_46 rfl (lv_at hl 0 rfl) ?_
  refine g4_s S hK hP dX4_cellar_47 ?_
  refine lv_bipush (v := nI 10) hx hb dX4_cellar_50 (by decide) ?_
  refine lv_iload_n hx hb dX4_cellar_52 rfl (lv_at hl 1 rfl) ?_
  refine q_iaddN (a := 10) (b := ce) hx hb dX4_cellar_53 ?_
  refine l4_s S hK hP (j := 10 + ce) (by omega) dX4_cellar_54 ?_
  refine lv_goto (tgt := 76) hx hb dX4_cellar_55 (by decide) ?_
  exact WR.iret S hr hlk hP hS (rfl) rfl dX4_cellar_76
set_option maxRecDepth 100000 in
set_option maxHeartbeats 4000000 in
theorem c_X4_cellar_ok2 (l : Launch) (D : va_G) (cI cJ : ClassId) (a : Nat → Nat) (f : Nat → Int32) (σ : Nat → Nat → Int32) (ce : Nat) (hc : ce < 6) (n : Nat) (hw : Wk f n) : WR l yX4_cellar cX4_cellar 3 (some .int) 2 D cI cJ (MW cI a f σ) [.ref (a 0), .int (nI ce), .int (nI 2)] (some (.int (nI (sTh f (nI ce) n)))) (MW cI a f σ) := by
  refine WR.of (by decide) (Nat.le_of_ble_eq_true rfl) (fun p e s m below meth c ls A S hr hlk hK hP hD hS hA hl => ?_)
  obtain ⟨hx, hb, hml, hown, hU⟩ := id S
  have hl : lv_has ls 3 [(0, .ref (a 0)), (1, .int (nI ce)), (2, .int (nI 2))] := hl
  refine lv_iload_n hx hb dX4_cellar_0 rfl (lv_at hl 1 rfl) ?_
  refine RO.callS S ks_X4_43 (c_X4_isCellar l D cI cJ a f σ (nI ce)) hK hP ⟨Nat.le_of_ble_eq_true rfl, Nat.le_of_ble_eq_true rfl⟩ hl.1 rfl rfl (Nat.le_of_ble_eq_true rfl) (Nat.zero_le _) (Nat.zero_le _) dX4_cellar_1 ?_
  refine q_if_eqB (tgt := 19) hx hb dX4_cellar_4 (by decide) (fun h => absurd (⟨nI_pos' (by omega), nI_lt (by omega) (by decide)⟩) h) (fun _ => ?_)
  refine lv_iload_n hx hb dX4_cellar_7 rfl (lv_at hl 2 rfl) ?_
  refine lv_i2l hx hb dX4_cellar_8 rfl ?_
  refine lv_lconst (v := 0) hx hb dX4_cellar_9 (by decide) ?_
  refine lv_ldc2 (v := 3) hx hb hown (hU _ mK_X4_60) dX4_cellar_10 ?_
  refine RO.callS S ks_X4_49 (c_X4_isIn l D cI cJ a f σ (nI 2) (nI 0) (nI 3)) hK hP ⟨Nat.le_of_ble_eq_true rfl, Nat.le_of_ble_eq_true rfl⟩ hl.1 rfl rfl (Nat.le_of_ble_eq_true rfl) (Nat.zero_le _) (Nat.zero_le _) dX4_cellar_13 ?_
  refine q_if_neB (tgt := 26) hx hb dX4_cellar_16 (by decide) (fun _ => ?_) (fun h => absurd (⟨nI_le (by omega) (by omega), nI_le (by omega) (by omega)⟩) h)
  refine lv_iload_n hx hb dX4_cellar_26 rfl (lv_at hl 2 rfl) ?_
  refine q_if_neN (tgt := 41) (a := 2) hx hb dX4_cellar_27 (by decide) (by omega) (fun _ => ?_) (fun h => absurd h (by omega))
  refine lv_iload_n hx hb dX4_cellar_41 rfl (lv_at hl 2 rfl) ?_
  refine lv_iconst (v := nI 1) hx hb dX4_cellar_42 (by decide) ?_
  refine q_icmp_neN (tgt := 58) (a := 2) (b := 1) hx hb dX4_cellar_43 (by decide) (by omega) (by omega) (fun _ => ?_) (fun h => absurd h (by omega))
  refine lv_iload_n hx hb dX4_cellar_58 rfl (lv_at hl 2 rfl) ?_
  refine lv_iconst (v := nI 2) hx hb dX4_cellar_59 (by decide) ?_
  refine q_icmp_neN (tgt := 71) (a := 2) (b := 2) hx hb dX4_cellar_60 (by decide) (by omega) (by omega) (fun h => absurd h (by omega)) (fun _ => ?_)
  refine lv_aload_n hx hb dX4_cellar_63 rfl (lv_at hl 0 rfl) ?_
  refine lv_iload_n hx hb dX4_cellar_64 rfl (lv_at hl 1 rfl) ?_
  refine RO.callV S kv_X4_62 (c_X4_there l D cI cJ a f σ (nI ce) n (hw)) hK hP rfl ⟨Nat.le_of_ble_eq_true rfl, Nat.le_of_ble_eq_true rfl⟩ hl.1 rfl rfl (Nat.le_of_ble_eq_true rfl) (Nat.zero_le _) (Nat.zero_le _) dX4_cellar_65 ?_
  refine lv_goto (tgt := 76) hx hb dX4_cellar_68 (by decide) ?_
  exact WR.iret S hr hlk hP hS (rfl) rfl dX4_cellar_76
set_option maxRecDepth 100000 in
set_option maxHeartbeats 4000000 in
theorem c_X4_cellar_ok3 (l : Launch) (D : va_G) (cI cJ : ClassId) (a : Nat → Nat) (f : Nat → Int32) (σ : Nat → Nat → Int32) (ce : Nat) (hc : ce < 6) (n : Nat) (hw : Wk f n) : WR l yX4_cellar cX4_cellar 3 (some .int) 2 D cI cJ (MW cI a f σ) [.ref (a 0), .int (nI ce), .int (nI 3)] (some (.int (oI (sEm f (nI ce) n)))) (MW cI a f σ) := by
  refine WR.of (by decide) (Nat.le_of_ble_eq_true rfl) (fun p e s m below meth c ls A S hr hlk hK hP hD hS hA hl => ?_)
  obtain ⟨hx, hb, hml, hown, hU⟩ := id S
  have hl : lv_has ls 3 [(0, .ref (a 0)), (1, .int (nI ce)), (2, .int (nI 3))] := hl
  refine lv_iload_n hx hb dX4_cellar_0 rfl (lv_at hl 1 rfl) ?_
  refine RO.callS S ks_X4_43 (c_X4_isCellar l D cI cJ a f σ (nI ce)) hK hP ⟨Nat.le_of_ble_eq_true rfl, Nat.le_of_ble_eq_true rfl⟩ hl.1 rfl rfl (Nat.le_of_ble_eq_true rfl) (Nat.zero_le _) (Nat.zero_le _) dX4_cellar_1 ?_
  refine q_if_eqB (tgt := 19) hx hb dX4_cellar_4 (by decide) (fun h => absurd (⟨nI_pos' (by omega), nI_lt (by omega) (by decide)⟩) h) (fun _ => ?_)
  refine lv_iload_n hx hb dX4_cellar_7 rfl (lv_at hl 2 rfl) ?_
  refine lv_i2l hx hb dX4_cellar_8 rfl ?_
  refine lv_lconst (v := 0) hx hb dX4_cellar_9 (by decide) ?_
  refine lv_ldc2 (v := 3) hx hb hown (hU _ mK_X4_60) dX4_cellar_10 ?_
  refine RO.callS S ks_X4_49 (c_X4_isIn l D cI cJ a f σ (nI 3) (nI 0) (nI 3)) hK hP ⟨Nat.le_of_ble_eq_true rfl, Nat.le_of_ble_eq_true rfl⟩ hl.1 rfl rfl (Nat.le_of_ble_eq_true rfl) (Nat.zero_le _) (Nat.zero_le _) dX4_cellar_13 ?_
  refine q_if_neB (tgt := 26) hx hb dX4_cellar_16 (by decide) (fun _ => ?_) (fun h => absurd (⟨nI_le (by omega) (by omega), nI_le (by omega) (by omega)⟩) h)
  refine lv_iload_n hx hb dX4_cellar_26 rfl (lv_at hl 2 rfl) ?_
  refine q_if_neN (tgt := 41) (a := 3) hx hb dX4_cellar_27 (by decide) (by omega) (fun _ => ?_) (fun h => absurd h (by omega))
  refine lv_iload_n hx hb dX4_cellar_41 rfl (lv_at hl 2 rfl) ?_
  refine lv_iconst (v := nI 1) hx hb dX4_cellar_42 (by decide) ?_
  refine q_icmp_neN (tgt := 58) (a := 3) (b := 1) hx hb dX4_cellar_43 (by decide) (by omega) (by omega) (fun _ => ?_) (fun h => absurd h (by omega))
  refine lv_iload_n hx hb dX4_cellar_58 rfl (lv_at hl 2 rfl) ?_
  refine lv_iconst (v := nI 2) hx hb dX4_cellar_59 (by decide) ?_
  refine q_icmp_neN (tgt := 71) (a := 3) (b := 2) hx hb dX4_cellar_60 (by decide) (by omega) (by omega) (fun _ => ?_) (fun h => absurd h (by omega))
  refine lv_aload_n hx hb dX4_cellar_71 rfl (lv_at hl 0 rfl) ?_
  refine lv_iload_n hx hb dX4_cellar_72 rfl (lv_at hl 1 rfl) ?_
  refine RO.callV S kv_X4_65 (c_X4_emptiest l D cI cJ a f σ (nI ce) n (hw)) hK hP rfl ⟨Nat.le_of_ble_eq_true rfl, Nat.le_of_ble_eq_true rfl⟩ hl.1 rfl rfl (Nat.le_of_ble_eq_true rfl) (Nat.zero_le _) (Nat.zero_le _) dX4_cellar_73 ?_
  exact WR.iret S hr hlk hP hS (rfl) rfl dX4_cellar_76
set_option maxRecDepth 100000 in
set_option maxHeartbeats 4000000 in
theorem c_X4_cellar_bad (l : Launch) (D : va_G) (cI cJ : ClassId) (a : Nat → Nat) (f : Nat → Int32) (σ : Nat → Nat → Int32) (x : Int32) (y : Int32) (hb0 : ¬ ((nI 0 ≤ x ∧ x ≤ nI 5) ∧ (nI 0 ≤ y ∧ y ≤ nI 3))) : WR l yX4_cellar cX4_cellar 3 (some .int) 2 D cI cJ (MW cI a f σ) [.ref (a 0), .int x, .int y] (some (.int (-1000001))) (MW cI a f (va_up σ 4 (mFi (σ 4) 0))) := by
  refine WR.of (by decide) (Nat.le_of_ble_eq_true rfl) (fun p e s m below meth c ls A S hr hlk hK hP hD hS hA hl => ?_)
  obtain ⟨hx, hb, hml, hown, hU⟩ := id S
  have hl : lv_has ls 3 [(0, .ref (a 0)), (1, .int x), (2, .int y)] := hl
  refine lv_iload_n hx hb dX4_cellar_0 rfl (lv_at hl 1 rfl) ?_
  refine RO.callS S ks_X4_43 (c_X4_isCellar l D cI cJ a f σ x) hK hP ⟨Nat.le_of_ble_eq_true rfl, Nat.le_of_ble_eq_true rfl⟩ hl.1 rfl rfl (Nat.le_of_ble_eq_true rfl) (Nat.zero_le _) (Nat.zero_le _) dX4_cellar_1 ?_
  refine q_if_eqB (tgt := 19) hx hb dX4_cellar_4 (by decide) (fun c_4 => ?_) (fun c_4 => ?_)
  · refine lv_aload_n hx hb dX4_cellar_19 rfl (lv_at hl 0 rfl) ?_
    refine lv_ldc (v := (-1000001)) hx hb hown (hU _ mK_X4_37) dX4_cellar_20 ?_
    refine WR.callV (w1 := MW cI a f (va_up σ 4 (mFi (σ 4) 0))) S kv_X4_39 (c_X4_fd0 l D cI cJ a f σ) hK hP hD hS hA ([]) ([]) rfl rfl rfl rfl ⟨Nat.le_of_ble_eq_true rfl, Nat.le_of_ble_eq_true rfl⟩ hl.1 rfl rfl (Nat.le_of_ble_eq_true rfl) (Nat.zero_le _) (Nat.zero_le _) dX4_cellar_22 (fun H locs hP hD hS => ?_)
    exact WR.iret S hr hlk hP hS (rfl) rfl dX4_cellar_25
  · refine lv_iload_n hx hb dX4_cellar_7 rfl (lv_at hl 2 rfl) ?_
    refine lv_i2l hx hb dX4_cellar_8 rfl ?_
    refine lv_lconst (v := 0) hx hb dX4_cellar_9 (by decide) ?_
    refine lv_ldc2 (v := 3) hx hb hown (hU _ mK_X4_60) dX4_cellar_10 ?_
    refine RO.callS S ks_X4_49 (c_X4_isIn l D cI cJ a f σ y (nI 0) (nI 3)) hK hP ⟨Nat.le_of_ble_eq_true rfl, Nat.le_of_ble_eq_true rfl⟩ hl.1 rfl rfl (Nat.le_of_ble_eq_true rfl) (Nat.zero_le _) (Nat.zero_le _) dX4_cellar_13 ?_
    refine q_if_neB (tgt := 26) hx hb dX4_cellar_16 (by decide) (fun c_16 => ?_) (fun c_16 => ?_)
    · exact absurd (⟨rg5 c_4, c_16⟩) hb0
    · refine lv_aload_n hx hb dX4_cellar_19 rfl (lv_at hl 0 rfl) ?_
      refine lv_ldc (v := (-1000001)) hx hb hown (hU _ mK_X4_37) dX4_cellar_20 ?_
      refine WR.callV (w1 := MW cI a f (va_up σ 4 (mFi (σ 4) 0))) S kv_X4_39 (c_X4_fd0 l D cI cJ a f σ) hK hP hD hS hA ([]) ([]) rfl rfl rfl rfl ⟨Nat.le_of_ble_eq_true rfl, Nat.le_of_ble_eq_true rfl⟩ hl.1 rfl rfl (Nat.le_of_ble_eq_true rfl) (Nat.zero_le _) (Nat.zero_le _) dX4_cellar_22 (fun H locs hP hD hS => ?_)
      exact WR.iret S hr hlk hP hS (rfl) rfl dX4_cellar_25
set_option maxRecDepth 100000 in
set_option maxHeartbeats 4000000 in
theorem c_X4_cask_ok (l : Launch) (D : va_G) (cI cJ : ClassId) (a : Nat → Nat) (f : Nat → Int32) (σ : Nat → Nat → Int32) (q : Nat) (ce : Nat) (hq : q ≤ 6) (hc : ce < 6) (n : Nat) (hw : Wk f n) (hn8 : n < 8) : WR l yX4_cask cX4_cask 3 (some .int) 2 D cI cJ (MW cI a f σ) [.ref (a 0), .int (nI q), .int (nI ce)] (some (.int (nI n))) (MW cI a (sAd f n (nI q) (nI ce)) σ) := by
  refine WR.of (by decide) (Nat.le_of_ble_eq_true rfl) (fun p e s m below meth c ls A S hr hlk hK hP hD hS hA hl => ?_)
  obtain ⟨hx, hb, hml, hown, hU⟩ := id S
  have hl : lv_has ls 3 [(0, .ref (a 0)), (1, .int (nI q)), (2, .int (nI ce))] := hl
  refine lv_iload_n hx hb dX4_cask_0 rfl (lv_at hl 1 rfl) ?_
  refine lv_i2l hx hb dX4_cask_1 rfl ?_
  refine lv_lconst (v := 0) hx hb dX4_cask_2 (by decide) ?_
  refine lv_ldc2 (v := 6) hx hb hown (hU _ mK_X4_73) dX4_cask_3 ?_
  refine RO.callS S ks_X4_49 (c_X4_isIn l D cI cJ a f σ (nI q) (nI 0) (nI 6)) hK hP ⟨Nat.le_of_ble_eq_true rfl, Nat.le_of_ble_eq_true rfl⟩ hl.1 rfl rfl (Nat.le_of_ble_eq_true rfl) (Nat.zero_le _) (Nat.zero_le _) dX4_cask_6 ?_
  refine q_if_eqB (tgt := 19) hx hb dX4_cask_9 (by decide) (fun h => absurd (⟨nI_le (by omega) (by omega), nI_le (by omega) (by omega)⟩) h) (fun _ => ?_)
  refine lv_iload_n hx hb dX4_cask_12 rfl (lv_at hl 2 rfl) ?_
  refine RO.callS S ks_X4_43 (c_X4_isCellar l D cI cJ a f σ (nI ce)) hK hP ⟨Nat.le_of_ble_eq_true rfl, Nat.le_of_ble_eq_true rfl⟩ hl.1 rfl rfl (Nat.le_of_ble_eq_true rfl) (Nat.zero_le _) (Nat.zero_le _) dX4_cask_13 ?_
  refine q_if_neB (tgt := 26) hx hb dX4_cask_16 (by decide) (fun _ => ?_) (fun h => absurd (⟨nI_pos' (by omega), nI_lt (by omega) (by decide)⟩) h)
  refine lv_aload_n hx hb dX4_cask_26 rfl (lv_at hl 0 rfl) ?_
  refine g4_s S hK hP dX4_cask_27 ?_
  refine lv_iconst (v := nI 0) hx hb dX4_cask_30 (by decide) ?_
  refine l4_s S hK hP (j := 0) (by omega) dX4_cask_31 ?_
  refine q_eqi (y := nI n) (hw.1) ?_
  refine lv_bipush (v := nI 8) hx hb dX4_cask_32 (by decide) ?_
  refine q_icmp_neN (tgt := 44) (a := n) (b := 8) hx hb dX4_cask_34 (by decide) (by omega) (by omega) (fun _ => ?_) (fun h => absurd h (by omega))
  refine lv_aload_n hx hb dX4_cask_44 rfl (lv_at hl 0 rfl) ?_
  refine lv_iload_n hx hb dX4_cask_45 rfl (lv_at hl 1 rfl) ?_
  refine lv_iload_n hx hb dX4_cask_46 rfl (lv_at hl 2 rfl) ?_
  refine WR.callV (w1 := MW cI a (sAd f n (nI q) (nI ce)) σ) S kv_X4_76 (c_X4_comes l D cI cJ a f σ (nI q) (nI ce) n (hw.1) (by omega)) hK hP hD hS hA ([]) ([]) rfl rfl rfl rfl ⟨Nat.le_of_ble_eq_true rfl, Nat.le_of_ble_eq_true rfl⟩ hl.1 rfl rfl (Nat.le_of_ble_eq_true rfl) (Nat.zero_le _) (Nat.zero_le _) dX4_cask_47 (fun H locs hP hD hS => ?_)
  refine W.eq (g2 := F0 m 50 ls []) rfl ?_
  refine lv_aload_n hx hb dX4_cask_50 rfl (lv_at hl 0 rfl) ?_
  refine g4_s S hK hP dX4_cask_51 ?_
  refine lv_iconst (v := nI 0) hx hb dX4_cask_54 (by decide) ?_
  refine l4_s S hK hP (j := 0) (by omega) dX4_cask_55 ?_
  refine q_eqi (y := nI (n + 1)) (upd_at) ?_
  refine lv_iconst (v := nI 1) hx hb dX4_cask_56 (by decide) ?_
  refine q_isubN (a := n + 1) (b := 1) hx hb dX4_cask_57 (by omega) ?_
  exact WR.iret S hr hlk hP hS (rfl) rfl dX4_cask_58
set_option maxRecDepth 100000 in
set_option maxHeartbeats 4000000 in
theorem c_X4_cask_full (l : Launch) (D : va_G) (cI cJ : ClassId) (a : Nat → Nat) (f : Nat → Int32) (σ : Nat → Nat → Int32) (q : Nat) (ce : Nat) (hq : q ≤ 6) (hc : ce < 6) (n : Nat) (hw : Wk f n) (hn8 : n = 8) : WR l yX4_cask cX4_cask 3 (some .int) 2 D cI cJ (MW cI a f σ) [.ref (a 0), .int (nI q), .int (nI ce)] (some (.int (-1000002))) (MW cI a f (va_up σ 4 (mFi (σ 4) 1))) := by
  refine WR.of (by decide) (Nat.le_of_ble_eq_true rfl) (fun p e s m below meth c ls A S hr hlk hK hP hD hS hA hl => ?_)
  obtain ⟨hx, hb, hml, hown, hU⟩ := id S
  have hl : lv_has ls 3 [(0, .ref (a 0)), (1, .int (nI q)), (2, .int (nI ce))] := hl
  refine lv_iload_n hx hb dX4_cask_0 rfl (lv_at hl 1 rfl) ?_
  refine lv_i2l hx hb dX4_cask_1 rfl ?_
  refine lv_lconst (v := 0) hx hb dX4_cask_2 (by decide) ?_
  refine lv_ldc2 (v := 6) hx hb hown (hU _ mK_X4_73) dX4_cask_3 ?_
  refine RO.callS S ks_X4_49 (c_X4_isIn l D cI cJ a f σ (nI q) (nI 0) (nI 6)) hK hP ⟨Nat.le_of_ble_eq_true rfl, Nat.le_of_ble_eq_true rfl⟩ hl.1 rfl rfl (Nat.le_of_ble_eq_true rfl) (Nat.zero_le _) (Nat.zero_le _) dX4_cask_6 ?_
  refine q_if_eqB (tgt := 19) hx hb dX4_cask_9 (by decide) (fun h => absurd (⟨nI_le (by omega) (by omega), nI_le (by omega) (by omega)⟩) h) (fun _ => ?_)
  refine lv_iload_n hx hb dX4_cask_12 rfl (lv_at hl 2 rfl) ?_
  refine RO.callS S ks_X4_43 (c_X4_isCellar l D cI cJ a f σ (nI ce)) hK hP ⟨Nat.le_of_ble_eq_true rfl, Nat.le_of_ble_eq_true rfl⟩ hl.1 rfl rfl (Nat.le_of_ble_eq_true rfl) (Nat.zero_le _) (Nat.zero_le _) dX4_cask_13 ?_
  refine q_if_neB (tgt := 26) hx hb dX4_cask_16 (by decide) (fun _ => ?_) (fun h => absurd (⟨nI_pos' (by omega), nI_lt (by omega) (by decide)⟩) h)
  refine lv_aload_n hx hb dX4_cask_26 rfl (lv_at hl 0 rfl) ?_
  refine g4_s S hK hP dX4_cask_27 ?_
  refine lv_iconst (v := nI 0) hx hb dX4_cask_30 (by decide) ?_
  refine l4_s S hK hP (j := 0) (by omega) dX4_cask_31 ?_
  refine q_eqi (y := nI n) (hw.1) ?_
  refine lv_bipush (v := nI 8) hx hb dX4_cask_32 (by decide) ?_
  refine q_icmp_neN (tgt := 44) (a := n) (b := 8) hx hb dX4_cask_34 (by decide) (by omega) (by omega) (fun h => absurd h (by omega)) (fun _ => ?_)
  refine lv_aload_n hx hb dX4_cask_37 rfl (lv_at hl 0 rfl) ?_
  refine lv_ldc (v := (-1000002)) hx hb hown (hU _ mK_X4_75) dX4_cask_38 ?_
  refine WR.callV (w1 := MW cI a f (va_up σ 4 (mFi (σ 4) 1))) S kv_X4_39 (c_X4_fd1 l D cI cJ a f σ) hK hP hD hS hA ([]) ([]) rfl rfl rfl rfl ⟨Nat.le_of_ble_eq_true rfl, Nat.le_of_ble_eq_true rfl⟩ hl.1 rfl rfl (Nat.le_of_ble_eq_true rfl) (Nat.zero_le _) (Nat.zero_le _) dX4_cask_40 (fun H locs hP hD hS => ?_)
  exact WR.iret S hr hlk hP hS (rfl) rfl dX4_cask_43
set_option maxRecDepth 100000 in
set_option maxHeartbeats 4000000 in
theorem c_X4_cask_bad (l : Launch) (D : va_G) (cI cJ : ClassId) (a : Nat → Nat) (f : Nat → Int32) (σ : Nat → Nat → Int32) (x : Int32) (y : Int32) (hb0 : ¬ ((nI 0 ≤ x ∧ x ≤ nI 6) ∧ (nI 0 ≤ y ∧ y ≤ nI 5))) : WR l yX4_cask cX4_cask 3 (some .int) 2 D cI cJ (MW cI a f σ) [.ref (a 0), .int x, .int y] (some (.int (-1000001))) (MW cI a f (va_up σ 4 (mFi (σ 4) 0))) := by
  refine WR.of (by decide) (Nat.le_of_ble_eq_true rfl) (fun p e s m below meth c ls A S hr hlk hK hP hD hS hA hl => ?_)
  obtain ⟨hx, hb, hml, hown, hU⟩ := id S
  have hl : lv_has ls 3 [(0, .ref (a 0)), (1, .int x), (2, .int y)] := hl
  refine lv_iload_n hx hb dX4_cask_0 rfl (lv_at hl 1 rfl) ?_
  refine lv_i2l hx hb dX4_cask_1 rfl ?_
  refine lv_lconst (v := 0) hx hb dX4_cask_2 (by decide) ?_
  refine lv_ldc2 (v := 6) hx hb hown (hU _ mK_X4_73) dX4_cask_3 ?_
  refine RO.callS S ks_X4_49 (c_X4_isIn l D cI cJ a f σ x (nI 0) (nI 6)) hK hP ⟨Nat.le_of_ble_eq_true rfl, Nat.le_of_ble_eq_true rfl⟩ hl.1 rfl rfl (Nat.le_of_ble_eq_true rfl) (Nat.zero_le _) (Nat.zero_le _) dX4_cask_6 ?_
  refine q_if_eqB (tgt := 19) hx hb dX4_cask_9 (by decide) (fun c_9 => ?_) (fun c_9 => ?_)
  · refine lv_aload_n hx hb dX4_cask_19 rfl (lv_at hl 0 rfl) ?_
    refine lv_ldc (v := (-1000001)) hx hb hown (hU _ mK_X4_37) dX4_cask_20 ?_
    refine WR.callV (w1 := MW cI a f (va_up σ 4 (mFi (σ 4) 0))) S kv_X4_39 (c_X4_fd0 l D cI cJ a f σ) hK hP hD hS hA ([]) ([]) rfl rfl rfl rfl ⟨Nat.le_of_ble_eq_true rfl, Nat.le_of_ble_eq_true rfl⟩ hl.1 rfl rfl (Nat.le_of_ble_eq_true rfl) (Nat.zero_le _) (Nat.zero_le _) dX4_cask_22 (fun H locs hP hD hS => ?_)
    exact WR.iret S hr hlk hP hS (rfl) rfl dX4_cask_25
  · refine lv_iload_n hx hb dX4_cask_12 rfl (lv_at hl 2 rfl) ?_
    refine RO.callS S ks_X4_43 (c_X4_isCellar l D cI cJ a f σ y) hK hP ⟨Nat.le_of_ble_eq_true rfl, Nat.le_of_ble_eq_true rfl⟩ hl.1 rfl rfl (Nat.le_of_ble_eq_true rfl) (Nat.zero_le _) (Nat.zero_le _) dX4_cask_13 ?_
    refine q_if_neB (tgt := 26) hx hb dX4_cask_16 (by decide) (fun c_16 => ?_) (fun c_16 => ?_)
    · exact absurd (⟨c_9, rg5 c_16⟩) hb0
    · refine lv_aload_n hx hb dX4_cask_19 rfl (lv_at hl 0 rfl) ?_
      refine lv_ldc (v := (-1000001)) hx hb hown (hU _ mK_X4_37) dX4_cask_20 ?_
      refine WR.callV (w1 := MW cI a f (va_up σ 4 (mFi (σ 4) 0))) S kv_X4_39 (c_X4_fd0 l D cI cJ a f σ) hK hP hD hS hA ([]) ([]) rfl rfl rfl rfl ⟨Nat.le_of_ble_eq_true rfl, Nat.le_of_ble_eq_true rfl⟩ hl.1 rfl rfl (Nat.le_of_ble_eq_true rfl) (Nat.zero_le _) (Nat.zero_le _) dX4_cask_22 (fun H locs hP hD hS => ?_)
      exact WR.iret S hr hlk hP hS (rfl) rfl dX4_cask_25
set_option maxRecDepth 100000 in
set_option maxHeartbeats 4000000 in
theorem c_X4_of_ok0 (l : Launch) (D : va_G) (cI cJ : ClassId) (a : Nat → Nat) (f : Nat → Int32) (σ : Nat → Nat → Int32) (k : Nat) (n : Nat) (hw : Wk f n) (hk : k < n) : WR l yX4_of cX4_of 3 (some .int) 3 D cI cJ (MW cI a f σ) [.ref (a 0), .int (nI k), .int (nI 0)] (some (.int (fi f k 0))) (MW cI a f σ) := by
  have h8 := hw.2.1
  refine WR.of (by decide) (Nat.le_of_ble_eq_true rfl) (fun p e s m below meth c ls A S hr hlk hK hP hD hS hA hl => ?_)
  obtain ⟨hx, hb, hml, hown, hU⟩ := id S
  have hl : lv_has ls 3 [(0, .ref (a 0)), (1, .int (nI k)), (2, .int (nI 0))] := hl
  refine lv_aload_n hx hb dX4_of_0 rfl (lv_at hl 0 rfl) ?_
  refine lv_iload_n hx hb dX4_of_1 rfl (lv_at hl 1 rfl) ?_
  refine RO.callV S kv_X4_86 (c_X4_isCask l D cI cJ a f σ (nI k) n (hw.1)) hK hP rfl ⟨Nat.le_of_ble_eq_true rfl, Nat.le_of_ble_eq_true rfl⟩ hl.1 rfl rfl (Nat.le_of_ble_eq_true rfl) (Nat.zero_le _) (Nat.zero_le _) dX4_of_2 ?_
  refine q_if_eqB (tgt := 20) hx hb dX4_of_5 (by decide) (fun h => absurd (⟨nI_pos' (by omega), nI_lt (by omega) (by omega)⟩) h) (fun _ => ?_)
  refine lv_iload_n hx hb dX4_of_8 rfl (lv_at hl 2 rfl) ?_
  refine lv_i2l hx hb dX4_of_9 rfl ?_
  refine lv_lconst (v := 0) hx hb dX4_of_10 (by decide) ?_
  refine lv_ldc2 (v := 9) hx hb hown (hU _ mK_X4_47) dX4_of_11 ?_
  refine RO.callS S ks_X4_49 (c_X4_isIn l D cI cJ a f σ (nI 0) (nI 0) (nI 9)) hK hP ⟨Nat.le_of_ble_eq_true rfl, Nat.le_of_ble_eq_true rfl⟩ hl.1 rfl rfl (Nat.le_of_ble_eq_true rfl) (Nat.zero_le _) (Nat.zero_le _) dX4_of_14 ?_
  refine q_if_neB (tgt := 27) hx hb dX4_of_17 (by decide) (fun _ => ?_) (fun h => absurd (⟨nI_le (by omega) (by omega), nI_le (by omega) (by omega)⟩) h)
  refine lv_iload_n hx hb dX4_of_27 rfl (lv_at hl 2 rfl) ?_
  refine lv_tableOut (tgt := 74) hx hb dX4_of_28 (Or.inl (by decide)) (by decide) ?_
  refine lv_aload_n hx hb dX4_of_74 rfl (lv_at hl 0 rfl) ?_
  refine lv_iload_n hx hb dX4_of_75 rfl (lv_at hl 1 rfl) ?_
  refine lv_iload_n hx hb dX4_of_76 rfl (lv_at hl 2 rfl) ?_
  refine RO.callV S kv_X4_57 (c_X4_its l D cI cJ a f σ k 0 (by omega)) hK hP rfl ⟨Nat.le_of_ble_eq_true rfl, Nat.le_of_ble_eq_true rfl⟩ hl.1 rfl rfl (Nat.le_of_ble_eq_true rfl) (Nat.zero_le _) (Nat.zero_le _) dX4_of_77 ?_
  exact WR.iret S hr hlk hP hS (rfl) rfl dX4_of_80
set_option maxRecDepth 100000 in
set_option maxHeartbeats 4000000 in
theorem c_X4_of_ok1 (l : Launch) (D : va_G) (cI cJ : ClassId) (a : Nat → Nat) (f : Nat → Int32) (σ : Nat → Nat → Int32) (k : Nat) (n : Nat) (hw : Wk f n) (hk : k < n) : WR l yX4_of cX4_of 3 (some .int) 3 D cI cJ (MW cI a f σ) [.ref (a 0), .int (nI k), .int (nI 1)] (some (.int (fi f k 1))) (MW cI a f σ) := by
  have h8 := hw.2.1
  refine WR.of (by decide) (Nat.le_of_ble_eq_true rfl) (fun p e s m below meth c ls A S hr hlk hK hP hD hS hA hl => ?_)
  obtain ⟨hx, hb, hml, hown, hU⟩ := id S
  have hl : lv_has ls 3 [(0, .ref (a 0)), (1, .int (nI k)), (2, .int (nI 1))] := hl
  refine lv_aload_n hx hb dX4_of_0 rfl (lv_at hl 0 rfl) ?_
  refine lv_iload_n hx hb dX4_of_1 rfl (lv_at hl 1 rfl) ?_
  refine RO.callV S kv_X4_86 (c_X4_isCask l D cI cJ a f σ (nI k) n (hw.1)) hK hP rfl ⟨Nat.le_of_ble_eq_true rfl, Nat.le_of_ble_eq_true rfl⟩ hl.1 rfl rfl (Nat.le_of_ble_eq_true rfl) (Nat.zero_le _) (Nat.zero_le _) dX4_of_2 ?_
  refine q_if_eqB (tgt := 20) hx hb dX4_of_5 (by decide) (fun h => absurd (⟨nI_pos' (by omega), nI_lt (by omega) (by omega)⟩) h) (fun _ => ?_)
  refine lv_iload_n hx hb dX4_of_8 rfl (lv_at hl 2 rfl) ?_
  refine lv_i2l hx hb dX4_of_9 rfl ?_
  refine lv_lconst (v := 0) hx hb dX4_of_10 (by decide) ?_
  refine lv_ldc2 (v := 9) hx hb hown (hU _ mK_X4_47) dX4_of_11 ?_
  refine RO.callS S ks_X4_49 (c_X4_isIn l D cI cJ a f σ (nI 1) (nI 0) (nI 9)) hK hP ⟨Nat.le_of_ble_eq_true rfl, Nat.le_of_ble_eq_true rfl⟩ hl.1 rfl rfl (Nat.le_of_ble_eq_true rfl) (Nat.zero_le _) (Nat.zero_le _) dX4_of_14 ?_
  refine q_if_neB (tgt := 27) hx hb dX4_of_17 (by decide) (fun _ => ?_) (fun h => absurd (⟨nI_le (by omega) (by omega), nI_le (by omega) (by omega)⟩) h)
  refine lv_iload_n hx hb dX4_of_27 rfl (lv_at hl 2 rfl) ?_
  refine lv_tableOut (tgt := 74) hx hb dX4_of_28 (Or.inl (by decide)) (by decide) ?_
  refine lv_aload_n hx hb dX4_of_74 rfl (lv_at hl 0 rfl) ?_
  refine lv_iload_n hx hb dX4_of_75 rfl (lv_at hl 1 rfl) ?_
  refine lv_iload_n hx hb dX4_of_76 rfl (lv_at hl 2 rfl) ?_
  refine RO.callV S kv_X4_57 (c_X4_its l D cI cJ a f σ k 1 (by omega)) hK hP rfl ⟨Nat.le_of_ble_eq_true rfl, Nat.le_of_ble_eq_true rfl⟩ hl.1 rfl rfl (Nat.le_of_ble_eq_true rfl) (Nat.zero_le _) (Nat.zero_le _) dX4_of_77 ?_
  exact WR.iret S hr hlk hP hS (rfl) rfl dX4_of_80
set_option maxRecDepth 100000 in
set_option maxHeartbeats 4000000 in
theorem c_X4_of_ok2 (l : Launch) (D : va_G) (cI cJ : ClassId) (a : Nat → Nat) (f : Nat → Int32) (σ : Nat → Nat → Int32) (k : Nat) (n : Nat) (hw : Wk f n) (hk : k < n) : WR l yX4_of cX4_of 3 (some .int) 3 D cI cJ (MW cI a f σ) [.ref (a 0), .int (nI k), .int (nI 2)] (some (.int (fi f k 2))) (MW cI a f σ) := by
  have h8 := hw.2.1
  refine WR.of (by decide) (Nat.le_of_ble_eq_true rfl) (fun p e s m below meth c ls A S hr hlk hK hP hD hS hA hl => ?_)
  obtain ⟨hx, hb, hml, hown, hU⟩ := id S
  have hl : lv_has ls 3 [(0, .ref (a 0)), (1, .int (nI k)), (2, .int (nI 2))] := hl
  refine lv_aload_n hx hb dX4_of_0 rfl (lv_at hl 0 rfl) ?_
  refine lv_iload_n hx hb dX4_of_1 rfl (lv_at hl 1 rfl) ?_
  refine RO.callV S kv_X4_86 (c_X4_isCask l D cI cJ a f σ (nI k) n (hw.1)) hK hP rfl ⟨Nat.le_of_ble_eq_true rfl, Nat.le_of_ble_eq_true rfl⟩ hl.1 rfl rfl (Nat.le_of_ble_eq_true rfl) (Nat.zero_le _) (Nat.zero_le _) dX4_of_2 ?_
  refine q_if_eqB (tgt := 20) hx hb dX4_of_5 (by decide) (fun h => absurd (⟨nI_pos' (by omega), nI_lt (by omega) (by omega)⟩) h) (fun _ => ?_)
  refine lv_iload_n hx hb dX4_of_8 rfl (lv_at hl 2 rfl) ?_
  refine lv_i2l hx hb dX4_of_9 rfl ?_
  refine lv_lconst (v := 0) hx hb dX4_of_10 (by decide) ?_
  refine lv_ldc2 (v := 9) hx hb hown (hU _ mK_X4_47) dX4_of_11 ?_
  refine RO.callS S ks_X4_49 (c_X4_isIn l D cI cJ a f σ (nI 2) (nI 0) (nI 9)) hK hP ⟨Nat.le_of_ble_eq_true rfl, Nat.le_of_ble_eq_true rfl⟩ hl.1 rfl rfl (Nat.le_of_ble_eq_true rfl) (Nat.zero_le _) (Nat.zero_le _) dX4_of_14 ?_
  refine q_if_neB (tgt := 27) hx hb dX4_of_17 (by decide) (fun _ => ?_) (fun h => absurd (⟨nI_le (by omega) (by omega), nI_le (by omega) (by omega)⟩) h)
  refine lv_iload_n hx hb dX4_of_27 rfl (lv_at hl 2 rfl) ?_
  refine lv_tableOut (tgt := 74) hx hb dX4_of_28 (Or.inl (by decide)) (by decide) ?_
  refine lv_aload_n hx hb dX4_of_74 rfl (lv_at hl 0 rfl) ?_
  refine lv_iload_n hx hb dX4_of_75 rfl (lv_at hl 1 rfl) ?_
  refine lv_iload_n hx hb dX4_of_76 rfl (lv_at hl 2 rfl) ?_
  refine RO.callV S kv_X4_57 (c_X4_its l D cI cJ a f σ k 2 (by omega)) hK hP rfl ⟨Nat.le_of_ble_eq_true rfl, Nat.le_of_ble_eq_true rfl⟩ hl.1 rfl rfl (Nat.le_of_ble_eq_true rfl) (Nat.zero_le _) (Nat.zero_le _) dX4_of_77 ?_
  exact WR.iret S hr hlk hP hS (rfl) rfl dX4_of_80
set_option maxRecDepth 100000 in
set_option maxHeartbeats 4000000 in
theorem c_X4_of_ok3 (l : Launch) (D : va_G) (cI cJ : ClassId) (a : Nat → Nat) (f : Nat → Int32) (σ : Nat → Nat → Int32) (k : Nat) (n : Nat) (hw : Wk f n) (hk : k < n) : WR l yX4_of cX4_of 3 (some .int) 3 D cI cJ (MW cI a f σ) [.ref (a 0), .int (nI k), .int (nI 3)] (some (.int (fi f k 3))) (MW cI a f σ) := by
  have h8 := hw.2.1
  refine WR.of (by decide) (Nat.le_of_ble_eq_true rfl) (fun p e s m below meth c ls A S hr hlk hK hP hD hS hA hl => ?_)
  obtain ⟨hx, hb, hml, hown, hU⟩ := id S
  have hl : lv_has ls 3 [(0, .ref (a 0)), (1, .int (nI k)), (2, .int (nI 3))] := hl
  refine lv_aload_n hx hb dX4_of_0 rfl (lv_at hl 0 rfl) ?_
  refine lv_iload_n hx hb dX4_of_1 rfl (lv_at hl 1 rfl) ?_
  refine RO.callV S kv_X4_86 (c_X4_isCask l D cI cJ a f σ (nI k) n (hw.1)) hK hP rfl ⟨Nat.le_of_ble_eq_true rfl, Nat.le_of_ble_eq_true rfl⟩ hl.1 rfl rfl (Nat.le_of_ble_eq_true rfl) (Nat.zero_le _) (Nat.zero_le _) dX4_of_2 ?_
  refine q_if_eqB (tgt := 20) hx hb dX4_of_5 (by decide) (fun h => absurd (⟨nI_pos' (by omega), nI_lt (by omega) (by omega)⟩) h) (fun _ => ?_)
  refine lv_iload_n hx hb dX4_of_8 rfl (lv_at hl 2 rfl) ?_
  refine lv_i2l hx hb dX4_of_9 rfl ?_
  refine lv_lconst (v := 0) hx hb dX4_of_10 (by decide) ?_
  refine lv_ldc2 (v := 9) hx hb hown (hU _ mK_X4_47) dX4_of_11 ?_
  refine RO.callS S ks_X4_49 (c_X4_isIn l D cI cJ a f σ (nI 3) (nI 0) (nI 9)) hK hP ⟨Nat.le_of_ble_eq_true rfl, Nat.le_of_ble_eq_true rfl⟩ hl.1 rfl rfl (Nat.le_of_ble_eq_true rfl) (Nat.zero_le _) (Nat.zero_le _) dX4_of_14 ?_
  refine q_if_neB (tgt := 27) hx hb dX4_of_17 (by decide) (fun _ => ?_) (fun h => absurd (⟨nI_le (by omega) (by omega), nI_le (by omega) (by omega)⟩) h)
  refine lv_iload_n hx hb dX4_of_27 rfl (lv_at hl 2 rfl) ?_
  refine lv_tableOut (tgt := 74) hx hb dX4_of_28 (Or.inl (by decide)) (by decide) ?_
  refine lv_aload_n hx hb dX4_of_74 rfl (lv_at hl 0 rfl) ?_
  refine lv_iload_n hx hb dX4_of_75 rfl (lv_at hl 1 rfl) ?_
  refine lv_iload_n hx hb dX4_of_76 rfl (lv_at hl 2 rfl) ?_
  refine RO.callV S kv_X4_57 (c_X4_its l D cI cJ a f σ k 3 (by omega)) hK hP rfl ⟨Nat.le_of_ble_eq_true rfl, Nat.le_of_ble_eq_true rfl⟩ hl.1 rfl rfl (Nat.le_of_ble_eq_true rfl) (Nat.zero_le _) (Nat.zero_le _) dX4_of_77 ?_
  exact WR.iret S hr hlk hP hS (rfl) rfl dX4_of_80
set_option maxRecDepth 100000 in
set_option maxHeartbeats 4000000 in
theorem c_X4_of_ok4 (l : Launch) (D : va_G) (cI cJ : ClassId) (a : Nat → Nat) (f : Nat → Int32) (σ : Nat → Nat → Int32) (k : Nat) (n : Nat) (hw : Wk f n) (hk : k < n) : WR l yX4_of cX4_of 3 (some .int) 3 D cI cJ (MW cI a f σ) [.ref (a 0), .int (nI k), .int (nI 4)] (some (.int (fi f k 4))) (MW cI a f σ) := by
  have h8 := hw.2.1
  refine WR.of (by decide) (Nat.le_of_ble_eq_true rfl) (fun p e s m below meth c ls A S hr hlk hK hP hD hS hA hl => ?_)
  obtain ⟨hx, hb, hml, hown, hU⟩ := id S
  have hl : lv_has ls 3 [(0, .ref (a 0)), (1, .int (nI k)), (2, .int (nI 4))] := hl
  refine lv_aload_n hx hb dX4_of_0 rfl (lv_at hl 0 rfl) ?_
  refine lv_iload_n hx hb dX4_of_1 rfl (lv_at hl 1 rfl) ?_
  refine RO.callV S kv_X4_86 (c_X4_isCask l D cI cJ a f σ (nI k) n (hw.1)) hK hP rfl ⟨Nat.le_of_ble_eq_true rfl, Nat.le_of_ble_eq_true rfl⟩ hl.1 rfl rfl (Nat.le_of_ble_eq_true rfl) (Nat.zero_le _) (Nat.zero_le _) dX4_of_2 ?_
  refine q_if_eqB (tgt := 20) hx hb dX4_of_5 (by decide) (fun h => absurd (⟨nI_pos' (by omega), nI_lt (by omega) (by omega)⟩) h) (fun _ => ?_)
  refine lv_iload_n hx hb dX4_of_8 rfl (lv_at hl 2 rfl) ?_
  refine lv_i2l hx hb dX4_of_9 rfl ?_
  refine lv_lconst (v := 0) hx hb dX4_of_10 (by decide) ?_
  refine lv_ldc2 (v := 9) hx hb hown (hU _ mK_X4_47) dX4_of_11 ?_
  refine RO.callS S ks_X4_49 (c_X4_isIn l D cI cJ a f σ (nI 4) (nI 0) (nI 9)) hK hP ⟨Nat.le_of_ble_eq_true rfl, Nat.le_of_ble_eq_true rfl⟩ hl.1 rfl rfl (Nat.le_of_ble_eq_true rfl) (Nat.zero_le _) (Nat.zero_le _) dX4_of_14 ?_
  refine q_if_neB (tgt := 27) hx hb dX4_of_17 (by decide) (fun _ => ?_) (fun h => absurd (⟨nI_le (by omega) (by omega), nI_le (by omega) (by omega)⟩) h)
  refine lv_iload_n hx hb dX4_of_27 rfl (lv_at hl 2 rfl) ?_
  refine lv_tableOut (tgt := 74) hx hb dX4_of_28 (Or.inl (by decide)) (by decide) ?_
  refine lv_aload_n hx hb dX4_of_74 rfl (lv_at hl 0 rfl) ?_
  refine lv_iload_n hx hb dX4_of_75 rfl (lv_at hl 1 rfl) ?_
  refine lv_iload_n hx hb dX4_of_76 rfl (lv_at hl 2 rfl) ?_
  refine RO.callV S kv_X4_57 (c_X4_its l D cI cJ a f σ k 4 (by omega)) hK hP rfl ⟨Nat.le_of_ble_eq_true rfl, Nat.le_of_ble_eq_true rfl⟩ hl.1 rfl rfl (Nat.le_of_ble_eq_true rfl) (Nat.zero_le _) (Nat.zero_le _) dX4_of_77 ?_
  exact WR.iret S hr hlk hP hS (rfl) rfl dX4_of_80
set_option maxRecDepth 100000 in
set_option maxHeartbeats 4000000 in
theorem c_X4_of_ok5 (l : Launch) (D : va_G) (cI cJ : ClassId) (a : Nat → Nat) (f : Nat → Int32) (σ : Nat → Nat → Int32) (k : Nat) (n : Nat) (hw : Wk f n) (hk : k < n) : WR l yX4_of cX4_of 3 (some .int) 3 D cI cJ (MW cI a f σ) [.ref (a 0), .int (nI k), .int (nI 5)] (some (.int (fi f k 5))) (MW cI a f σ) := by
  have h8 := hw.2.1
  refine WR.of (by decide) (Nat.le_of_ble_eq_true rfl) (fun p e s m below meth c ls A S hr hlk hK hP hD hS hA hl => ?_)
  obtain ⟨hx, hb, hml, hown, hU⟩ := id S
  have hl : lv_has ls 3 [(0, .ref (a 0)), (1, .int (nI k)), (2, .int (nI 5))] := hl
  refine lv_aload_n hx hb dX4_of_0 rfl (lv_at hl 0 rfl) ?_
  refine lv_iload_n hx hb dX4_of_1 rfl (lv_at hl 1 rfl) ?_
  refine RO.callV S kv_X4_86 (c_X4_isCask l D cI cJ a f σ (nI k) n (hw.1)) hK hP rfl ⟨Nat.le_of_ble_eq_true rfl, Nat.le_of_ble_eq_true rfl⟩ hl.1 rfl rfl (Nat.le_of_ble_eq_true rfl) (Nat.zero_le _) (Nat.zero_le _) dX4_of_2 ?_
  refine q_if_eqB (tgt := 20) hx hb dX4_of_5 (by decide) (fun h => absurd (⟨nI_pos' (by omega), nI_lt (by omega) (by omega)⟩) h) (fun _ => ?_)
  refine lv_iload_n hx hb dX4_of_8 rfl (lv_at hl 2 rfl) ?_
  refine lv_i2l hx hb dX4_of_9 rfl ?_
  refine lv_lconst (v := 0) hx hb dX4_of_10 (by decide) ?_
  refine lv_ldc2 (v := 9) hx hb hown (hU _ mK_X4_47) dX4_of_11 ?_
  refine RO.callS S ks_X4_49 (c_X4_isIn l D cI cJ a f σ (nI 5) (nI 0) (nI 9)) hK hP ⟨Nat.le_of_ble_eq_true rfl, Nat.le_of_ble_eq_true rfl⟩ hl.1 rfl rfl (Nat.le_of_ble_eq_true rfl) (Nat.zero_le _) (Nat.zero_le _) dX4_of_14 ?_
  refine q_if_neB (tgt := 27) hx hb dX4_of_17 (by decide) (fun _ => ?_) (fun h => absurd (⟨nI_le (by omega) (by omega), nI_le (by omega) (by omega)⟩) h)
  refine lv_iload_n hx hb dX4_of_27 rfl (lv_at hl 2 rfl) ?_
  refine lv_tableOut (tgt := 74) hx hb dX4_of_28 (Or.inl (by decide)) (by decide) ?_
  refine lv_aload_n hx hb dX4_of_74 rfl (lv_at hl 0 rfl) ?_
  refine lv_iload_n hx hb dX4_of_75 rfl (lv_at hl 1 rfl) ?_
  refine lv_iload_n hx hb dX4_of_76 rfl (lv_at hl 2 rfl) ?_
  refine RO.callV S kv_X4_57 (c_X4_its l D cI cJ a f σ k 5 (by omega)) hK hP rfl ⟨Nat.le_of_ble_eq_true rfl, Nat.le_of_ble_eq_true rfl⟩ hl.1 rfl rfl (Nat.le_of_ble_eq_true rfl) (Nat.zero_le _) (Nat.zero_le _) dX4_of_77 ?_
  exact WR.iret S hr hlk hP hS (rfl) rfl dX4_of_80
set_option maxRecDepth 100000 in
set_option maxHeartbeats 4000000 in
theorem c_X4_of_ok6 (l : Launch) (D : va_G) (cI cJ : ClassId) (a : Nat → Nat) (f : Nat → Int32) (σ : Nat → Nat → Int32) (k : Nat) (n : Nat) (hw : Wk f n) (hk : k < n) : WR l yX4_of cX4_of 3 (some .int) 3 D cI cJ (MW cI a f σ) [.ref (a 0), .int (nI k), .int (nI 6)] (some (.int (fi f k 6))) (MW cI a f σ) := by
  have h8 := hw.2.1
  refine WR.of (by decide) (Nat.le_of_ble_eq_true rfl) (fun p e s m below meth c ls A S hr hlk hK hP hD hS hA hl => ?_)
  obtain ⟨hx, hb, hml, hown, hU⟩ := id S
  have hl : lv_has ls 3 [(0, .ref (a 0)), (1, .int (nI k)), (2, .int (nI 6))] := hl
  refine lv_aload_n hx hb dX4_of_0 rfl (lv_at hl 0 rfl) ?_
  refine lv_iload_n hx hb dX4_of_1 rfl (lv_at hl 1 rfl) ?_
  refine RO.callV S kv_X4_86 (c_X4_isCask l D cI cJ a f σ (nI k) n (hw.1)) hK hP rfl ⟨Nat.le_of_ble_eq_true rfl, Nat.le_of_ble_eq_true rfl⟩ hl.1 rfl rfl (Nat.le_of_ble_eq_true rfl) (Nat.zero_le _) (Nat.zero_le _) dX4_of_2 ?_
  refine q_if_eqB (tgt := 20) hx hb dX4_of_5 (by decide) (fun h => absurd (⟨nI_pos' (by omega), nI_lt (by omega) (by omega)⟩) h) (fun _ => ?_)
  refine lv_iload_n hx hb dX4_of_8 rfl (lv_at hl 2 rfl) ?_
  refine lv_i2l hx hb dX4_of_9 rfl ?_
  refine lv_lconst (v := 0) hx hb dX4_of_10 (by decide) ?_
  refine lv_ldc2 (v := 9) hx hb hown (hU _ mK_X4_47) dX4_of_11 ?_
  refine RO.callS S ks_X4_49 (c_X4_isIn l D cI cJ a f σ (nI 6) (nI 0) (nI 9)) hK hP ⟨Nat.le_of_ble_eq_true rfl, Nat.le_of_ble_eq_true rfl⟩ hl.1 rfl rfl (Nat.le_of_ble_eq_true rfl) (Nat.zero_le _) (Nat.zero_le _) dX4_of_14 ?_
  refine q_if_neB (tgt := 27) hx hb dX4_of_17 (by decide) (fun _ => ?_) (fun h => absurd (⟨nI_le (by omega) (by omega), nI_le (by omega) (by omega)⟩) h)
  refine lv_iload_n hx hb dX4_of_27 rfl (lv_at hl 2 rfl) ?_
  refine lv_tableOut (tgt := 74) hx hb dX4_of_28 (Or.inl (by decide)) (by decide) ?_
  refine lv_aload_n hx hb dX4_of_74 rfl (lv_at hl 0 rfl) ?_
  refine lv_iload_n hx hb dX4_of_75 rfl (lv_at hl 1 rfl) ?_
  refine lv_iload_n hx hb dX4_of_76 rfl (lv_at hl 2 rfl) ?_
  refine RO.callV S kv_X4_57 (c_X4_its l D cI cJ a f σ k 6 (by omega)) hK hP rfl ⟨Nat.le_of_ble_eq_true rfl, Nat.le_of_ble_eq_true rfl⟩ hl.1 rfl rfl (Nat.le_of_ble_eq_true rfl) (Nat.zero_le _) (Nat.zero_le _) dX4_of_77 ?_
  exact WR.iret S hr hlk hP hS (rfl) rfl dX4_of_80
set_option maxRecDepth 100000 in
set_option maxHeartbeats 4000000 in
theorem c_X4_of_ok7 (l : Launch) (D : va_G) (cI cJ : ClassId) (a : Nat → Nat) (f : Nat → Int32) (σ : Nat → Nat → Int32) (k : Nat) (n : Nat) (hw : Wk f n) (hk : k < n) : WR l yX4_of cX4_of 3 (some .int) 3 D cI cJ (MW cI a f σ) [.ref (a 0), .int (nI k), .int (nI 7)] (some (.int (sLd f n k))) (MW cI a f σ) := by
  have h8 := hw.2.1
  refine WR.of (by decide) (Nat.le_of_ble_eq_true rfl) (fun p e s m below meth c ls A S hr hlk hK hP hD hS hA hl => ?_)
  obtain ⟨hx, hb, hml, hown, hU⟩ := id S
  have hl : lv_has ls 3 [(0, .ref (a 0)), (1, .int (nI k)), (2, .int (nI 7))] := hl
  refine lv_aload_n hx hb dX4_of_0 rfl (lv_at hl 0 rfl) ?_
  refine lv_iload_n hx hb dX4_of_1 rfl (lv_at hl 1 rfl) ?_
  refine RO.callV S kv_X4_86 (c_X4_isCask l D cI cJ a f σ (nI k) n (hw.1)) hK hP rfl ⟨Nat.le_of_ble_eq_true rfl, Nat.le_of_ble_eq_true rfl⟩ hl.1 rfl rfl (Nat.le_of_ble_eq_true rfl) (Nat.zero_le _) (Nat.zero_le _) dX4_of_2 ?_
  refine q_if_eqB (tgt := 20) hx hb dX4_of_5 (by decide) (fun h => absurd (⟨nI_pos' (by omega), nI_lt (by omega) (by omega)⟩) h) (fun _ => ?_)
  refine lv_iload_n hx hb dX4_of_8 rfl (lv_at hl 2 rfl) ?_
  refine lv_i2l hx hb dX4_of_9 rfl ?_
  refine lv_lconst (v := 0) hx hb dX4_of_10 (by decide) ?_
  refine lv_ldc2 (v := 9) hx hb hown (hU _ mK_X4_47) dX4_of_11 ?_
  refine RO.callS S ks_X4_49 (c_X4_isIn l D cI cJ a f σ (nI 7) (nI 0) (nI 9)) hK hP ⟨Nat.le_of_ble_eq_true rfl, Nat.le_of_ble_eq_true rfl⟩ hl.1 rfl rfl (Nat.le_of_ble_eq_true rfl) (Nat.zero_le _) (Nat.zero_le _) dX4_of_14 ?_
  refine q_if_neB (tgt := 27) hx hb dX4_of_17 (by decide) (fun _ => ?_) (fun h => absurd (⟨nI_le (by omega) (by omega), nI_le (by omega) (by omega)⟩) h)
  refine lv_iload_n hx hb dX4_of_27 rfl (lv_at hl 2 rfl) ?_
  refine lv_tableIn (tgt := 56) hx hb dX4_of_28 (by decide) (by decide) rfl (by decide) ?_
  refine lv_aload_n hx hb dX4_of_56 rfl (lv_at hl 0 rfl) ?_
  refine lv_iload_n hx hb dX4_of_57 rfl (lv_at hl 1 rfl) ?_
  refine RO.callV S kv_X4_89 (c_X4_loud l D cI cJ a f σ k n (hw) (by omega)) hK hP rfl ⟨Nat.le_of_ble_eq_true rfl, Nat.le_of_ble_eq_true rfl⟩ hl.1 rfl rfl (Nat.le_of_ble_eq_true rfl) (Nat.zero_le _) (Nat.zero_le _) dX4_of_58 ?_
  exact WR.iret S hr hlk hP hS (rfl) rfl dX4_of_61
set_option maxRecDepth 100000 in
set_option maxHeartbeats 4000000 in
theorem c_X4_of_ok8 (l : Launch) (D : va_G) (cI cJ : ClassId) (a : Nat → Nat) (f : Nat → Int32) (σ : Nat → Nat → Int32) (k : Nat) (n : Nat) (hw : Wk f n) (hk : k < n) : WR l yX4_of cX4_of 3 (some .int) 3 D cI cJ (MW cI a f σ) [.ref (a 0), .int (nI k), .int (nI 8)] (some (.int (sLk f k))) (MW cI a f σ) := by
  have h8 := hw.2.1
  refine WR.of (by decide) (Nat.le_of_ble_eq_true rfl) (fun p e s m below meth c ls A S hr hlk hK hP hD hS hA hl => ?_)
  obtain ⟨hx, hb, hml, hown, hU⟩ := id S
  have hl : lv_has ls 3 [(0, .ref (a 0)), (1, .int (nI k)), (2, .int (nI 8))] := hl
  refine lv_aload_n hx hb dX4_of_0 rfl (lv_at hl 0 rfl) ?_
  refine lv_iload_n hx hb dX4_of_1 rfl (lv_at hl 1 rfl) ?_
  refine RO.callV S kv_X4_86 (c_X4_isCask l D cI cJ a f σ (nI k) n (hw.1)) hK hP rfl ⟨Nat.le_of_ble_eq_true rfl, Nat.le_of_ble_eq_true rfl⟩ hl.1 rfl rfl (Nat.le_of_ble_eq_true rfl) (Nat.zero_le _) (Nat.zero_le _) dX4_of_2 ?_
  refine q_if_eqB (tgt := 20) hx hb dX4_of_5 (by decide) (fun h => absurd (⟨nI_pos' (by omega), nI_lt (by omega) (by omega)⟩) h) (fun _ => ?_)
  refine lv_iload_n hx hb dX4_of_8 rfl (lv_at hl 2 rfl) ?_
  refine lv_i2l hx hb dX4_of_9 rfl ?_
  refine lv_lconst (v := 0) hx hb dX4_of_10 (by decide) ?_
  refine lv_ldc2 (v := 9) hx hb hown (hU _ mK_X4_47) dX4_of_11 ?_
  refine RO.callS S ks_X4_49 (c_X4_isIn l D cI cJ a f σ (nI 8) (nI 0) (nI 9)) hK hP ⟨Nat.le_of_ble_eq_true rfl, Nat.le_of_ble_eq_true rfl⟩ hl.1 rfl rfl (Nat.le_of_ble_eq_true rfl) (Nat.zero_le _) (Nat.zero_le _) dX4_of_14 ?_
  refine q_if_neB (tgt := 27) hx hb dX4_of_17 (by decide) (fun _ => ?_) (fun h => absurd (⟨nI_le (by omega) (by omega), nI_le (by omega) (by omega)⟩) h)
  refine lv_iload_n hx hb dX4_of_27 rfl (lv_at hl 2 rfl) ?_
  refine lv_tableIn (tgt := 62) hx hb dX4_of_28 (by decide) (by decide) rfl (by decide) ?_
  refine lv_aload_n hx hb dX4_of_62 rfl (lv_at hl 0 rfl) ?_
  refine lv_iload_n hx hb dX4_of_63 rfl (lv_at hl 1 rfl) ?_
  refine RO.callV S kv_X4_92 (c_X4_leaks l D cI cJ a f σ k (by omega)) hK hP rfl ⟨Nat.le_of_ble_eq_true rfl, Nat.le_of_ble_eq_true rfl⟩ hl.1 rfl rfl (Nat.le_of_ble_eq_true rfl) (Nat.zero_le _) (Nat.zero_le _) dX4_of_64 ?_
  exact WR.iret S hr hlk hP hS (rfl) rfl dX4_of_67
set_option maxRecDepth 100000 in
set_option maxHeartbeats 4000000 in
theorem c_X4_of_ok9 (l : Launch) (D : va_G) (cI cJ : ClassId) (a : Nat → Nat) (f : Nat → Int32) (σ : Nat → Nat → Int32) (k : Nat) (n : Nat) (hw : Wk f n) (hk : k < n) : WR l yX4_of cX4_of 3 (some .int) 3 D cI cJ (MW cI a f σ) [.ref (a 0), .int (nI k), .int (nI 9)] (some (.int (sBr f k))) (MW cI a f σ) := by
  have h8 := hw.2.1
  refine WR.of (by decide) (Nat.le_of_ble_eq_true rfl) (fun p e s m below meth c ls A S hr hlk hK hP hD hS hA hl => ?_)
  obtain ⟨hx, hb, hml, hown, hU⟩ := id S
  have hl : lv_has ls 3 [(0, .ref (a 0)), (1, .int (nI k)), (2, .int (nI 9))] := hl
  refine lv_aload_n hx hb dX4_of_0 rfl (lv_at hl 0 rfl) ?_
  refine lv_iload_n hx hb dX4_of_1 rfl (lv_at hl 1 rfl) ?_
  refine RO.callV S kv_X4_86 (c_X4_isCask l D cI cJ a f σ (nI k) n (hw.1)) hK hP rfl ⟨Nat.le_of_ble_eq_true rfl, Nat.le_of_ble_eq_true rfl⟩ hl.1 rfl rfl (Nat.le_of_ble_eq_true rfl) (Nat.zero_le _) (Nat.zero_le _) dX4_of_2 ?_
  refine q_if_eqB (tgt := 20) hx hb dX4_of_5 (by decide) (fun h => absurd (⟨nI_pos' (by omega), nI_lt (by omega) (by omega)⟩) h) (fun _ => ?_)
  refine lv_iload_n hx hb dX4_of_8 rfl (lv_at hl 2 rfl) ?_
  refine lv_i2l hx hb dX4_of_9 rfl ?_
  refine lv_lconst (v := 0) hx hb dX4_of_10 (by decide) ?_
  refine lv_ldc2 (v := 9) hx hb hown (hU _ mK_X4_47) dX4_of_11 ?_
  refine RO.callS S ks_X4_49 (c_X4_isIn l D cI cJ a f σ (nI 9) (nI 0) (nI 9)) hK hP ⟨Nat.le_of_ble_eq_true rfl, Nat.le_of_ble_eq_true rfl⟩ hl.1 rfl rfl (Nat.le_of_ble_eq_true rfl) (Nat.zero_le _) (Nat.zero_le _) dX4_of_14 ?_
  refine q_if_neB (tgt := 27) hx hb dX4_of_17 (by decide) (fun _ => ?_) (fun h => absurd (⟨nI_le (by omega) (by omega), nI_le (by omega) (by omega)⟩) h)
  refine lv_iload_n hx hb dX4_of_27 rfl (lv_at hl 2 rfl) ?_
  refine lv_tableIn (tgt := 68) hx hb dX4_of_28 (by decide) (by decide) rfl (by decide) ?_
  refine lv_aload_n hx hb dX4_of_68 rfl (lv_at hl 0 rfl) ?_
  refine lv_iload_n hx hb dX4_of_69 rfl (lv_at hl 1 rfl) ?_
  refine RO.callV S kv_X4_95 (c_X4_bears l D cI cJ a f σ k n (hw) (by omega)) hK hP rfl ⟨Nat.le_of_ble_eq_true rfl, Nat.le_of_ble_eq_true rfl⟩ hl.1 rfl rfl (Nat.le_of_ble_eq_true rfl) (Nat.zero_le _) (Nat.zero_le _) dX4_of_70 ?_
  exact WR.iret S hr hlk hP hS (rfl) rfl dX4_of_73
set_option maxRecDepth 100000 in
set_option maxHeartbeats 4000000 in
theorem c_X4_of_bad (l : Launch) (D : va_G) (cI cJ : ClassId) (a : Nat → Nat) (f : Nat → Int32) (σ : Nat → Nat → Int32) (x : Int32) (y : Int32) (n : Nat) (hw : Wk f n) (hb0 : ¬ ((0 ≤ x ∧ x < nI n) ∧ (nI 0 ≤ y ∧ y ≤ nI 9))) : WR l yX4_of cX4_of 3 (some .int) 3 D cI cJ (MW cI a f σ) [.ref (a 0), .int x, .int y] (some (.int (-1000001))) (MW cI a f (va_up σ 4 (mFi (σ 4) 0))) := by
  refine WR.of (by decide) (Nat.le_of_ble_eq_true rfl) (fun p e s m below meth c ls A S hr hlk hK hP hD hS hA hl => ?_)
  obtain ⟨hx, hb, hml, hown, hU⟩ := id S
  have hl : lv_has ls 3 [(0, .ref (a 0)), (1, .int x), (2, .int y)] := hl
  refine lv_aload_n hx hb dX4_of_0 rfl (lv_at hl 0 rfl) ?_
  refine lv_iload_n hx hb dX4_of_1 rfl (lv_at hl 1 rfl) ?_
  refine RO.callV S kv_X4_86 (c_X4_isCask l D cI cJ a f σ x n (hw.1)) hK hP rfl ⟨Nat.le_of_ble_eq_true rfl, Nat.le_of_ble_eq_true rfl⟩ hl.1 rfl rfl (Nat.le_of_ble_eq_true rfl) (Nat.zero_le _) (Nat.zero_le _) dX4_of_2 ?_
  refine q_if_eqB (tgt := 20) hx hb dX4_of_5 (by decide) (fun c_5 => ?_) (fun c_5 => ?_)
  · refine lv_aload_n hx hb dX4_of_20 rfl (lv_at hl 0 rfl) ?_
    refine lv_ldc (v := (-1000001)) hx hb hown (hU _ mK_X4_37) dX4_of_21 ?_
    refine WR.callV (w1 := MW cI a f (va_up σ 4 (mFi (σ 4) 0))) S kv_X4_39 (c_X4_fd0 l D cI cJ a f σ) hK hP hD hS hA ([]) ([]) rfl rfl rfl rfl ⟨Nat.le_of_ble_eq_true rfl, Nat.le_of_ble_eq_true rfl⟩ hl.1 rfl rfl (Nat.le_of_ble_eq_true rfl) (Nat.zero_le _) (Nat.zero_le _) dX4_of_23 (fun H locs hP hD hS => ?_)
    exact WR.iret S hr hlk hP hS (rfl) rfl dX4_of_26
  · refine lv_iload_n hx hb dX4_of_8 rfl (lv_at hl 2 rfl) ?_
    refine lv_i2l hx hb dX4_of_9 rfl ?_
    refine lv_lconst (v := 0) hx hb dX4_of_10 (by decide) ?_
    refine lv_ldc2 (v := 9) hx hb hown (hU _ mK_X4_47) dX4_of_11 ?_
    refine RO.callS S ks_X4_49 (c_X4_isIn l D cI cJ a f σ y (nI 0) (nI 9)) hK hP ⟨Nat.le_of_ble_eq_true rfl, Nat.le_of_ble_eq_true rfl⟩ hl.1 rfl rfl (Nat.le_of_ble_eq_true rfl) (Nat.zero_le _) (Nat.zero_le _) dX4_of_14 ?_
    refine q_if_neB (tgt := 27) hx hb dX4_of_17 (by decide) (fun c_17 => ?_) (fun c_17 => ?_)
    · exact absurd (⟨c_5, c_17⟩) hb0
    · refine lv_aload_n hx hb dX4_of_20 rfl (lv_at hl 0 rfl) ?_
      refine lv_ldc (v := (-1000001)) hx hb hown (hU _ mK_X4_37) dX4_of_21 ?_
      refine WR.callV (w1 := MW cI a f (va_up σ 4 (mFi (σ 4) 0))) S kv_X4_39 (c_X4_fd0 l D cI cJ a f σ) hK hP hD hS hA ([]) ([]) rfl rfl rfl rfl ⟨Nat.le_of_ble_eq_true rfl, Nat.le_of_ble_eq_true rfl⟩ hl.1 rfl rfl (Nat.le_of_ble_eq_true rfl) (Nat.zero_le _) (Nat.zero_le _) dX4_of_23 (fun H locs hP hD hS => ?_)
      exact WR.iret S hr hlk hP hS (rfl) rfl dX4_of_26
set_option maxRecDepth 100000 in
set_option maxHeartbeats 4000000 in
theorem c_X4_greatestOf (l : Launch) (D : va_G) (cI cJ : ClassId) (a : Nat → Nat) (f : Nat → Int32) (σ : Nat → Nat → Int32) (x : Int32) : RO l yX4_greatestOf cX4_greatestOf 1 (some .int) 0 D cI cJ (MW cI a f σ) [.int x] (.int (gOf x)) := by
  refine RO.of (by decide) (Nat.le_of_ble_eq_true rfl) (fun p e s m below meth c ls S hr hlk hK hP hl => ?_)
  obtain ⟨hx, hb, hml, hown, hU⟩ := id S
  have hl : lv_has ls 1 [(0, .int x)] := hl
  refine lv_iload_n hx hb dX4_greatestOf_0 rfl (lv_at hl 0 rfl) ?_
  refine lv_if_ne (tgt := 9) hx hb dX4_greatestOf_1 (by decide) (fun c_1 => ?_) (fun c_1 => ?_)
  · refine lv_iload_n hx hb dX4_greatestOf_9 rfl (lv_at hl 0 rfl) ?_
    refine lv_iconst (v := nI 1) hx hb dX4_greatestOf_10 (by decide) ?_
    refine lv_icmp_ne (tgt := 18) hx hb dX4_greatestOf_11 (by decide) (fun c_11 => ?_) (fun c_11 => ?_)
    · refine lv_iload_n hx hb dX4_greatestOf_18 rfl (lv_at hl 0 rfl) ?_
      refine lv_iconst (v := nI 3) hx hb dX4_greatestOf_19 (by decide) ?_
      refine lv_icmp_ne (tgt := 28) hx hb dX4_greatestOf_20 (by decide) (fun c_20 => ?_) (fun c_20 => ?_)
      · refine lv_sipush (v := nI 999) hx hb dX4_greatestOf_28 (by decide) ?_
        exact RO.iret S hr hlk (congrArg Value.int (by rw [gOf, if_neg c_1, if_neg c_11, if_neg c_20])) dX4_greatestOf_31
      · refine lv_bipush (v := nI 11) hx hb dX4_greatestOf_23 (by decide) ?_
        refine lv_goto (tgt := 31) hx hb dX4_greatestOf_25 (by decide) ?_
        exact RO.iret S hr hlk (congrArg Value.int (by rw [gOf, if_neg c_1, if_neg c_11, if_pos c_20])) dX4_greatestOf_31
    · refine lv_iconst (v := nI 5) hx hb dX4_greatestOf_14 (by decide) ?_
      refine lv_goto (tgt := 31) hx hb dX4_greatestOf_15 (by decide) ?_
      exact RO.iret S hr hlk (congrArg Value.int (by rw [gOf, if_neg c_1, if_pos c_11])) dX4_greatestOf_31
  · refine lv_bipush (v := nI 6) hx hb dX4_greatestOf_4 (by decide) ?_
    refine lv_goto (tgt := 31) hx hb dX4_greatestOf_6 (by decide) ?_
    exact RO.iret S hr hlk (congrArg Value.int (by rw [gOf, if_pos c_1])) dX4_greatestOf_31
set_option maxRecDepth 100000 in
set_option maxHeartbeats 4000000 in
theorem c_X4_change_ok0 (l : Launch) (D : va_G) (cI cJ : ClassId) (a : Nat → Nat) (f : Nat → Int32) (σ : Nat → Nat → Int32) (k : Nat) (v : Nat) (n : Nat) (hw : Wk f n) (hk : k < n) (hv : v ≤ 6) : WR l yX4_change cX4_change 5 (some .int) 1 D cI cJ (MW cI a f σ) [.ref (a 0), .int (nI k), .int (nI 0), .int (nI v)] (some (.int (fi f k 0))) (MW cI a (fu f k 0 (nI v)) σ) := by
  have h8 := hw.2.1
  refine WR.of (by decide) (Nat.le_of_ble_eq_true rfl) (fun p e s m below meth c ls A S hr hlk hK hP hD hS hA hl => ?_)
  obtain ⟨hx, hb, hml, hown, hU⟩ := id S
  have hl : lv_has ls 5 [(0, .ref (a 0)), (1, .int (nI k)), (2, .int (nI 0)), (3, .int (nI v))] := hl
  refine lv_aload_n hx hb dX4_change_0 rfl (lv_at hl 0 rfl) ?_
  refine lv_iload_n hx hb dX4_change_1 rfl (lv_at hl 1 rfl) ?_
  refine RO.callV S kv_X4_86 (c_X4_isCask l D cI cJ a f σ (nI k) n (hw.1)) hK hP rfl ⟨Nat.le_of_ble_eq_true rfl, Nat.le_of_ble_eq_true rfl⟩ hl.1 rfl rfl (Nat.le_of_ble_eq_true rfl) (Nat.zero_le _) (Nat.zero_le _) dX4_change_2 ?_
  refine q_if_eqB (tgt := 38) hx hb dX4_change_5 (by decide) (fun h => absurd (⟨nI_pos' (by omega), nI_lt (by omega) (by omega)⟩) h) (fun _ => ?_)
  refine lv_iload_n hx hb dX4_change_8 rfl (lv_at hl 2 rfl) ?_
  refine lv_i2l hx hb dX4_change_9 rfl ?_
  refine lv_lconst (v := 0) hx hb dX4_change_10 (by decide) ?_
  refine lv_ldc2 (v := 6) hx hb hown (hU _ mK_X4_73) dX4_change_11 ?_
  refine RO.callS S ks_X4_49 (c_X4_isIn l D cI cJ a f σ (nI 0) (nI 0) (nI 6)) hK hP ⟨Nat.le_of_ble_eq_true rfl, Nat.le_of_ble_eq_true rfl⟩ hl.1 rfl rfl (Nat.le_of_ble_eq_true rfl) (Nat.zero_le _) (Nat.zero_le _) dX4_change_14 ?_
  refine q_if_eqB (tgt := 38) hx hb dX4_change_17 (by decide) (fun h => absurd (⟨nI_le (by omega) (by omega), nI_le (by omega) (by omega)⟩) h) (fun _ => ?_)
  refine lv_iload_n hx hb dX4_change_20 rfl (lv_at hl 3 rfl) ?_
  refine lv_i2l hx hb dX4_change_21 rfl ?_
  refine lv_lconst (v := 0) hx hb dX4_change_22 (by decide) ?_
  refine lv_iload_n hx hb dX4_change_23 rfl (lv_at hl 2 rfl) ?_
  refine RO.callS S ks_X4_98 (c_X4_greatestOf l D cI cJ a f σ (nI 0)) hK hP ⟨Nat.le_of_ble_eq_true rfl, Nat.le_of_ble_eq_true rfl⟩ hl.1 rfl rfl (Nat.le_of_ble_eq_true rfl) (Nat.zero_le _) (Nat.zero_le _) dX4_change_24 ?_
  refine q_eqi (y := nI 6) (by decide) ?_
  refine lv_i2l hx hb dX4_change_27 rfl ?_
  refine RO.callS S ks_X4_49 (c_X4_isIn l D cI cJ a f σ (nI v) (nI 0) (nI 6)) hK hP ⟨Nat.le_of_ble_eq_true rfl, Nat.le_of_ble_eq_true rfl⟩ hl.1 rfl rfl (Nat.le_of_ble_eq_true rfl) (Nat.zero_le _) (Nat.zero_le _) dX4_change_28 ?_
  refine q_if_eqB (tgt := 38) hx hb dX4_change_31 (by decide) (fun h => absurd (⟨nI_le (by omega) (by omega), nI_le (by omega) (by omega)⟩) h) (fun _ => ?_)
  refine lv_iconst (v := nI 1) hx hb dX4_change_34 (by decide) ?_
  refine lv_goto (tgt := 39) hx hb dX4_change_35 (by decide) ?_
  refine lv_istore (lv' := [(4, .int (nI 1)), (0, .ref (a 0)), (1, .int (nI k)), (2, .int (nI 0)), (3, .int (nI v))]) hx hb dX4_change_39 hl (by decide) rfl (fun ls hl => ?_)
  refine lv_iload hx hb dX4_change_41 (lv_at hl 0 rfl) ?_
  refine q_if_eqN (tgt := 59) (a := 1) hx hb dX4_change_43 (by decide) (by omega) (fun h => absurd h (by omega)) (fun _ => ?_)
  refine lv_aload_n hx hb dX4_change_46 rfl (lv_at hl 1 rfl) ?_
  refine lv_iload_n hx hb dX4_change_47 rfl (lv_at hl 2 rfl) ?_
  refine lv_iload_n hx hb dX4_change_48 rfl (lv_at hl 3 rfl) ?_
  refine RO.callS S ks_X4_70 (c_X4_at l D cI cJ a f σ k 0) hK hP ⟨Nat.le_of_ble_eq_true rfl, Nat.le_of_ble_eq_true rfl⟩ hl.1 rfl rfl (Nat.le_of_ble_eq_true rfl) (Nat.zero_le _) (Nat.zero_le _) dX4_change_49 ?_
  refine lv_iload_n hx hb dX4_change_52 rfl (lv_at hl 4 rfl) ?_
  refine WR.callV (w1 := MW cI a (upd f (16 + 7 * k + 0) (nI v)) σ) S kv_X4_53 (c_X4_becomes l D cI cJ a f σ (16 + 7 * k + 0) (nI v) (by omega)) hK hP hD hS hA ([]) ([]) rfl rfl rfl rfl ⟨Nat.le_of_ble_eq_true rfl, Nat.le_of_ble_eq_true rfl⟩ hl.1 rfl rfl (Nat.le_of_ble_eq_true rfl) (Nat.zero_le _) (Nat.zero_le _) dX4_change_53 (fun H locs hP hD hS => ?_)
  refine lv_goto (tgt := 65) hx hb dX4_change_56 (by decide) ?_
  exact WR.iret S hr hlk hP hS (rfl) rfl dX4_change_65
set_option maxRecDepth 100000 in
set_option maxHeartbeats 4000000 in
theorem c_X4_change_ok1 (l : Launch) (D : va_G) (cI cJ : ClassId) (a : Nat → Nat) (f : Nat → Int32) (σ : Nat → Nat → Int32) (k : Nat) (v : Nat) (n : Nat) (hw : Wk f n) (hk : k < n) (hv : v ≤ 5) : WR l yX4_change cX4_change 5 (some .int) 1 D cI cJ (MW cI a f σ) [.ref (a 0), .int (nI k), .int (nI 1), .int (nI v)] (some (.int (fi f k 1))) (MW cI a (fu f k 1 (nI v)) σ) := by
  have h8 := hw.2.1
  refine WR.of (by decide) (Nat.le_of_ble_eq_true rfl) (fun p e s m below meth c ls A S hr hlk hK hP hD hS hA hl => ?_)
  obtain ⟨hx, hb, hml, hown, hU⟩ := id S
  have hl : lv_has ls 5 [(0, .ref (a 0)), (1, .int (nI k)), (2, .int (nI 1)), (3, .int (nI v))] := hl
  refine lv_aload_n hx hb dX4_change_0 rfl (lv_at hl 0 rfl) ?_
  refine lv_iload_n hx hb dX4_change_1 rfl (lv_at hl 1 rfl) ?_
  refine RO.callV S kv_X4_86 (c_X4_isCask l D cI cJ a f σ (nI k) n (hw.1)) hK hP rfl ⟨Nat.le_of_ble_eq_true rfl, Nat.le_of_ble_eq_true rfl⟩ hl.1 rfl rfl (Nat.le_of_ble_eq_true rfl) (Nat.zero_le _) (Nat.zero_le _) dX4_change_2 ?_
  refine q_if_eqB (tgt := 38) hx hb dX4_change_5 (by decide) (fun h => absurd (⟨nI_pos' (by omega), nI_lt (by omega) (by omega)⟩) h) (fun _ => ?_)
  refine lv_iload_n hx hb dX4_change_8 rfl (lv_at hl 2 rfl) ?_
  refine lv_i2l hx hb dX4_change_9 rfl ?_
  refine lv_lconst (v := 0) hx hb dX4_change_10 (by decide) ?_
  refine lv_ldc2 (v := 6) hx hb hown (hU _ mK_X4_73) dX4_change_11 ?_
  refine RO.callS S ks_X4_49 (c_X4_isIn l D cI cJ a f σ (nI 1) (nI 0) (nI 6)) hK hP ⟨Nat.le_of_ble_eq_true rfl, Nat.le_of_ble_eq_true rfl⟩ hl.1 rfl rfl (Nat.le_of_ble_eq_true rfl) (Nat.zero_le _) (Nat.zero_le _) dX4_change_14 ?_
  refine q_if_eqB (tgt := 38) hx hb dX4_change_17 (by decide) (fun h => absurd (⟨nI_le (by omega) (by omega), nI_le (by omega) (by omega)⟩) h) (fun _ => ?_)
  refine lv_iload_n hx hb dX4_change_20 rfl (lv_at hl 3 rfl) ?_
  refine lv_i2l hx hb dX4_change_21 rfl ?_
  refine lv_lconst (v := 0) hx hb dX4_change_22 (by decide) ?_
  refine lv_iload_n hx hb dX4_change_23 rfl (lv_at hl 2 rfl) ?_
  refine RO.callS S ks_X4_98 (c_X4_greatestOf l D cI cJ a f σ (nI 1)) hK hP ⟨Nat.le_of_ble_eq_true rfl, Nat.le_of_ble_eq_true rfl⟩ hl.1 rfl rfl (Nat.le_of_ble_eq_true rfl) (Nat.zero_le _) (Nat.zero_le _) dX4_change_24 ?_
  refine q_eqi (y := nI 5) (by decide) ?_
  refine lv_i2l hx hb dX4_change_27 rfl ?_
  refine RO.callS S ks_X4_49 (c_X4_isIn l D cI cJ a f σ (nI v) (nI 0) (nI 5)) hK hP ⟨Nat.le_of_ble_eq_true rfl, Nat.le_of_ble_eq_true rfl⟩ hl.1 rfl rfl (Nat.le_of_ble_eq_true rfl) (Nat.zero_le _) (Nat.zero_le _) dX4_change_28 ?_
  refine q_if_eqB (tgt := 38) hx hb dX4_change_31 (by decide) (fun h => absurd (⟨nI_le (by omega) (by omega), nI_le (by omega) (by omega)⟩) h) (fun _ => ?_)
  refine lv_iconst (v := nI 1) hx hb dX4_change_34 (by decide) ?_
  refine lv_goto (tgt := 39) hx hb dX4_change_35 (by decide) ?_
  refine lv_istore (lv' := [(4, .int (nI 1)), (0, .ref (a 0)), (1, .int (nI k)), (2, .int (nI 1)), (3, .int (nI v))]) hx hb dX4_change_39 hl (by decide) rfl (fun ls hl => ?_)
  refine lv_iload hx hb dX4_change_41 (lv_at hl 0 rfl) ?_
  refine q_if_eqN (tgt := 59) (a := 1) hx hb dX4_change_43 (by decide) (by omega) (fun h => absurd h (by omega)) (fun _ => ?_)
  refine lv_aload_n hx hb dX4_change_46 rfl (lv_at hl 1 rfl) ?_
  refine lv_iload_n hx hb dX4_change_47 rfl (lv_at hl 2 rfl) ?_
  refine lv_iload_n hx hb dX4_change_48 rfl (lv_at hl 3 rfl) ?_
  refine RO.callS S ks_X4_70 (c_X4_at l D cI cJ a f σ k 1) hK hP ⟨Nat.le_of_ble_eq_true rfl, Nat.le_of_ble_eq_true rfl⟩ hl.1 rfl rfl (Nat.le_of_ble_eq_true rfl) (Nat.zero_le _) (Nat.zero_le _) dX4_change_49 ?_
  refine lv_iload_n hx hb dX4_change_52 rfl (lv_at hl 4 rfl) ?_
  refine WR.callV (w1 := MW cI a (upd f (16 + 7 * k + 1) (nI v)) σ) S kv_X4_53 (c_X4_becomes l D cI cJ a f σ (16 + 7 * k + 1) (nI v) (by omega)) hK hP hD hS hA ([]) ([]) rfl rfl rfl rfl ⟨Nat.le_of_ble_eq_true rfl, Nat.le_of_ble_eq_true rfl⟩ hl.1 rfl rfl (Nat.le_of_ble_eq_true rfl) (Nat.zero_le _) (Nat.zero_le _) dX4_change_53 (fun H locs hP hD hS => ?_)
  refine lv_goto (tgt := 65) hx hb dX4_change_56 (by decide) ?_
  exact WR.iret S hr hlk hP hS (rfl) rfl dX4_change_65
set_option maxRecDepth 100000 in
set_option maxHeartbeats 4000000 in
theorem c_X4_change_ok2 (l : Launch) (D : va_G) (cI cJ : ClassId) (a : Nat → Nat) (f : Nat → Int32) (σ : Nat → Nat → Int32) (k : Nat) (v : Nat) (n : Nat) (hw : Wk f n) (hk : k < n) (hv : v ≤ 999) : WR l yX4_change cX4_change 5 (some .int) 1 D cI cJ (MW cI a f σ) [.ref (a 0), .int (nI k), .int (nI 2), .int (nI v)] (some (.int (fi f k 2))) (MW cI a (fu f k 2 (nI v)) σ) := by
  have h8 := hw.2.1
  refine WR.of (by decide) (Nat.le_of_ble_eq_true rfl) (fun p e s m below meth c ls A S hr hlk hK hP hD hS hA hl => ?_)
  obtain ⟨hx, hb, hml, hown, hU⟩ := id S
  have hl : lv_has ls 5 [(0, .ref (a 0)), (1, .int (nI k)), (2, .int (nI 2)), (3, .int (nI v))] := hl
  refine lv_aload_n hx hb dX4_change_0 rfl (lv_at hl 0 rfl) ?_
  refine lv_iload_n hx hb dX4_change_1 rfl (lv_at hl 1 rfl) ?_
  refine RO.callV S kv_X4_86 (c_X4_isCask l D cI cJ a f σ (nI k) n (hw.1)) hK hP rfl ⟨Nat.le_of_ble_eq_true rfl, Nat.le_of_ble_eq_true rfl⟩ hl.1 rfl rfl (Nat.le_of_ble_eq_true rfl) (Nat.zero_le _) (Nat.zero_le _) dX4_change_2 ?_
  refine q_if_eqB (tgt := 38) hx hb dX4_change_5 (by decide) (fun h => absurd (⟨nI_pos' (by omega), nI_lt (by omega) (by omega)⟩) h) (fun _ => ?_)
  refine lv_iload_n hx hb dX4_change_8 rfl (lv_at hl 2 rfl) ?_
  refine lv_i2l hx hb dX4_change_9 rfl ?_
  refine lv_lconst (v := 0) hx hb dX4_change_10 (by decide) ?_
  refine lv_ldc2 (v := 6) hx hb hown (hU _ mK_X4_73) dX4_change_11 ?_
  refine RO.callS S ks_X4_49 (c_X4_isIn l D cI cJ a f σ (nI 2) (nI 0) (nI 6)) hK hP ⟨Nat.le_of_ble_eq_true rfl, Nat.le_of_ble_eq_true rfl⟩ hl.1 rfl rfl (Nat.le_of_ble_eq_true rfl) (Nat.zero_le _) (Nat.zero_le _) dX4_change_14 ?_
  refine q_if_eqB (tgt := 38) hx hb dX4_change_17 (by decide) (fun h => absurd (⟨nI_le (by omega) (by omega), nI_le (by omega) (by omega)⟩) h) (fun _ => ?_)
  refine lv_iload_n hx hb dX4_change_20 rfl (lv_at hl 3 rfl) ?_
  refine lv_i2l hx hb dX4_change_21 rfl ?_
  refine lv_lconst (v := 0) hx hb dX4_change_22 (by decide) ?_
  refine lv_iload_n hx hb dX4_change_23 rfl (lv_at hl 2 rfl) ?_
  refine RO.callS S ks_X4_98 (c_X4_greatestOf l D cI cJ a f σ (nI 2)) hK hP ⟨Nat.le_of_ble_eq_true rfl, Nat.le_of_ble_eq_true rfl⟩ hl.1 rfl rfl (Nat.le_of_ble_eq_true rfl) (Nat.zero_le _) (Nat.zero_le _) dX4_change_24 ?_
  refine q_eqi (y := nI 999) (by decide) ?_
  refine lv_i2l hx hb dX4_change_27 rfl ?_
  refine RO.callS S ks_X4_49 (c_X4_isIn l D cI cJ a f σ (nI v) (nI 0) (nI 999)) hK hP ⟨Nat.le_of_ble_eq_true rfl, Nat.le_of_ble_eq_true rfl⟩ hl.1 rfl rfl (Nat.le_of_ble_eq_true rfl) (Nat.zero_le _) (Nat.zero_le _) dX4_change_28 ?_
  refine q_if_eqB (tgt := 38) hx hb dX4_change_31 (by decide) (fun h => absurd (⟨nI_le (by omega) (by omega), nI_le (by omega) (by omega)⟩) h) (fun _ => ?_)
  refine lv_iconst (v := nI 1) hx hb dX4_change_34 (by decide) ?_
  refine lv_goto (tgt := 39) hx hb dX4_change_35 (by decide) ?_
  refine lv_istore (lv' := [(4, .int (nI 1)), (0, .ref (a 0)), (1, .int (nI k)), (2, .int (nI 2)), (3, .int (nI v))]) hx hb dX4_change_39 hl (by decide) rfl (fun ls hl => ?_)
  refine lv_iload hx hb dX4_change_41 (lv_at hl 0 rfl) ?_
  refine q_if_eqN (tgt := 59) (a := 1) hx hb dX4_change_43 (by decide) (by omega) (fun h => absurd h (by omega)) (fun _ => ?_)
  refine lv_aload_n hx hb dX4_change_46 rfl (lv_at hl 1 rfl) ?_
  refine lv_iload_n hx hb dX4_change_47 rfl (lv_at hl 2 rfl) ?_
  refine lv_iload_n hx hb dX4_change_48 rfl (lv_at hl 3 rfl) ?_
  refine RO.callS S ks_X4_70 (c_X4_at l D cI cJ a f σ k 2) hK hP ⟨Nat.le_of_ble_eq_true rfl, Nat.le_of_ble_eq_true rfl⟩ hl.1 rfl rfl (Nat.le_of_ble_eq_true rfl) (Nat.zero_le _) (Nat.zero_le _) dX4_change_49 ?_
  refine lv_iload_n hx hb dX4_change_52 rfl (lv_at hl 4 rfl) ?_
  refine WR.callV (w1 := MW cI a (upd f (16 + 7 * k + 2) (nI v)) σ) S kv_X4_53 (c_X4_becomes l D cI cJ a f σ (16 + 7 * k + 2) (nI v) (by omega)) hK hP hD hS hA ([]) ([]) rfl rfl rfl rfl ⟨Nat.le_of_ble_eq_true rfl, Nat.le_of_ble_eq_true rfl⟩ hl.1 rfl rfl (Nat.le_of_ble_eq_true rfl) (Nat.zero_le _) (Nat.zero_le _) dX4_change_53 (fun H locs hP hD hS => ?_)
  refine lv_goto (tgt := 65) hx hb dX4_change_56 (by decide) ?_
  exact WR.iret S hr hlk hP hS (rfl) rfl dX4_change_65
set_option maxRecDepth 100000 in
set_option maxHeartbeats 4000000 in
theorem c_X4_change_ok3 (l : Launch) (D : va_G) (cI cJ : ClassId) (a : Nat → Nat) (f : Nat → Int32) (σ : Nat → Nat → Int32) (k : Nat) (v : Nat) (n : Nat) (hw : Wk f n) (hk : k < n) (hv : v ≤ 11) : WR l yX4_change cX4_change 5 (some .int) 1 D cI cJ (MW cI a f σ) [.ref (a 0), .int (nI k), .int (nI 3), .int (nI v)] (some (.int (fi f k 3))) (MW cI a (fu f k 3 (nI v)) σ) := by
  have h8 := hw.2.1
  refine WR.of (by decide) (Nat.le_of_ble_eq_true rfl) (fun p e s m below meth c ls A S hr hlk hK hP hD hS hA hl => ?_)
  obtain ⟨hx, hb, hml, hown, hU⟩ := id S
  have hl : lv_has ls 5 [(0, .ref (a 0)), (1, .int (nI k)), (2, .int (nI 3)), (3, .int (nI v))] := hl
  refine lv_aload_n hx hb dX4_change_0 rfl (lv_at hl 0 rfl) ?_
  refine lv_iload_n hx hb dX4_change_1 rfl (lv_at hl 1 rfl) ?_
  refine RO.callV S kv_X4_86 (c_X4_isCask l D cI cJ a f σ (nI k) n (hw.1)) hK hP rfl ⟨Nat.le_of_ble_eq_true rfl, Nat.le_of_ble_eq_true rfl⟩ hl.1 rfl rfl (Nat.le_of_ble_eq_true rfl) (Nat.zero_le _) (Nat.zero_le _) dX4_change_2 ?_
  refine q_if_eqB (tgt := 38) hx hb dX4_change_5 (by decide) (fun h => absurd (⟨nI_pos' (by omega), nI_lt (by omega) (by omega)⟩) h) (fun _ => ?_)
  refine lv_iload_n hx hb dX4_change_8 rfl (lv_at hl 2 rfl) ?_
  refine lv_i2l hx hb dX4_change_9 rfl ?_
  refine lv_lconst (v := 0) hx hb dX4_change_10 (by decide) ?_
  refine lv_ldc2 (v := 6) hx hb hown (hU _ mK_X4_73) dX4_change_11 ?_
  refine RO.callS S ks_X4_49 (c_X4_isIn l D cI cJ a f σ (nI 3) (nI 0) (nI 6)) hK hP ⟨Nat.le_of_ble_eq_true rfl, Nat.le_of_ble_eq_true rfl⟩ hl.1 rfl rfl (Nat.le_of_ble_eq_true rfl) (Nat.zero_le _) (Nat.zero_le _) dX4_change_14 ?_
  refine q_if_eqB (tgt := 38) hx hb dX4_change_17 (by decide) (fun h => absurd (⟨nI_le (by omega) (by omega), nI_le (by omega) (by omega)⟩) h) (fun _ => ?_)
  refine lv_iload_n hx hb dX4_change_20 rfl (lv_at hl 3 rfl) ?_
  refine lv_i2l hx hb dX4_change_21 rfl ?_
  refine lv_lconst (v := 0) hx hb dX4_change_22 (by decide) ?_
  refine lv_iload_n hx hb dX4_change_23 rfl (lv_at hl 2 rfl) ?_
  refine RO.callS S ks_X4_98 (c_X4_greatestOf l D cI cJ a f σ (nI 3)) hK hP ⟨Nat.le_of_ble_eq_true rfl, Nat.le_of_ble_eq_true rfl⟩ hl.1 rfl rfl (Nat.le_of_ble_eq_true rfl) (Nat.zero_le _) (Nat.zero_le _) dX4_change_24 ?_
  refine q_eqi (y := nI 11) (by decide) ?_
  refine lv_i2l hx hb dX4_change_27 rfl ?_
  refine RO.callS S ks_X4_49 (c_X4_isIn l D cI cJ a f σ (nI v) (nI 0) (nI 11)) hK hP ⟨Nat.le_of_ble_eq_true rfl, Nat.le_of_ble_eq_true rfl⟩ hl.1 rfl rfl (Nat.le_of_ble_eq_true rfl) (Nat.zero_le _) (Nat.zero_le _) dX4_change_28 ?_
  refine q_if_eqB (tgt := 38) hx hb dX4_change_31 (by decide) (fun h => absurd (⟨nI_le (by omega) (by omega), nI_le (by omega) (by omega)⟩) h) (fun _ => ?_)
  refine lv_iconst (v := nI 1) hx hb dX4_change_34 (by decide) ?_
  refine lv_goto (tgt := 39) hx hb dX4_change_35 (by decide) ?_
  refine lv_istore (lv' := [(4, .int (nI 1)), (0, .ref (a 0)), (1, .int (nI k)), (2, .int (nI 3)), (3, .int (nI v))]) hx hb dX4_change_39 hl (by decide) rfl (fun ls hl => ?_)
  refine lv_iload hx hb dX4_change_41 (lv_at hl 0 rfl) ?_
  refine q_if_eqN (tgt := 59) (a := 1) hx hb dX4_change_43 (by decide) (by omega) (fun h => absurd h (by omega)) (fun _ => ?_)
  refine lv_aload_n hx hb dX4_change_46 rfl (lv_at hl 1 rfl) ?_
  refine lv_iload_n hx hb dX4_change_47 rfl (lv_at hl 2 rfl) ?_
  refine lv_iload_n hx hb dX4_change_48 rfl (lv_at hl 3 rfl) ?_
  refine RO.callS S ks_X4_70 (c_X4_at l D cI cJ a f σ k 3) hK hP ⟨Nat.le_of_ble_eq_true rfl, Nat.le_of_ble_eq_true rfl⟩ hl.1 rfl rfl (Nat.le_of_ble_eq_true rfl) (Nat.zero_le _) (Nat.zero_le _) dX4_change_49 ?_
  refine lv_iload_n hx hb dX4_change_52 rfl (lv_at hl 4 rfl) ?_
  refine WR.callV (w1 := MW cI a (upd f (16 + 7 * k + 3) (nI v)) σ) S kv_X4_53 (c_X4_becomes l D cI cJ a f σ (16 + 7 * k + 3) (nI v) (by omega)) hK hP hD hS hA ([]) ([]) rfl rfl rfl rfl ⟨Nat.le_of_ble_eq_true rfl, Nat.le_of_ble_eq_true rfl⟩ hl.1 rfl rfl (Nat.le_of_ble_eq_true rfl) (Nat.zero_le _) (Nat.zero_le _) dX4_change_53 (fun H locs hP hD hS => ?_)
  refine lv_goto (tgt := 65) hx hb dX4_change_56 (by decide) ?_
  exact WR.iret S hr hlk hP hS (rfl) rfl dX4_change_65
set_option maxRecDepth 100000 in
set_option maxHeartbeats 4000000 in
theorem c_X4_change_ok4 (l : Launch) (D : va_G) (cI cJ : ClassId) (a : Nat → Nat) (f : Nat → Int32) (σ : Nat → Nat → Int32) (k : Nat) (v : Nat) (n : Nat) (hw : Wk f n) (hk : k < n) (hv : v ≤ 999) : WR l yX4_change cX4_change 5 (some .int) 1 D cI cJ (MW cI a f σ) [.ref (a 0), .int (nI k), .int (nI 4), .int (nI v)] (some (.int (fi f k 4))) (MW cI a (fu f k 4 (nI v)) σ) := by
  have h8 := hw.2.1
  refine WR.of (by decide) (Nat.le_of_ble_eq_true rfl) (fun p e s m below meth c ls A S hr hlk hK hP hD hS hA hl => ?_)
  obtain ⟨hx, hb, hml, hown, hU⟩ := id S
  have hl : lv_has ls 5 [(0, .ref (a 0)), (1, .int (nI k)), (2, .int (nI 4)), (3, .int (nI v))] := hl
  refine lv_aload_n hx hb dX4_change_0 rfl (lv_at hl 0 rfl) ?_
  refine lv_iload_n hx hb dX4_change_1 rfl (lv_at hl 1 rfl) ?_
  refine RO.callV S kv_X4_86 (c_X4_isCask l D cI cJ a f σ (nI k) n (hw.1)) hK hP rfl ⟨Nat.le_of_ble_eq_true rfl, Nat.le_of_ble_eq_true rfl⟩ hl.1 rfl rfl (Nat.le_of_ble_eq_true rfl) (Nat.zero_le _) (Nat.zero_le _) dX4_change_2 ?_
  refine q_if_eqB (tgt := 38) hx hb dX4_change_5 (by decide) (fun h => absurd (⟨nI_pos' (by omega), nI_lt (by omega) (by omega)⟩) h) (fun _ => ?_)
  refine lv_iload_n hx hb dX4_change_8 rfl (lv_at hl 2 rfl) ?_
  refine lv_i2l hx hb dX4_change_9 rfl ?_
  refine lv_lconst (v := 0) hx hb dX4_change_10 (by decide) ?_
  refine lv_ldc2 (v := 6) hx hb hown (hU _ mK_X4_73) dX4_change_11 ?_
  refine RO.callS S ks_X4_49 (c_X4_isIn l D cI cJ a f σ (nI 4) (nI 0) (nI 6)) hK hP ⟨Nat.le_of_ble_eq_true rfl, Nat.le_of_ble_eq_true rfl⟩ hl.1 rfl rfl (Nat.le_of_ble_eq_true rfl) (Nat.zero_le _) (Nat.zero_le _) dX4_change_14 ?_
  refine q_if_eqB (tgt := 38) hx hb dX4_change_17 (by decide) (fun h => absurd (⟨nI_le (by omega) (by omega), nI_le (by omega) (by omega)⟩) h) (fun _ => ?_)
  refine lv_iload_n hx hb dX4_change_20 rfl (lv_at hl 3 rfl) ?_
  refine lv_i2l hx hb dX4_change_21 rfl ?_
  refine lv_lconst (v := 0) hx hb dX4_change_22 (by decide) ?_
  refine lv_iload_n hx hb dX4_change_23 rfl (lv_at hl 2 rfl) ?_
  refine RO.callS S ks_X4_98 (c_X4_greatestOf l D cI cJ a f σ (nI 4)) hK hP ⟨Nat.le_of_ble_eq_true rfl, Nat.le_of_ble_eq_true rfl⟩ hl.1 rfl rfl (Nat.le_of_ble_eq_true rfl) (Nat.zero_le _) (Nat.zero_le _) dX4_change_24 ?_
  refine q_eqi (y := nI 999) (by decide) ?_
  refine lv_i2l hx hb dX4_change_27 rfl ?_
  refine RO.callS S ks_X4_49 (c_X4_isIn l D cI cJ a f σ (nI v) (nI 0) (nI 999)) hK hP ⟨Nat.le_of_ble_eq_true rfl, Nat.le_of_ble_eq_true rfl⟩ hl.1 rfl rfl (Nat.le_of_ble_eq_true rfl) (Nat.zero_le _) (Nat.zero_le _) dX4_change_28 ?_
  refine q_if_eqB (tgt := 38) hx hb dX4_change_31 (by decide) (fun h => absurd (⟨nI_le (by omega) (by omega), nI_le (by omega) (by omega)⟩) h) (fun _ => ?_)
  refine lv_iconst (v := nI 1) hx hb dX4_change_34 (by decide) ?_
  refine lv_goto (tgt := 39) hx hb dX4_change_35 (by decide) ?_
  refine lv_istore (lv' := [(4, .int (nI 1)), (0, .ref (a 0)), (1, .int (nI k)), (2, .int (nI 4)), (3, .int (nI v))]) hx hb dX4_change_39 hl (by decide) rfl (fun ls hl => ?_)
  refine lv_iload hx hb dX4_change_41 (lv_at hl 0 rfl) ?_
  refine q_if_eqN (tgt := 59) (a := 1) hx hb dX4_change_43 (by decide) (by omega) (fun h => absurd h (by omega)) (fun _ => ?_)
  refine lv_aload_n hx hb dX4_change_46 rfl (lv_at hl 1 rfl) ?_
  refine lv_iload_n hx hb dX4_change_47 rfl (lv_at hl 2 rfl) ?_
  refine lv_iload_n hx hb dX4_change_48 rfl (lv_at hl 3 rfl) ?_
  refine RO.callS S ks_X4_70 (c_X4_at l D cI cJ a f σ k 4) hK hP ⟨Nat.le_of_ble_eq_true rfl, Nat.le_of_ble_eq_true rfl⟩ hl.1 rfl rfl (Nat.le_of_ble_eq_true rfl) (Nat.zero_le _) (Nat.zero_le _) dX4_change_49 ?_
  refine lv_iload_n hx hb dX4_change_52 rfl (lv_at hl 4 rfl) ?_
  refine WR.callV (w1 := MW cI a (upd f (16 + 7 * k + 4) (nI v)) σ) S kv_X4_53 (c_X4_becomes l D cI cJ a f σ (16 + 7 * k + 4) (nI v) (by omega)) hK hP hD hS hA ([]) ([]) rfl rfl rfl rfl ⟨Nat.le_of_ble_eq_true rfl, Nat.le_of_ble_eq_true rfl⟩ hl.1 rfl rfl (Nat.le_of_ble_eq_true rfl) (Nat.zero_le _) (Nat.zero_le _) dX4_change_53 (fun H locs hP hD hS => ?_)
  refine lv_goto (tgt := 65) hx hb dX4_change_56 (by decide) ?_
  exact WR.iret S hr hlk hP hS (rfl) rfl dX4_change_65
set_option maxRecDepth 100000 in
set_option maxHeartbeats 4000000 in
theorem c_X4_change_ok5 (l : Launch) (D : va_G) (cI cJ : ClassId) (a : Nat → Nat) (f : Nat → Int32) (σ : Nat → Nat → Int32) (k : Nat) (v : Nat) (n : Nat) (hw : Wk f n) (hk : k < n) (hv : v ≤ 999) : WR l yX4_change cX4_change 5 (some .int) 1 D cI cJ (MW cI a f σ) [.ref (a 0), .int (nI k), .int (nI 5), .int (nI v)] (some (.int (fi f k 5))) (MW cI a (fu f k 5 (nI v)) σ) := by
  have h8 := hw.2.1
  refine WR.of (by decide) (Nat.le_of_ble_eq_true rfl) (fun p e s m below meth c ls A S hr hlk hK hP hD hS hA hl => ?_)
  obtain ⟨hx, hb, hml, hown, hU⟩ := id S
  have hl : lv_has ls 5 [(0, .ref (a 0)), (1, .int (nI k)), (2, .int (nI 5)), (3, .int (nI v))] := hl
  refine lv_aload_n hx hb dX4_change_0 rfl (lv_at hl 0 rfl) ?_
  refine lv_iload_n hx hb dX4_change_1 rfl (lv_at hl 1 rfl) ?_
  refine RO.callV S kv_X4_86 (c_X4_isCask l D cI cJ a f σ (nI k) n (hw.1)) hK hP rfl ⟨Nat.le_of_ble_eq_true rfl, Nat.le_of_ble_eq_true rfl⟩ hl.1 rfl rfl (Nat.le_of_ble_eq_true rfl) (Nat.zero_le _) (Nat.zero_le _) dX4_change_2 ?_
  refine q_if_eqB (tgt := 38) hx hb dX4_change_5 (by decide) (fun h => absurd (⟨nI_pos' (by omega), nI_lt (by omega) (by omega)⟩) h) (fun _ => ?_)
  refine lv_iload_n hx hb dX4_change_8 rfl (lv_at hl 2 rfl) ?_
  refine lv_i2l hx hb dX4_change_9 rfl ?_
  refine lv_lconst (v := 0) hx hb dX4_change_10 (by decide) ?_
  refine lv_ldc2 (v := 6) hx hb hown (hU _ mK_X4_73) dX4_change_11 ?_
  refine RO.callS S ks_X4_49 (c_X4_isIn l D cI cJ a f σ (nI 5) (nI 0) (nI 6)) hK hP ⟨Nat.le_of_ble_eq_true rfl, Nat.le_of_ble_eq_true rfl⟩ hl.1 rfl rfl (Nat.le_of_ble_eq_true rfl) (Nat.zero_le _) (Nat.zero_le _) dX4_change_14 ?_
  refine q_if_eqB (tgt := 38) hx hb dX4_change_17 (by decide) (fun h => absurd (⟨nI_le (by omega) (by omega), nI_le (by omega) (by omega)⟩) h) (fun _ => ?_)
  refine lv_iload_n hx hb dX4_change_20 rfl (lv_at hl 3 rfl) ?_
  refine lv_i2l hx hb dX4_change_21 rfl ?_
  refine lv_lconst (v := 0) hx hb dX4_change_22 (by decide) ?_
  refine lv_iload_n hx hb dX4_change_23 rfl (lv_at hl 2 rfl) ?_
  refine RO.callS S ks_X4_98 (c_X4_greatestOf l D cI cJ a f σ (nI 5)) hK hP ⟨Nat.le_of_ble_eq_true rfl, Nat.le_of_ble_eq_true rfl⟩ hl.1 rfl rfl (Nat.le_of_ble_eq_true rfl) (Nat.zero_le _) (Nat.zero_le _) dX4_change_24 ?_
  refine q_eqi (y := nI 999) (by decide) ?_
  refine lv_i2l hx hb dX4_change_27 rfl ?_
  refine RO.callS S ks_X4_49 (c_X4_isIn l D cI cJ a f σ (nI v) (nI 0) (nI 999)) hK hP ⟨Nat.le_of_ble_eq_true rfl, Nat.le_of_ble_eq_true rfl⟩ hl.1 rfl rfl (Nat.le_of_ble_eq_true rfl) (Nat.zero_le _) (Nat.zero_le _) dX4_change_28 ?_
  refine q_if_eqB (tgt := 38) hx hb dX4_change_31 (by decide) (fun h => absurd (⟨nI_le (by omega) (by omega), nI_le (by omega) (by omega)⟩) h) (fun _ => ?_)
  refine lv_iconst (v := nI 1) hx hb dX4_change_34 (by decide) ?_
  refine lv_goto (tgt := 39) hx hb dX4_change_35 (by decide) ?_
  refine lv_istore (lv' := [(4, .int (nI 1)), (0, .ref (a 0)), (1, .int (nI k)), (2, .int (nI 5)), (3, .int (nI v))]) hx hb dX4_change_39 hl (by decide) rfl (fun ls hl => ?_)
  refine lv_iload hx hb dX4_change_41 (lv_at hl 0 rfl) ?_
  refine q_if_eqN (tgt := 59) (a := 1) hx hb dX4_change_43 (by decide) (by omega) (fun h => absurd h (by omega)) (fun _ => ?_)
  refine lv_aload_n hx hb dX4_change_46 rfl (lv_at hl 1 rfl) ?_
  refine lv_iload_n hx hb dX4_change_47 rfl (lv_at hl 2 rfl) ?_
  refine lv_iload_n hx hb dX4_change_48 rfl (lv_at hl 3 rfl) ?_
  refine RO.callS S ks_X4_70 (c_X4_at l D cI cJ a f σ k 5) hK hP ⟨Nat.le_of_ble_eq_true rfl, Nat.le_of_ble_eq_true rfl⟩ hl.1 rfl rfl (Nat.le_of_ble_eq_true rfl) (Nat.zero_le _) (Nat.zero_le _) dX4_change_49 ?_
  refine lv_iload_n hx hb dX4_change_52 rfl (lv_at hl 4 rfl) ?_
  refine WR.callV (w1 := MW cI a (upd f (16 + 7 * k + 5) (nI v)) σ) S kv_X4_53 (c_X4_becomes l D cI cJ a f σ (16 + 7 * k + 5) (nI v) (by omega)) hK hP hD hS hA ([]) ([]) rfl rfl rfl rfl ⟨Nat.le_of_ble_eq_true rfl, Nat.le_of_ble_eq_true rfl⟩ hl.1 rfl rfl (Nat.le_of_ble_eq_true rfl) (Nat.zero_le _) (Nat.zero_le _) dX4_change_53 (fun H locs hP hD hS => ?_)
  refine lv_goto (tgt := 65) hx hb dX4_change_56 (by decide) ?_
  exact WR.iret S hr hlk hP hS (rfl) rfl dX4_change_65
set_option maxRecDepth 100000 in
set_option maxHeartbeats 4000000 in
theorem c_X4_change_ok6 (l : Launch) (D : va_G) (cI cJ : ClassId) (a : Nat → Nat) (f : Nat → Int32) (σ : Nat → Nat → Int32) (k : Nat) (v : Nat) (n : Nat) (hw : Wk f n) (hk : k < n) (hv : v ≤ 999) : WR l yX4_change cX4_change 5 (some .int) 1 D cI cJ (MW cI a f σ) [.ref (a 0), .int (nI k), .int (nI 6), .int (nI v)] (some (.int (fi f k 6))) (MW cI a (fu f k 6 (nI v)) σ) := by
  have h8 := hw.2.1
  refine WR.of (by decide) (Nat.le_of_ble_eq_true rfl) (fun p e s m below meth c ls A S hr hlk hK hP hD hS hA hl => ?_)
  obtain ⟨hx, hb, hml, hown, hU⟩ := id S
  have hl : lv_has ls 5 [(0, .ref (a 0)), (1, .int (nI k)), (2, .int (nI 6)), (3, .int (nI v))] := hl
  refine lv_aload_n hx hb dX4_change_0 rfl (lv_at hl 0 rfl) ?_
  refine lv_iload_n hx hb dX4_change_1 rfl (lv_at hl 1 rfl) ?_
  refine RO.callV S kv_X4_86 (c_X4_isCask l D cI cJ a f σ (nI k) n (hw.1)) hK hP rfl ⟨Nat.le_of_ble_eq_true rfl, Nat.le_of_ble_eq_true rfl⟩ hl.1 rfl rfl (Nat.le_of_ble_eq_true rfl) (Nat.zero_le _) (Nat.zero_le _) dX4_change_2 ?_
  refine q_if_eqB (tgt := 38) hx hb dX4_change_5 (by decide) (fun h => absurd (⟨nI_pos' (by omega), nI_lt (by omega) (by omega)⟩) h) (fun _ => ?_)
  refine lv_iload_n hx hb dX4_change_8 rfl (lv_at hl 2 rfl) ?_
  refine lv_i2l hx hb dX4_change_9 rfl ?_
  refine lv_lconst (v := 0) hx hb dX4_change_10 (by decide) ?_
  refine lv_ldc2 (v := 6) hx hb hown (hU _ mK_X4_73) dX4_change_11 ?_
  refine RO.callS S ks_X4_49 (c_X4_isIn l D cI cJ a f σ (nI 6) (nI 0) (nI 6)) hK hP ⟨Nat.le_of_ble_eq_true rfl, Nat.le_of_ble_eq_true rfl⟩ hl.1 rfl rfl (Nat.le_of_ble_eq_true rfl) (Nat.zero_le _) (Nat.zero_le _) dX4_change_14 ?_
  refine q_if_eqB (tgt := 38) hx hb dX4_change_17 (by decide) (fun h => absurd (⟨nI_le (by omega) (by omega), nI_le (by omega) (by omega)⟩) h) (fun _ => ?_)
  refine lv_iload_n hx hb dX4_change_20 rfl (lv_at hl 3 rfl) ?_
  refine lv_i2l hx hb dX4_change_21 rfl ?_
  refine lv_lconst (v := 0) hx hb dX4_change_22 (by decide) ?_
  refine lv_iload_n hx hb dX4_change_23 rfl (lv_at hl 2 rfl) ?_
  refine RO.callS S ks_X4_98 (c_X4_greatestOf l D cI cJ a f σ (nI 6)) hK hP ⟨Nat.le_of_ble_eq_true rfl, Nat.le_of_ble_eq_true rfl⟩ hl.1 rfl rfl (Nat.le_of_ble_eq_true rfl) (Nat.zero_le _) (Nat.zero_le _) dX4_change_24 ?_
  refine q_eqi (y := nI 999) (by decide) ?_
  refine lv_i2l hx hb dX4_change_27 rfl ?_
  refine RO.callS S ks_X4_49 (c_X4_isIn l D cI cJ a f σ (nI v) (nI 0) (nI 999)) hK hP ⟨Nat.le_of_ble_eq_true rfl, Nat.le_of_ble_eq_true rfl⟩ hl.1 rfl rfl (Nat.le_of_ble_eq_true rfl) (Nat.zero_le _) (Nat.zero_le _) dX4_change_28 ?_
  refine q_if_eqB (tgt := 38) hx hb dX4_change_31 (by decide) (fun h => absurd (⟨nI_le (by omega) (by omega), nI_le (by omega) (by omega)⟩) h) (fun _ => ?_)
  refine lv_iconst (v := nI 1) hx hb dX4_change_34 (by decide) ?_
  refine lv_goto (tgt := 39) hx hb dX4_change_35 (by decide) ?_
  refine lv_istore (lv' := [(4, .int (nI 1)), (0, .ref (a 0)), (1, .int (nI k)), (2, .int (nI 6)), (3, .int (nI v))]) hx hb dX4_change_39 hl (by decide) rfl (fun ls hl => ?_)
  refine lv_iload hx hb dX4_change_41 (lv_at hl 0 rfl) ?_
  refine q_if_eqN (tgt := 59) (a := 1) hx hb dX4_change_43 (by decide) (by omega) (fun h => absurd h (by omega)) (fun _ => ?_)
  refine lv_aload_n hx hb dX4_change_46 rfl (lv_at hl 1 rfl) ?_
  refine lv_iload_n hx hb dX4_change_47 rfl (lv_at hl 2 rfl) ?_
  refine lv_iload_n hx hb dX4_change_48 rfl (lv_at hl 3 rfl) ?_
  refine RO.callS S ks_X4_70 (c_X4_at l D cI cJ a f σ k 6) hK hP ⟨Nat.le_of_ble_eq_true rfl, Nat.le_of_ble_eq_true rfl⟩ hl.1 rfl rfl (Nat.le_of_ble_eq_true rfl) (Nat.zero_le _) (Nat.zero_le _) dX4_change_49 ?_
  refine lv_iload_n hx hb dX4_change_52 rfl (lv_at hl 4 rfl) ?_
  refine WR.callV (w1 := MW cI a (upd f (16 + 7 * k + 6) (nI v)) σ) S kv_X4_53 (c_X4_becomes l D cI cJ a f σ (16 + 7 * k + 6) (nI v) (by omega)) hK hP hD hS hA ([]) ([]) rfl rfl rfl rfl ⟨Nat.le_of_ble_eq_true rfl, Nat.le_of_ble_eq_true rfl⟩ hl.1 rfl rfl (Nat.le_of_ble_eq_true rfl) (Nat.zero_le _) (Nat.zero_le _) dX4_change_53 (fun H locs hP hD hS => ?_)
  refine lv_goto (tgt := 65) hx hb dX4_change_56 (by decide) ?_
  exact WR.iret S hr hlk hP hS (rfl) rfl dX4_change_65
set_option maxRecDepth 100000 in
set_option maxHeartbeats 4000000 in
theorem c_X4_change_bad (l : Launch) (D : va_G) (cI cJ : ClassId) (a : Nat → Nat) (f : Nat → Int32) (σ : Nat → Nat → Int32) (x : Int32) (y : Int32) (z : Int32) (n : Nat) (hw : Wk f n) (hb0 : ¬ ((0 ≤ x ∧ x < nI n) ∧ (nI 0 ≤ y ∧ y ≤ nI 6) ∧ (nI 0 ≤ z ∧ z ≤ gOf y))) : WR l yX4_change cX4_change 5 (some .int) 1 D cI cJ (MW cI a f σ) [.ref (a 0), .int x, .int y, .int z] (some (.int (-1000001))) (MW cI a f (va_up σ 4 (mFi (σ 4) 0))) := by
  refine WR.of (by decide) (Nat.le_of_ble_eq_true rfl) (fun p e s m below meth c ls A S hr hlk hK hP hD hS hA hl => ?_)
  obtain ⟨hx, hb, hml, hown, hU⟩ := id S
  have hl : lv_has ls 5 [(0, .ref (a 0)), (1, .int x), (2, .int y), (3, .int z)] := hl
  refine lv_aload_n hx hb dX4_change_0 rfl (lv_at hl 0 rfl) ?_
  refine lv_iload_n hx hb dX4_change_1 rfl (lv_at hl 1 rfl) ?_
  refine RO.callV S kv_X4_86 (c_X4_isCask l D cI cJ a f σ x n (hw.1)) hK hP rfl ⟨Nat.le_of_ble_eq_true rfl, Nat.le_of_ble_eq_true rfl⟩ hl.1 rfl rfl (Nat.le_of_ble_eq_true rfl) (Nat.zero_le _) (Nat.zero_le _) dX4_change_2 ?_
  refine q_if_eqB (tgt := 38) hx hb dX4_change_5 (by decide) (fun c_5 => ?_) (fun c_5 => ?_)
  · refine lv_iconst (v := nI 0) hx hb dX4_change_38 (by decide) ?_
    refine lv_istore (lv' := [(4, .int (nI 0)), (0, .ref (a 0)), (1, .int x), (2, .int y), (3, .int z)]) hx hb dX4_change_39 hl (by decide) rfl (fun ls hl => ?_)
    refine lv_iload hx hb dX4_change_41 (lv_at hl 0 rfl) ?_
    refine q_if_eqN (tgt := 59) (a := 0) hx hb dX4_change_43 (by decide) (by omega) (fun _ => ?_) (fun h => absurd h (by omega))
    refine lv_aload_n hx hb dX4_change_59 rfl (lv_at hl 1 rfl) ?_
    refine lv_ldc (v := (-1000001)) hx hb hown (hU _ mK_X4_37) dX4_change_60 ?_
    refine WR.callV (w1 := MW cI a f (va_up σ 4 (mFi (σ 4) 0))) S kv_X4_39 (c_X4_fd0 l D cI cJ a f σ) hK hP hD hS hA ([]) ([]) rfl rfl rfl rfl ⟨Nat.le_of_ble_eq_true rfl, Nat.le_of_ble_eq_true rfl⟩ hl.1 rfl rfl (Nat.le_of_ble_eq_true rfl) (Nat.zero_le _) (Nat.zero_le _) dX4_change_62 (fun H locs hP hD hS => ?_)
    exact WR.iret S hr hlk hP hS (rfl) rfl dX4_change_65
  · refine lv_iload_n hx hb dX4_change_8 rfl (lv_at hl 2 rfl) ?_
    refine lv_i2l hx hb dX4_change_9 rfl ?_
    refine lv_lconst (v := 0) hx hb dX4_change_10 (by decide) ?_
    refine lv_ldc2 (v := 6) hx hb hown (hU _ mK_X4_73) dX4_change_11 ?_
    refine RO.callS S ks_X4_49 (c_X4_isIn l D cI cJ a f σ y (nI 0) (nI 6)) hK hP ⟨Nat.le_of_ble_eq_true rfl, Nat.le_of_ble_eq_true rfl⟩ hl.1 rfl rfl (Nat.le_of_ble_eq_true rfl) (Nat.zero_le _) (Nat.zero_le _) dX4_change_14 ?_
    refine q_if_eqB (tgt := 38) hx hb dX4_change_17 (by decide) (fun c_17 => ?_) (fun c_17 => ?_)
    · refine lv_iconst (v := nI 0) hx hb dX4_change_38 (by decide) ?_
      refine lv_istore (lv' := [(4, .int (nI 0)), (0, .ref (a 0)), (1, .int x), (2, .int y), (3, .int z)]) hx hb dX4_change_39 hl (by decide) rfl (fun ls hl => ?_)
      refine lv_iload hx hb dX4_change_41 (lv_at hl 0 rfl) ?_
      refine q_if_eqN (tgt := 59) (a := 0) hx hb dX4_change_43 (by decide) (by omega) (fun _ => ?_) (fun h => absurd h (by omega))
      refine lv_aload_n hx hb dX4_change_59 rfl (lv_at hl 1 rfl) ?_
      refine lv_ldc (v := (-1000001)) hx hb hown (hU _ mK_X4_37) dX4_change_60 ?_
      refine WR.callV (w1 := MW cI a f (va_up σ 4 (mFi (σ 4) 0))) S kv_X4_39 (c_X4_fd0 l D cI cJ a f σ) hK hP hD hS hA ([]) ([]) rfl rfl rfl rfl ⟨Nat.le_of_ble_eq_true rfl, Nat.le_of_ble_eq_true rfl⟩ hl.1 rfl rfl (Nat.le_of_ble_eq_true rfl) (Nat.zero_le _) (Nat.zero_le _) dX4_change_62 (fun H locs hP hD hS => ?_)
      exact WR.iret S hr hlk hP hS (rfl) rfl dX4_change_65
    · refine lv_iload_n hx hb dX4_change_20 rfl (lv_at hl 3 rfl) ?_
      refine lv_i2l hx hb dX4_change_21 rfl ?_
      refine lv_lconst (v := 0) hx hb dX4_change_22 (by decide) ?_
      refine lv_iload_n hx hb dX4_change_23 rfl (lv_at hl 2 rfl) ?_
      refine RO.callS S ks_X4_98 (c_X4_greatestOf l D cI cJ a f σ y) hK hP ⟨Nat.le_of_ble_eq_true rfl, Nat.le_of_ble_eq_true rfl⟩ hl.1 rfl rfl (Nat.le_of_ble_eq_true rfl) (Nat.zero_le _) (Nat.zero_le _) dX4_change_24 ?_
      refine lv_i2l hx hb dX4_change_27 rfl ?_
      refine RO.callS S ks_X4_49 (c_X4_isIn l D cI cJ a f σ z (nI 0) (gOf y)) hK hP ⟨Nat.le_of_ble_eq_true rfl, Nat.le_of_ble_eq_true rfl⟩ hl.1 rfl rfl (Nat.le_of_ble_eq_true rfl) (Nat.zero_le _) (Nat.zero_le _) dX4_change_28 ?_
      refine q_if_eqB (tgt := 38) hx hb dX4_change_31 (by decide) (fun c_31 => ?_) (fun c_31 => ?_)
      · refine lv_iconst (v := nI 0) hx hb dX4_change_38 (by decide) ?_
        refine lv_istore (lv' := [(4, .int (nI 0)), (0, .ref (a 0)), (1, .int x), (2, .int y), (3, .int z)]) hx hb dX4_change_39 hl (by decide) rfl (fun ls hl => ?_)
        refine lv_iload hx hb dX4_change_41 (lv_at hl 0 rfl) ?_
        refine q_if_eqN (tgt := 59) (a := 0) hx hb dX4_change_43 (by decide) (by omega) (fun _ => ?_) (fun h => absurd h (by omega))
        refine lv_aload_n hx hb dX4_change_59 rfl (lv_at hl 1 rfl) ?_
        refine lv_ldc (v := (-1000001)) hx hb hown (hU _ mK_X4_37) dX4_change_60 ?_
        refine WR.callV (w1 := MW cI a f (va_up σ 4 (mFi (σ 4) 0))) S kv_X4_39 (c_X4_fd0 l D cI cJ a f σ) hK hP hD hS hA ([]) ([]) rfl rfl rfl rfl ⟨Nat.le_of_ble_eq_true rfl, Nat.le_of_ble_eq_true rfl⟩ hl.1 rfl rfl (Nat.le_of_ble_eq_true rfl) (Nat.zero_le _) (Nat.zero_le _) dX4_change_62 (fun H locs hP hD hS => ?_)
        exact WR.iret S hr hlk hP hS (rfl) rfl dX4_change_65
      · exact absurd (⟨c_5, c_17, c_31⟩) hb0
set_option maxRecDepth 100000 in
set_option maxHeartbeats 4000000 in
theorem c_X4_sell_ok (l : Launch) (D : va_G) (cI cJ : ClassId) (a : Nat → Nat) (f : Nat → Int32) (σ : Nat → Nat → Int32) (k : Nat) (n : Nat) (hw : Wk f n) (hk : k < n) : WR l yX4_sell cX4_sell 3 (some .int) 3 D cI cJ (MW cI a f σ) [.ref (a 0), .int (nI k)] (some (.int (sLd f n k))) (MW cI a (sEy f k) σ) := by
  have h8 := hw.2.1
  refine WR.of (by decide) (Nat.le_of_ble_eq_true rfl) (fun p e s m below meth c ls A S hr hlk hK hP hD hS hA hl => ?_)
  obtain ⟨hx, hb, hml, hown, hU⟩ := id S
  have hl : lv_has ls 3 [(0, .ref (a 0)), (1, .int (nI k))] := hl
  refine lv_aload_n hx hb dX4_sell_0 rfl (lv_at hl 0 rfl) ?_
  refine lv_iload_n hx hb dX4_sell_1 rfl (lv_at hl 1 rfl) ?_
  refine RO.callV S kv_X4_86 (c_X4_isCask l D cI cJ a f σ (nI k) n (hw.1)) hK hP rfl ⟨Nat.le_of_ble_eq_true rfl, Nat.le_of_ble_eq_true rfl⟩ hl.1 rfl rfl (Nat.le_of_ble_eq_true rfl) (Nat.zero_le _) (Nat.zero_le _) dX4_sell_2 ?_
  refine q_if_neB (tgt := 15) hx hb dX4_sell_5 (by decide) (fun _ => ?_) (fun h => absurd (⟨nI_pos' (by omega), nI_lt (by omega) (by omega)⟩) h)
  refine lv_aload_n hx hb dX4_sell_15 rfl (lv_at hl 0 rfl) ?_
  refine lv_iload_n hx hb dX4_sell_16 rfl (lv_at hl 1 rfl) ?_
  refine RO.callV S kv_X4_89 (c_X4_loud l D cI cJ a f σ k n (hw) (by omega)) hK hP rfl ⟨Nat.le_of_ble_eq_true rfl, Nat.le_of_ble_eq_true rfl⟩ hl.1 rfl rfl (Nat.le_of_ble_eq_true rfl) (Nat.zero_le _) (Nat.zero_le _) dX4_sell_17 ?_
  refine lv_istore_n (lv' := [(2, .int (sLd f n k)), (0, .ref (a 0)), (1, .int (nI k))]) hx hb dX4_sell_20 rfl hl (by decide) rfl (fun ls hl => ?_)
  refine lv_aload_n hx hb dX4_sell_21 rfl (lv_at hl 1 rfl) ?_
  refine g4_s S hK hP dX4_sell_22 ?_
  refine lv_iload_n hx hb dX4_sell_25 rfl (lv_at hl 2 rfl) ?_
  refine lv_iconst (v := nI 2) hx hb dX4_sell_26 (by decide) ?_
  refine RO.callS S ks_X4_70 (c_X4_at l D cI cJ a f σ k 2) hK hP ⟨Nat.le_of_ble_eq_true rfl, Nat.le_of_ble_eq_true rfl⟩ hl.1 rfl rfl (Nat.le_of_ble_eq_true rfl) (Nat.zero_le _) (Nat.zero_le _) dX4_sell_27 ?_
  refine lv_iconst (v := nI 0) hx hb dX4_sell_30 (by decide) ?_
  refine s4_s S hK hP hD hS (j := 16 + 7 * k + 2) (by omega) dX4_sell_31 (fun H locs hP hD hS => ?_)
  refine lv_aload_n hx hb dX4_sell_32 rfl (lv_at hl 1 rfl) ?_
  refine g4_s S hK hP dX4_sell_33 ?_
  refine lv_iload_n hx hb dX4_sell_36 rfl (lv_at hl 2 rfl) ?_
  refine lv_iconst (v := nI 5) hx hb dX4_sell_37 (by decide) ?_
  refine RO.callS S ks_X4_70 (c_X4_at l D cI cJ a (fu f k 2 (nI 0)) σ k 5) hK hP ⟨Nat.le_of_ble_eq_true rfl, Nat.le_of_ble_eq_true rfl⟩ hl.1 rfl rfl (Nat.le_of_ble_eq_true rfl) (Nat.zero_le _) (Nat.zero_le _) dX4_sell_38 ?_
  refine lv_iconst (v := nI 0) hx hb dX4_sell_41 (by decide) ?_
  refine s4_s S hK hP hD hS (j := 16 + 7 * k + 5) (by omega) dX4_sell_42 (fun H locs hP hD hS => ?_)
  refine lv_iload_n hx hb dX4_sell_43 rfl (lv_at hl 0 rfl) ?_
  exact WR.iret S hr hlk hP hS (rfl) rfl dX4_sell_44
set_option maxRecDepth 100000 in
set_option maxHeartbeats 4000000 in
theorem c_X4_sell_bad (l : Launch) (D : va_G) (cI cJ : ClassId) (a : Nat → Nat) (f : Nat → Int32) (σ : Nat → Nat → Int32) (x : Int32) (n : Nat) (hw : Wk f n) (hb0 : ¬ ((0 ≤ x ∧ x < nI n))) : WR l yX4_sell cX4_sell 3 (some .int) 3 D cI cJ (MW cI a f σ) [.ref (a 0), .int x] (some (.int (-1000001))) (MW cI a f (va_up σ 4 (mFi (σ 4) 0))) := by
  refine WR.of (by decide) (Nat.le_of_ble_eq_true rfl) (fun p e s m below meth c ls A S hr hlk hK hP hD hS hA hl => ?_)
  obtain ⟨hx, hb, hml, hown, hU⟩ := id S
  have hl : lv_has ls 3 [(0, .ref (a 0)), (1, .int x)] := hl
  refine lv_aload_n hx hb dX4_sell_0 rfl (lv_at hl 0 rfl) ?_
  refine lv_iload_n hx hb dX4_sell_1 rfl (lv_at hl 1 rfl) ?_
  refine RO.callV S kv_X4_86 (c_X4_isCask l D cI cJ a f σ x n (hw.1)) hK hP rfl ⟨Nat.le_of_ble_eq_true rfl, Nat.le_of_ble_eq_true rfl⟩ hl.1 rfl rfl (Nat.le_of_ble_eq_true rfl) (Nat.zero_le _) (Nat.zero_le _) dX4_sell_2 ?_
  refine q_if_neB (tgt := 15) hx hb dX4_sell_5 (by decide) (fun c_5 => ?_) (fun c_5 => ?_)
  · exact absurd (c_5) hb0
  · refine lv_aload_n hx hb dX4_sell_8 rfl (lv_at hl 0 rfl) ?_
    refine lv_ldc (v := (-1000001)) hx hb hown (hU _ mK_X4_37) dX4_sell_9 ?_
    refine WR.callV (w1 := MW cI a f (va_up σ 4 (mFi (σ 4) 0))) S kv_X4_39 (c_X4_fd0 l D cI cJ a f σ) hK hP hD hS hA ([]) ([]) rfl rfl rfl rfl ⟨Nat.le_of_ble_eq_true rfl, Nat.le_of_ble_eq_true rfl⟩ hl.1 rfl rfl (Nat.le_of_ble_eq_true rfl) (Nat.zero_le _) (Nat.zero_le _) dX4_sell_11 (fun H locs hP hD hS => ?_)
    exact WR.iret S hr hlk hP hS (rfl) rfl dX4_sell_14
set_option maxRecDepth 100000 in
set_option maxHeartbeats 4000000 in
theorem c_X4_go_ok (l : Launch) (D : va_G) (cI cJ : ClassId) (a : Nat → Nat) (f : Nat → Int32) (σ : Nat → Nat → Int32) (t : Nat) (n : Nat) (hw : Wk f n) (d : Nat) (hd : f 1 = nI d) (ht1 : 1 ≤ t) (ht : t ≤ 60) (hd2 : d + t ≤ 99999) : WR l yX4_go cX4_go 2 (some .int) 6 D cI cJ (MW cI a f σ) [.ref (a 0), .int (nI t)] (some (.int (sGo f n t 3))) (MW cI a (sGo f n t) σ) := by
  have h8 := hw.2.1
  refine WR.of (by decide) (Nat.le_of_ble_eq_true rfl) (fun p e s m below meth c ls A S hr hlk hK hP hD hS hA hl => ?_)
  obtain ⟨hx, hb, hml, hown, hU⟩ := id S
  have hl : lv_has ls 2 [(0, .ref (a 0)), (1, .int (nI t))] := hl
  refine lv_iload_n hx hb dX4_go_0 rfl (lv_at hl 1 rfl) ?_
  refine lv_i2l hx hb dX4_go_1 rfl ?_
  refine lv_lconst (v := 1) hx hb dX4_go_2 (by decide) ?_
  refine lv_ldc2 (v := 60) hx hb hown (hU _ mK_X4_122) dX4_go_3 ?_
  refine RO.callS S ks_X4_49 (c_X4_isIn l D cI cJ a f σ (nI t) (nI 1) (nI 60)) hK hP ⟨Nat.le_of_ble_eq_true rfl, Nat.le_of_ble_eq_true rfl⟩ hl.1 rfl rfl (Nat.le_of_ble_eq_true rfl) (Nat.zero_le _) (Nat.zero_le _) dX4_go_6 ?_
  refine q_if_neB (tgt := 19) hx hb dX4_go_9 (by decide) (fun _ => ?_) (fun h => absurd (⟨nI_le (by omega) (by omega), nI_le (by omega) (by omega)⟩) h)
  refine lv_aload_n hx hb dX4_go_19 rfl (lv_at hl 0 rfl) ?_
  refine g4_s S hK hP dX4_go_20 ?_
  refine lv_iconst (v := nI 1) hx hb dX4_go_23 (by decide) ?_
  refine l4_s S hK hP (j := 1) (by omega) dX4_go_24 ?_
  refine q_eqi (y := nI d) (hd) ?_
  refine lv_iload_n hx hb dX4_go_25 rfl (lv_at hl 1 rfl) ?_
  refine q_iaddN (a := d) (b := t) hx hb dX4_go_26 ?_
  refine lv_ldc (v := nI 99999) hx hb hown (hU _ mK_X4_107) dX4_go_27 ?_
  refine q_icmp_leN (tgt := 39) (a := d + t) (b := 99999) hx hb dX4_go_29 (by decide) (by omega) (by omega) (fun _ => ?_) (fun h => absurd h (by omega))
  refine lv_aload_n hx hb dX4_go_39 rfl (lv_at hl 0 rfl) ?_
  refine lv_iload_n hx hb dX4_go_40 rfl (lv_at hl 1 rfl) ?_
  refine WR.callV (w1 := MW cI a (sGo f n t) σ) S kv_X4_125 (c_X4_goes l D cI cJ a f σ t n (hw) d (hd) (by omega)) hK hP hD hS hA ([]) ([]) rfl rfl rfl rfl ⟨Nat.le_of_ble_eq_true rfl, Nat.le_of_ble_eq_true rfl⟩ hl.1 rfl rfl (Nat.le_of_ble_eq_true rfl) (Nat.zero_le _) (Nat.zero_le _) dX4_go_41 (fun H locs hP hD hS => ?_)
  refine W.eq (g2 := F0 m 44 ls []) rfl ?_
  refine lv_aload_n hx hb dX4_go_44 rfl (lv_at hl 0 rfl) ?_
  refine g4_s S hK hP dX4_go_45 ?_
  refine lv_iconst (v := nI 3) hx hb dX4_go_48 (by decide) ?_
  refine l4_s S hK hP (j := 3) (by omega) dX4_go_49 ?_
  exact WR.iret S hr hlk hP hS (rfl) rfl dX4_go_50
set_option maxRecDepth 100000 in
set_option maxHeartbeats 4000000 in
theorem c_X4_go_bad (l : Launch) (D : va_G) (cI cJ : ClassId) (a : Nat → Nat) (f : Nat → Int32) (σ : Nat → Nat → Int32) (x : Int32) (hb0 : ¬ ((nI 1 ≤ x ∧ x ≤ nI 60))) : WR l yX4_go cX4_go 2 (some .int) 6 D cI cJ (MW cI a f σ) [.ref (a 0), .int x] (some (.int (-1000001))) (MW cI a f (va_up σ 4 (mFi (σ 4) 0))) := by
  refine WR.of (by decide) (Nat.le_of_ble_eq_true rfl) (fun p e s m below meth c ls A S hr hlk hK hP hD hS hA hl => ?_)
  obtain ⟨hx, hb, hml, hown, hU⟩ := id S
  have hl : lv_has ls 2 [(0, .ref (a 0)), (1, .int x)] := hl
  refine lv_iload_n hx hb dX4_go_0 rfl (lv_at hl 1 rfl) ?_
  refine lv_i2l hx hb dX4_go_1 rfl ?_
  refine lv_lconst (v := 1) hx hb dX4_go_2 (by decide) ?_
  refine lv_ldc2 (v := 60) hx hb hown (hU _ mK_X4_122) dX4_go_3 ?_
  refine RO.callS S ks_X4_49 (c_X4_isIn l D cI cJ a f σ x (nI 1) (nI 60)) hK hP ⟨Nat.le_of_ble_eq_true rfl, Nat.le_of_ble_eq_true rfl⟩ hl.1 rfl rfl (Nat.le_of_ble_eq_true rfl) (Nat.zero_le _) (Nat.zero_le _) dX4_go_6 ?_
  refine q_if_neB (tgt := 19) hx hb dX4_go_9 (by decide) (fun c_9 => ?_) (fun c_9 => ?_)
  · exact absurd (c_9) hb0
  · refine lv_aload_n hx hb dX4_go_12 rfl (lv_at hl 0 rfl) ?_
    refine lv_ldc (v := (-1000001)) hx hb hown (hU _ mK_X4_37) dX4_go_13 ?_
    refine WR.callV (w1 := MW cI a f (va_up σ 4 (mFi (σ 4) 0))) S kv_X4_39 (c_X4_fd0 l D cI cJ a f σ) hK hP hD hS hA ([]) ([]) rfl rfl rfl rfl ⟨Nat.le_of_ble_eq_true rfl, Nat.le_of_ble_eq_true rfl⟩ hl.1 rfl rfl (Nat.le_of_ble_eq_true rfl) (Nat.zero_le _) (Nat.zero_le _) dX4_go_15 (fun H locs hP hD hS => ?_)
    exact WR.iret S hr hlk hP hS (rfl) rfl dX4_go_18
set_option maxRecDepth 100000 in
set_option maxHeartbeats 4000000 in
theorem c_X4_then_w2 (l : Launch) (D : va_G) (cI cJ : ClassId) (a : Nat → Nat) (f : Nat → Int32) (σ : Nat → Nat → Int32) (k : Nat) (t : Nat) (n : Nat) (hw : Wk f n) (d : Nat) (hd : f 1 = nI d) (hk : k < n) (hd2 : d + t ≤ 99999) : WR l yX4_then cX4_then 5 (some .int) 6 D cI cJ (MW cI a f σ) [.ref (a 0), .int (nI k), .int (nI 2), .int (nI t)] (some (.int (fi (sGo f n t) k 2))) (MW cI a f (va_up σ 3 f)) := by
  have h8 := hw.2.1
  refine WR.of (by decide) (Nat.le_of_ble_eq_true rfl) (fun p e s m below meth c ls A S hr hlk hK hP hD hS hA hl => ?_)
  obtain ⟨hx, hb, hml, hown, hU⟩ := id S
  have hl : lv_has ls 5 [(0, .ref (a 0)), (1, .int (nI k)), (2, .int (nI 2)), (3, .int (nI t))] := hl
  refine lv_aload_n hx hb dX4_then_0 rfl (lv_at hl 0 rfl) ?_
  refine g4_s S hK hP dX4_then_1 ?_
  refine lv_aload_n hx hb dX4_then_4 rfl (lv_at hl 0 rfl) ?_
  refine g4_aside S hK hP dX4_then_5 ?_
  refine WR.callS (w1 := MW cI a f (va_up σ 3 f)) S ks_X4_140 (c_X4_copyRow_s_aside l D cI cJ a f σ) hK hP hD hS hA ([]) ([]) rfl rfl rfl ⟨Nat.le_of_ble_eq_true rfl, Nat.le_of_ble_eq_true rfl⟩ hl.1 rfl rfl (Nat.le_of_ble_eq_true rfl) (Nat.zero_le _) (Nat.zero_le _) dX4_then_8 (fun H locs hP hD hS => ?_)
  refine W.eq (g2 := F0 m 11 ls []) rfl ?_
  refine lv_aload_n hx hb dX4_then_11 rfl (lv_at hl 0 rfl) ?_
  refine lv_iload_n hx hb dX4_then_12 rfl (lv_at hl 3 rfl) ?_
  refine WR.callV (w1 := MW cI a (sGo f n t) (va_up σ 3 f)) S kv_X4_125 (c_X4_goes l D cI cJ a f (va_up σ 3 f) t n (hw) d (hd) (by omega)) hK hP hD hS hA ([]) ([]) rfl rfl rfl rfl ⟨Nat.le_of_ble_eq_true rfl, Nat.le_of_ble_eq_true rfl⟩ hl.1 rfl rfl (Nat.le_of_ble_eq_true rfl) (Nat.zero_le _) (Nat.zero_le _) dX4_then_13 (fun H locs hP hD hS => ?_)
  refine W.eq (g2 := F0 m 16 ls []) rfl ?_
  refine lv_iload_n hx hb dX4_then_16 rfl (lv_at hl 2 rfl) ?_
  refine lv_bipush (v := nI 7) hx hb dX4_then_17 (by decide) ?_
  refine q_icmp_neN (tgt := 30) (a := 2) (b := 7) hx hb dX4_then_19 (by decide) (by omega) (by omega) (fun _ => ?_) (fun h => absurd h (by omega))
  refine lv_aload_n hx hb dX4_then_30 rfl (lv_at hl 0 rfl) ?_
  refine lv_iload_n hx hb dX4_then_31 rfl (lv_at hl 1 rfl) ?_
  refine lv_iload_n hx hb dX4_then_32 rfl (lv_at hl 2 rfl) ?_
  refine RO.callV S kv_X4_57 (c_X4_its l D cI cJ a (sGo f n t) (va_up σ 3 f) k 2 (by omega)) hK hP rfl ⟨Nat.le_of_ble_eq_true rfl, Nat.le_of_ble_eq_true rfl⟩ hl.1 rfl rfl (Nat.le_of_ble_eq_true rfl) (Nat.zero_le _) (Nat.zero_le _) dX4_then_33 ?_
  refine lv_istore (lv' := [(4, .int (fi (sGo f n t) k 2)), (0, .ref (a 0)), (1, .int (nI k)), (2, .int (nI 2)), (3, .int (nI t))]) hx hb dX4_then_36 hl (by decide) rfl (fun ls hl => ?_)
  refine lv_aload_n hx hb dX4_then_38 rfl (lv_at hl 1 rfl) ?_
  refine g4_aside S hK hP dX4_then_39 ?_
  refine lv_aload_n hx hb dX4_then_42 rfl (lv_at hl 1 rfl) ?_
  refine g4_s S hK hP dX4_then_43 ?_
  refine WR.callS (w1 := MW cI a f (va_up σ 3 f)) S ks_X4_140 (c_X4_copyRow_aside_s l D cI cJ a (sGo f n t) (va_up σ 3 f)) hK hP hD hS hA ([]) ([]) rfl rfl rfl ⟨Nat.le_of_ble_eq_true rfl, Nat.le_of_ble_eq_true rfl⟩ hl.1 rfl rfl (Nat.le_of_ble_eq_true rfl) (Nat.zero_le _) (Nat.zero_le _) dX4_then_46 (fun H locs hP hD hS => ?_)
  refine W.eq (g2 := F0 m 49 ls []) rfl ?_
  refine lv_iload hx hb dX4_then_49 (lv_at hl 0 rfl) ?_
  exact WR.iret S hr hlk hP hS (rfl) rfl dX4_then_51
set_option maxRecDepth 100000 in
set_option maxHeartbeats 4000000 in
theorem c_X4_then_w5 (l : Launch) (D : va_G) (cI cJ : ClassId) (a : Nat → Nat) (f : Nat → Int32) (σ : Nat → Nat → Int32) (k : Nat) (t : Nat) (n : Nat) (hw : Wk f n) (d : Nat) (hd : f 1 = nI d) (hk : k < n) (hd2 : d + t ≤ 99999) : WR l yX4_then cX4_then 5 (some .int) 6 D cI cJ (MW cI a f σ) [.ref (a 0), .int (nI k), .int (nI 5), .int (nI t)] (some (.int (fi (sGo f n t) k 5))) (MW cI a f (va_up σ 3 f)) := by
  have h8 := hw.2.1
  refine WR.of (by decide) (Nat.le_of_ble_eq_true rfl) (fun p e s m below meth c ls A S hr hlk hK hP hD hS hA hl => ?_)
  obtain ⟨hx, hb, hml, hown, hU⟩ := id S
  have hl : lv_has ls 5 [(0, .ref (a 0)), (1, .int (nI k)), (2, .int (nI 5)), (3, .int (nI t))] := hl
  refine lv_aload_n hx hb dX4_then_0 rfl (lv_at hl 0 rfl) ?_
  refine g4_s S hK hP dX4_then_1 ?_
  refine lv_aload_n hx hb dX4_then_4 rfl (lv_at hl 0 rfl) ?_
  refine g4_aside S hK hP dX4_then_5 ?_
  refine WR.callS (w1 := MW cI a f (va_up σ 3 f)) S ks_X4_140 (c_X4_copyRow_s_aside l D cI cJ a f σ) hK hP hD hS hA ([]) ([]) rfl rfl rfl ⟨Nat.le_of_ble_eq_true rfl, Nat.le_of_ble_eq_true rfl⟩ hl.1 rfl rfl (Nat.le_of_ble_eq_true rfl) (Nat.zero_le _) (Nat.zero_le _) dX4_then_8 (fun H locs hP hD hS => ?_)
  refine W.eq (g2 := F0 m 11 ls []) rfl ?_
  refine lv_aload_n hx hb dX4_then_11 rfl (lv_at hl 0 rfl) ?_
  refine lv_iload_n hx hb dX4_then_12 rfl (lv_at hl 3 rfl) ?_
  refine WR.callV (w1 := MW cI a (sGo f n t) (va_up σ 3 f)) S kv_X4_125 (c_X4_goes l D cI cJ a f (va_up σ 3 f) t n (hw) d (hd) (by omega)) hK hP hD hS hA ([]) ([]) rfl rfl rfl rfl ⟨Nat.le_of_ble_eq_true rfl, Nat.le_of_ble_eq_true rfl⟩ hl.1 rfl rfl (Nat.le_of_ble_eq_true rfl) (Nat.zero_le _) (Nat.zero_le _) dX4_then_13 (fun H locs hP hD hS => ?_)
  refine W.eq (g2 := F0 m 16 ls []) rfl ?_
  refine lv_iload_n hx hb dX4_then_16 rfl (lv_at hl 2 rfl) ?_
  refine lv_bipush (v := nI 7) hx hb dX4_then_17 (by decide) ?_
  refine q_icmp_neN (tgt := 30) (a := 5) (b := 7) hx hb dX4_then_19 (by decide) (by omega) (by omega) (fun _ => ?_) (fun h => absurd h (by omega))
  refine lv_aload_n hx hb dX4_then_30 rfl (lv_at hl 0 rfl) ?_
  refine lv_iload_n hx hb dX4_then_31 rfl (lv_at hl 1 rfl) ?_
  refine lv_iload_n hx hb dX4_then_32 rfl (lv_at hl 2 rfl) ?_
  refine RO.callV S kv_X4_57 (c_X4_its l D cI cJ a (sGo f n t) (va_up σ 3 f) k 5 (by omega)) hK hP rfl ⟨Nat.le_of_ble_eq_true rfl, Nat.le_of_ble_eq_true rfl⟩ hl.1 rfl rfl (Nat.le_of_ble_eq_true rfl) (Nat.zero_le _) (Nat.zero_le _) dX4_then_33 ?_
  refine lv_istore (lv' := [(4, .int (fi (sGo f n t) k 5)), (0, .ref (a 0)), (1, .int (nI k)), (2, .int (nI 5)), (3, .int (nI t))]) hx hb dX4_then_36 hl (by decide) rfl (fun ls hl => ?_)
  refine lv_aload_n hx hb dX4_then_38 rfl (lv_at hl 1 rfl) ?_
  refine g4_aside S hK hP dX4_then_39 ?_
  refine lv_aload_n hx hb dX4_then_42 rfl (lv_at hl 1 rfl) ?_
  refine g4_s S hK hP dX4_then_43 ?_
  refine WR.callS (w1 := MW cI a f (va_up σ 3 f)) S ks_X4_140 (c_X4_copyRow_aside_s l D cI cJ a (sGo f n t) (va_up σ 3 f)) hK hP hD hS hA ([]) ([]) rfl rfl rfl ⟨Nat.le_of_ble_eq_true rfl, Nat.le_of_ble_eq_true rfl⟩ hl.1 rfl rfl (Nat.le_of_ble_eq_true rfl) (Nat.zero_le _) (Nat.zero_le _) dX4_then_46 (fun H locs hP hD hS => ?_)
  refine W.eq (g2 := F0 m 49 ls []) rfl ?_
  refine lv_iload hx hb dX4_then_49 (lv_at hl 0 rfl) ?_
  exact WR.iret S hr hlk hP hS (rfl) rfl dX4_then_51
set_option maxRecDepth 100000 in
set_option maxHeartbeats 4000000 in
theorem c_X4_then_w6 (l : Launch) (D : va_G) (cI cJ : ClassId) (a : Nat → Nat) (f : Nat → Int32) (σ : Nat → Nat → Int32) (k : Nat) (t : Nat) (n : Nat) (hw : Wk f n) (d : Nat) (hd : f 1 = nI d) (hk : k < n) (hd2 : d + t ≤ 99999) : WR l yX4_then cX4_then 5 (some .int) 6 D cI cJ (MW cI a f σ) [.ref (a 0), .int (nI k), .int (nI 6), .int (nI t)] (some (.int (fi (sGo f n t) k 6))) (MW cI a f (va_up σ 3 f)) := by
  have h8 := hw.2.1
  refine WR.of (by decide) (Nat.le_of_ble_eq_true rfl) (fun p e s m below meth c ls A S hr hlk hK hP hD hS hA hl => ?_)
  obtain ⟨hx, hb, hml, hown, hU⟩ := id S
  have hl : lv_has ls 5 [(0, .ref (a 0)), (1, .int (nI k)), (2, .int (nI 6)), (3, .int (nI t))] := hl
  refine lv_aload_n hx hb dX4_then_0 rfl (lv_at hl 0 rfl) ?_
  refine g4_s S hK hP dX4_then_1 ?_
  refine lv_aload_n hx hb dX4_then_4 rfl (lv_at hl 0 rfl) ?_
  refine g4_aside S hK hP dX4_then_5 ?_
  refine WR.callS (w1 := MW cI a f (va_up σ 3 f)) S ks_X4_140 (c_X4_copyRow_s_aside l D cI cJ a f σ) hK hP hD hS hA ([]) ([]) rfl rfl rfl ⟨Nat.le_of_ble_eq_true rfl, Nat.le_of_ble_eq_true rfl⟩ hl.1 rfl rfl (Nat.le_of_ble_eq_true rfl) (Nat.zero_le _) (Nat.zero_le _) dX4_then_8 (fun H locs hP hD hS => ?_)
  refine W.eq (g2 := F0 m 11 ls []) rfl ?_
  refine lv_aload_n hx hb dX4_then_11 rfl (lv_at hl 0 rfl) ?_
  refine lv_iload_n hx hb dX4_then_12 rfl (lv_at hl 3 rfl) ?_
  refine WR.callV (w1 := MW cI a (sGo f n t) (va_up σ 3 f)) S kv_X4_125 (c_X4_goes l D cI cJ a f (va_up σ 3 f) t n (hw) d (hd) (by omega)) hK hP hD hS hA ([]) ([]) rfl rfl rfl rfl ⟨Nat.le_of_ble_eq_true rfl, Nat.le_of_ble_eq_true rfl⟩ hl.1 rfl rfl (Nat.le_of_ble_eq_true rfl) (Nat.zero_le _) (Nat.zero_le _) dX4_then_13 (fun H locs hP hD hS => ?_)
  refine W.eq (g2 := F0 m 16 ls []) rfl ?_
  refine lv_iload_n hx hb dX4_then_16 rfl (lv_at hl 2 rfl) ?_
  refine lv_bipush (v := nI 7) hx hb dX4_then_17 (by decide) ?_
  refine q_icmp_neN (tgt := 30) (a := 6) (b := 7) hx hb dX4_then_19 (by decide) (by omega) (by omega) (fun _ => ?_) (fun h => absurd h (by omega))
  refine lv_aload_n hx hb dX4_then_30 rfl (lv_at hl 0 rfl) ?_
  refine lv_iload_n hx hb dX4_then_31 rfl (lv_at hl 1 rfl) ?_
  refine lv_iload_n hx hb dX4_then_32 rfl (lv_at hl 2 rfl) ?_
  refine RO.callV S kv_X4_57 (c_X4_its l D cI cJ a (sGo f n t) (va_up σ 3 f) k 6 (by omega)) hK hP rfl ⟨Nat.le_of_ble_eq_true rfl, Nat.le_of_ble_eq_true rfl⟩ hl.1 rfl rfl (Nat.le_of_ble_eq_true rfl) (Nat.zero_le _) (Nat.zero_le _) dX4_then_33 ?_
  refine lv_istore (lv' := [(4, .int (fi (sGo f n t) k 6)), (0, .ref (a 0)), (1, .int (nI k)), (2, .int (nI 6)), (3, .int (nI t))]) hx hb dX4_then_36 hl (by decide) rfl (fun ls hl => ?_)
  refine lv_aload_n hx hb dX4_then_38 rfl (lv_at hl 1 rfl) ?_
  refine g4_aside S hK hP dX4_then_39 ?_
  refine lv_aload_n hx hb dX4_then_42 rfl (lv_at hl 1 rfl) ?_
  refine g4_s S hK hP dX4_then_43 ?_
  refine WR.callS (w1 := MW cI a f (va_up σ 3 f)) S ks_X4_140 (c_X4_copyRow_aside_s l D cI cJ a (sGo f n t) (va_up σ 3 f)) hK hP hD hS hA ([]) ([]) rfl rfl rfl ⟨Nat.le_of_ble_eq_true rfl, Nat.le_of_ble_eq_true rfl⟩ hl.1 rfl rfl (Nat.le_of_ble_eq_true rfl) (Nat.zero_le _) (Nat.zero_le _) dX4_then_46 (fun H locs hP hD hS => ?_)
  refine W.eq (g2 := F0 m 49 ls []) rfl ?_
  refine lv_iload hx hb dX4_then_49 (lv_at hl 0 rfl) ?_
  exact WR.iret S hr hlk hP hS (rfl) rfl dX4_then_51
set_option maxRecDepth 100000 in
set_option maxHeartbeats 4000000 in
theorem c_X4_then_w7 (l : Launch) (D : va_G) (cI cJ : ClassId) (a : Nat → Nat) (f : Nat → Int32) (σ : Nat → Nat → Int32) (k : Nat) (t : Nat) (n : Nat) (hw : Wk f n) (d : Nat) (hd : f 1 = nI d) (hk : k < n) (hd2 : d + t ≤ 99999) : WR l yX4_then cX4_then 5 (some .int) 6 D cI cJ (MW cI a f σ) [.ref (a 0), .int (nI k), .int (nI 7), .int (nI t)] (some (.int (sLd (sGo f n t) n k))) (MW cI a f (va_up σ 3 f)) := by
  have h8 := hw.2.1
  refine WR.of (by decide) (Nat.le_of_ble_eq_true rfl) (fun p e s m below meth c ls A S hr hlk hK hP hD hS hA hl => ?_)
  obtain ⟨hx, hb, hml, hown, hU⟩ := id S
  have hl : lv_has ls 5 [(0, .ref (a 0)), (1, .int (nI k)), (2, .int (nI 7)), (3, .int (nI t))] := hl
  refine lv_aload_n hx hb dX4_then_0 rfl (lv_at hl 0 rfl) ?_
  refine g4_s S hK hP dX4_then_1 ?_
  refine lv_aload_n hx hb dX4_then_4 rfl (lv_at hl 0 rfl) ?_
  refine g4_aside S hK hP dX4_then_5 ?_
  refine WR.callS (w1 := MW cI a f (va_up σ 3 f)) S ks_X4_140 (c_X4_copyRow_s_aside l D cI cJ a f σ) hK hP hD hS hA ([]) ([]) rfl rfl rfl ⟨Nat.le_of_ble_eq_true rfl, Nat.le_of_ble_eq_true rfl⟩ hl.1 rfl rfl (Nat.le_of_ble_eq_true rfl) (Nat.zero_le _) (Nat.zero_le _) dX4_then_8 (fun H locs hP hD hS => ?_)
  refine W.eq (g2 := F0 m 11 ls []) rfl ?_
  refine lv_aload_n hx hb dX4_then_11 rfl (lv_at hl 0 rfl) ?_
  refine lv_iload_n hx hb dX4_then_12 rfl (lv_at hl 3 rfl) ?_
  refine WR.callV (w1 := MW cI a (sGo f n t) (va_up σ 3 f)) S kv_X4_125 (c_X4_goes l D cI cJ a f (va_up σ 3 f) t n (hw) d (hd) (by omega)) hK hP hD hS hA ([]) ([]) rfl rfl rfl rfl ⟨Nat.le_of_ble_eq_true rfl, Nat.le_of_ble_eq_true rfl⟩ hl.1 rfl rfl (Nat.le_of_ble_eq_true rfl) (Nat.zero_le _) (Nat.zero_le _) dX4_then_13 (fun H locs hP hD hS => ?_)
  refine W.eq (g2 := F0 m 16 ls []) rfl ?_
  refine lv_iload_n hx hb dX4_then_16 rfl (lv_at hl 2 rfl) ?_
  refine lv_bipush (v := nI 7) hx hb dX4_then_17 (by decide) ?_
  refine q_icmp_neN (tgt := 30) (a := 7) (b := 7) hx hb dX4_then_19 (by decide) (by omega) (by omega) (fun h => absurd h (by omega)) (fun _ => ?_)
  refine lv_aload_n hx hb dX4_then_22 rfl (lv_at hl 0 rfl) ?_
  refine lv_iload_n hx hb dX4_then_23 rfl (lv_at hl 1 rfl) ?_
  refine RO.callV S kv_X4_89 (c_X4_loud l D cI cJ a (sGo f n t) (va_up σ 3 f) k n (hw.kl (sGo_kl h8)) (by omega)) hK hP rfl ⟨Nat.le_of_ble_eq_true rfl, Nat.le_of_ble_eq_true rfl⟩ hl.1 rfl rfl (Nat.le_of_ble_eq_true rfl) (Nat.zero_le _) (Nat.zero_le _) dX4_then_24 ?_
  refine lv_goto (tgt := 36) hx hb dX4_then_27 (by decide) ?_
  refine lv_istore (lv' := [(4, .int (sLd (sGo f n t) n k)), (0, .ref (a 0)), (1, .int (nI k)), (2, .int (nI 7)), (3, .int (nI t))]) hx hb dX4_then_36 hl (by decide) rfl (fun ls hl => ?_)
  refine lv_aload_n hx hb dX4_then_38 rfl (lv_at hl 1 rfl) ?_
  refine g4_aside S hK hP dX4_then_39 ?_
  refine lv_aload_n hx hb dX4_then_42 rfl (lv_at hl 1 rfl) ?_
  refine g4_s S hK hP dX4_then_43 ?_
  refine WR.callS (w1 := MW cI a f (va_up σ 3 f)) S ks_X4_140 (c_X4_copyRow_aside_s l D cI cJ a (sGo f n t) (va_up σ 3 f)) hK hP hD hS hA ([]) ([]) rfl rfl rfl ⟨Nat.le_of_ble_eq_true rfl, Nat.le_of_ble_eq_true rfl⟩ hl.1 rfl rfl (Nat.le_of_ble_eq_true rfl) (Nat.zero_le _) (Nat.zero_le _) dX4_then_46 (fun H locs hP hD hS => ?_)
  refine W.eq (g2 := F0 m 49 ls []) rfl ?_
  refine lv_iload hx hb dX4_then_49 (lv_at hl 0 rfl) ?_
  exact WR.iret S hr hlk hP hS (rfl) rfl dX4_then_51
set_option maxRecDepth 100000 in
set_option maxHeartbeats 4000000 in
theorem c_X4_clapsThen (l : Launch) (D : va_G) (cI cJ : ClassId) (a : Nat → Nat) (f : Nat → Int32) (σ : Nat → Nat → Int32) (t : Nat) (n : Nat) (hw : Wk f n) (d : Nat) (hd : f 1 = nI d) (hd2 : d + t ≤ 99999) : WR l yX4_clapsThen cX4_clapsThen 3 (some .int) 6 D cI cJ (MW cI a f σ) [.ref (a 0), .int (nI t)] (some (.int (sGo f n t 3))) (MW cI a f (va_up σ 3 f)) := by
  have h8 := hw.2.1
  refine WR.of (by decide) (Nat.le_of_ble_eq_true rfl) (fun p e s m below meth c ls A S hr hlk hK hP hD hS hA hl => ?_)
  obtain ⟨hx, hb, hml, hown, hU⟩ := id S
  have hl : lv_has ls 3 [(0, .ref (a 0)), (1, .int (nI t))] := hl
  refine lv_aload_n hx hb dX4_clapsThen_0 rfl (lv_at hl 0 rfl) ?_
  refine g4_s S hK hP dX4_clapsThen_1 ?_
  refine lv_aload_n hx hb dX4_clapsThen_4 rfl (lv_at hl 0 rfl) ?_
  refine g4_aside S hK hP dX4_clapsThen_5 ?_
  refine WR.callS (w1 := MW cI a f (va_up σ 3 f)) S ks_X4_140 (c_X4_copyRow_s_aside l D cI cJ a f σ) hK hP hD hS hA ([]) ([]) rfl rfl rfl ⟨Nat.le_of_ble_eq_true rfl, Nat.le_of_ble_eq_true rfl⟩ hl.1 rfl rfl (Nat.le_of_ble_eq_true rfl) (Nat.zero_le _) (Nat.zero_le _) dX4_clapsThen_8 (fun H locs hP hD hS => ?_)
  refine W.eq (g2 := F0 m 11 ls []) rfl ?_
  refine lv_aload_n hx hb dX4_clapsThen_11 rfl (lv_at hl 0 rfl) ?_
  refine lv_iload_n hx hb dX4_clapsThen_12 rfl (lv_at hl 1 rfl) ?_
  refine WR.callV (w1 := MW cI a (sGo f n t) (va_up σ 3 f)) S kv_X4_125 (c_X4_goes l D cI cJ a f (va_up σ 3 f) t n (hw) d (hd) (by omega)) hK hP hD hS hA ([]) ([]) rfl rfl rfl rfl ⟨Nat.le_of_ble_eq_true rfl, Nat.le_of_ble_eq_true rfl⟩ hl.1 rfl rfl (Nat.le_of_ble_eq_true rfl) (Nat.zero_le _) (Nat.zero_le _) dX4_clapsThen_13 (fun H locs hP hD hS => ?_)
  refine W.eq (g2 := F0 m 16 ls []) rfl ?_
  refine lv_aload_n hx hb dX4_clapsThen_16 rfl (lv_at hl 0 rfl) ?_
  refine g4_s S hK hP dX4_clapsThen_17 ?_
  refine lv_iconst (v := nI 3) hx hb dX4_clapsThen_20 (by decide) ?_
  refine l4_s S hK hP (j := 3) (by omega) dX4_clapsThen_21 ?_
  refine lv_istore_n (lv' := [(2, .int ((sGo f n t) 3)), (0, .ref (a 0)), (1, .int (nI t))]) hx hb dX4_clapsThen_22 rfl hl (by decide) rfl (fun ls hl => ?_)
  refine lv_aload_n hx hb dX4_clapsThen_23 rfl (lv_at hl 1 rfl) ?_
  refine g4_aside S hK hP dX4_clapsThen_24 ?_
  refine lv_aload_n hx hb dX4_clapsThen_27 rfl (lv_at hl 1 rfl) ?_
  refine g4_s S hK hP dX4_clapsThen_28 ?_
  refine WR.callS (w1 := MW cI a f (va_up σ 3 f)) S ks_X4_140 (c_X4_copyRow_aside_s l D cI cJ a (sGo f n t) (va_up σ 3 f)) hK hP hD hS hA ([]) ([]) rfl rfl rfl ⟨Nat.le_of_ble_eq_true rfl, Nat.le_of_ble_eq_true rfl⟩ hl.1 rfl rfl (Nat.le_of_ble_eq_true rfl) (Nat.zero_le _) (Nat.zero_le _) dX4_clapsThen_31 (fun H locs hP hD hS => ?_)
  refine W.eq (g2 := F0 m 34 ls []) rfl ?_
  refine lv_iload_n hx hb dX4_clapsThen_34 rfl (lv_at hl 0 rfl) ?_
  exact WR.iret S hr hlk hP hS (rfl) rfl dX4_clapsThen_35
set_option maxRecDepth 100000 in
set_option maxHeartbeats 4000000 in
theorem c_X4_ahead_ok2 (l : Launch) (D : va_G) (cI cJ : ClassId) (a : Nat → Nat) (f : Nat → Int32) (σ : Nat → Nat → Int32) (k : Nat) (t : Nat) (n : Nat) (hw : Wk f n) (d : Nat) (hd : f 1 = nI d) (hk : k < n) (ht : t ≤ 100) (hd2 : d + t ≤ 99999) : WR l yX4_ahead cX4_ahead 5 (some .int) 7 D cI cJ (MW cI a f σ) [.ref (a 0), .int (nI k), .int (nI 2), .int (nI t)] (some (.int (fi (sGo f n t) k 2))) (MW cI a f (va_up σ 3 f)) := by
  have h8 := hw.2.1
  refine WR.of (by decide) (Nat.le_of_ble_eq_true rfl) (fun p e s m below meth c ls A S hr hlk hK hP hD hS hA hl => ?_)
  obtain ⟨hx, hb, hml, hown, hU⟩ := id S
  have hl : lv_has ls 5 [(0, .ref (a 0)), (1, .int (nI k)), (2, .int (nI 2)), (3, .int (nI t))] := hl
  refine lv_aload_n hx hb dX4_ahead_0 rfl (lv_at hl 0 rfl) ?_
  refine lv_iload_n hx hb dX4_ahead_1 rfl (lv_at hl 1 rfl) ?_
  refine RO.callV S kv_X4_86 (c_X4_isCask l D cI cJ a f σ (nI k) n (hw.1)) hK hP rfl ⟨Nat.le_of_ble_eq_true rfl, Nat.le_of_ble_eq_true rfl⟩ hl.1 rfl rfl (Nat.le_of_ble_eq_true rfl) (Nat.zero_le _) (Nat.zero_le _) dX4_ahead_2 ?_
  refine q_if_eqB (tgt := 43) hx hb dX4_ahead_5 (by decide) (fun h => absurd (⟨nI_pos' (by omega), nI_lt (by omega) (by omega)⟩) h) (fun _ => ?_)
  refine lv_iload_n hx hb dX4_ahead_8 rfl (lv_at hl 2 rfl) ?_
  refine lv_iconst (v := nI 2) hx hb dX4_ahead_9 (by decide) ?_
  refine q_icmp_eqN (tgt := 27) (a := 2) (b := 2) hx hb dX4_ahead_10 (by decide) (by omega) (by omega) (fun _ => ?_) (fun h => absurd h (by omega))
  refine lv_iload_n hx hb dX4_ahead_27 rfl (lv_at hl 3 rfl) ?_
  refine lv_i2l hx hb dX4_ahead_28 rfl ?_
  refine lv_lconst (v := 0) hx hb dX4_ahead_29 (by decide) ?_
  refine lv_ldc2 (v := 100) hx hb hown (hU _ mK_X4_148) dX4_ahead_30 ?_
  refine RO.callS S ks_X4_49 (c_X4_isIn l D cI cJ a f σ (nI t) (nI 0) (nI 100)) hK hP ⟨Nat.le_of_ble_eq_true rfl, Nat.le_of_ble_eq_true rfl⟩ hl.1 rfl rfl (Nat.le_of_ble_eq_true rfl) (Nat.zero_le _) (Nat.zero_le _) dX4_ahead_33 ?_
  refine q_if_eqB (tgt := 43) hx hb dX4_ahead_36 (by decide) (fun h => absurd (⟨nI_le (by omega) (by omega), nI_le (by omega) (by omega)⟩) h) (fun _ => ?_)
  refine lv_iconst (v := nI 1) hx hb dX4_ahead_39 (by decide) ?_
  refine lv_goto (tgt := 44) hx hb dX4_ahead_40 (by decide) ?_
  refine lv_istore (lv' := [(4, .int (nI 1)), (0, .ref (a 0)), (1, .int (nI k)), (2, .int (nI 2)), (3, .int (nI t))]) hx hb dX4_ahead_44 hl (by decide) rfl (fun ls hl => ?_)
  refine lv_iload hx hb dX4_ahead_46 (lv_at hl 0 rfl) ?_
  refine q_if_eqN (tgt := 61) (a := 1) hx hb dX4_ahead_48 (by decide) (by omega) (fun h => absurd h (by omega)) (fun _ => ?_)
  refine lv_aload_n hx hb dX4_ahead_51 rfl (lv_at hl 1 rfl) ?_
  refine lv_iload_n hx hb dX4_ahead_52 rfl (lv_at hl 2 rfl) ?_
  refine lv_iload_n hx hb dX4_ahead_53 rfl (lv_at hl 3 rfl) ?_
  refine lv_iload_n hx hb dX4_ahead_54 rfl (lv_at hl 4 rfl) ?_
  refine WR.callV (w1 := MW cI a f (va_up σ 3 f)) S kv_X4_150 (c_X4_then_w2 l D cI cJ a f σ k t n (hw) d (hd) (by omega) (by omega)) hK hP hD hS hA ([]) ([]) rfl rfl rfl rfl ⟨Nat.le_of_ble_eq_true rfl, Nat.le_of_ble_eq_true rfl⟩ hl.1 rfl rfl (Nat.le_of_ble_eq_true rfl) (Nat.zero_le _) (Nat.zero_le _) dX4_ahead_55 (fun H locs hP hD hS => ?_)
  refine lv_goto (tgt := 67) hx hb dX4_ahead_58 (by decide) ?_
  exact WR.iret S hr hlk hP hS (rfl) rfl dX4_ahead_67
set_option maxRecDepth 100000 in
set_option maxHeartbeats 4000000 in
theorem c_X4_ahead_ok5 (l : Launch) (D : va_G) (cI cJ : ClassId) (a : Nat → Nat) (f : Nat → Int32) (σ : Nat → Nat → Int32) (k : Nat) (t : Nat) (n : Nat) (hw : Wk f n) (d : Nat) (hd : f 1 = nI d) (hk : k < n) (ht : t ≤ 100) (hd2 : d + t ≤ 99999) : WR l yX4_ahead cX4_ahead 5 (some .int) 7 D cI cJ (MW cI a f σ) [.ref (a 0), .int (nI k), .int (nI 5), .int (nI t)] (some (.int (fi (sGo f n t) k 5))) (MW cI a f (va_up σ 3 f)) := by
  have h8 := hw.2.1
  refine WR.of (by decide) (Nat.le_of_ble_eq_true rfl) (fun p e s m below meth c ls A S hr hlk hK hP hD hS hA hl => ?_)
  obtain ⟨hx, hb, hml, hown, hU⟩ := id S
  have hl : lv_has ls 5 [(0, .ref (a 0)), (1, .int (nI k)), (2, .int (nI 5)), (3, .int (nI t))] := hl
  refine lv_aload_n hx hb dX4_ahead_0 rfl (lv_at hl 0 rfl) ?_
  refine lv_iload_n hx hb dX4_ahead_1 rfl (lv_at hl 1 rfl) ?_
  refine RO.callV S kv_X4_86 (c_X4_isCask l D cI cJ a f σ (nI k) n (hw.1)) hK hP rfl ⟨Nat.le_of_ble_eq_true rfl, Nat.le_of_ble_eq_true rfl⟩ hl.1 rfl rfl (Nat.le_of_ble_eq_true rfl) (Nat.zero_le _) (Nat.zero_le _) dX4_ahead_2 ?_
  refine q_if_eqB (tgt := 43) hx hb dX4_ahead_5 (by decide) (fun h => absurd (⟨nI_pos' (by omega), nI_lt (by omega) (by omega)⟩) h) (fun _ => ?_)
  refine lv_iload_n hx hb dX4_ahead_8 rfl (lv_at hl 2 rfl) ?_
  refine lv_iconst (v := nI 2) hx hb dX4_ahead_9 (by decide) ?_
  refine q_icmp_eqN (tgt := 27) (a := 5) (b := 2) hx hb dX4_ahead_10 (by decide) (by omega) (by omega) (fun h => absurd h (by omega)) (fun _ => ?_)
  refine lv_iload_n hx hb dX4_ahead_13 rfl (lv_at hl 2 rfl) ?_
  refine lv_i2l hx hb dX4_ahead_14 rfl ?_
  refine lv_ldc2 (v := 5) hx hb hown (hU _ mK_X4_144) dX4_ahead_15 ?_
  refine lv_ldc2 (v := 7) hx hb hown (hU _ mK_X4_146) dX4_ahead_18 ?_
  refine RO.callS S ks_X4_49 (c_X4_isIn l D cI cJ a f σ (nI 5) (nI 5) (nI 7)) hK hP ⟨Nat.le_of_ble_eq_true rfl, Nat.le_of_ble_eq_true rfl⟩ hl.1 rfl rfl (Nat.le_of_ble_eq_true rfl) (Nat.zero_le _) (Nat.zero_le _) dX4_ahead_21 ?_
  refine q_if_eqB (tgt := 43) hx hb dX4_ahead_24 (by decide) (fun h => absurd (⟨nI_le (by omega) (by omega), nI_le (by omega) (by omega)⟩) h) (fun _ => ?_)
  refine lv_iload_n hx hb dX4_ahead_27 rfl (lv_at hl 3 rfl) ?_
  refine lv_i2l hx hb dX4_ahead_28 rfl ?_
  refine lv_lconst (v := 0) hx hb dX4_ahead_29 (by decide) ?_
  refine lv_ldc2 (v := 100) hx hb hown (hU _ mK_X4_148) dX4_ahead_30 ?_
  refine RO.callS S ks_X4_49 (c_X4_isIn l D cI cJ a f σ (nI t) (nI 0) (nI 100)) hK hP ⟨Nat.le_of_ble_eq_true rfl, Nat.le_of_ble_eq_true rfl⟩ hl.1 rfl rfl (Nat.le_of_ble_eq_true rfl) (Nat.zero_le _) (Nat.zero_le _) dX4_ahead_33 ?_
  refine q_if_eqB (tgt := 43) hx hb dX4_ahead_36 (by decide) (fun h => absurd (⟨nI_le (by omega) (by omega), nI_le (by omega) (by omega)⟩) h) (fun _ => ?_)
  refine lv_iconst (v := nI 1) hx hb dX4_ahead_39 (by decide) ?_
  refine lv_goto (tgt := 44) hx hb dX4_ahead_40 (by decide) ?_
  refine lv_istore (lv' := [(4, .int (nI 1)), (0, .ref (a 0)), (1, .int (nI k)), (2, .int (nI 5)), (3, .int (nI t))]) hx hb dX4_ahead_44 hl (by decide) rfl (fun ls hl => ?_)
  refine lv_iload hx hb dX4_ahead_46 (lv_at hl 0 rfl) ?_
  refine q_if_eqN (tgt := 61) (a := 1) hx hb dX4_ahead_48 (by decide) (by omega) (fun h => absurd h (by omega)) (fun _ => ?_)
  refine lv_aload_n hx hb dX4_ahead_51 rfl (lv_at hl 1 rfl) ?_
  refine lv_iload_n hx hb dX4_ahead_52 rfl (lv_at hl 2 rfl) ?_
  refine lv_iload_n hx hb dX4_ahead_53 rfl (lv_at hl 3 rfl) ?_
  refine lv_iload_n hx hb dX4_ahead_54 rfl (lv_at hl 4 rfl) ?_
  refine WR.callV (w1 := MW cI a f (va_up σ 3 f)) S kv_X4_150 (c_X4_then_w5 l D cI cJ a f σ k t n (hw) d (hd) (by omega) (by omega)) hK hP hD hS hA ([]) ([]) rfl rfl rfl rfl ⟨Nat.le_of_ble_eq_true rfl, Nat.le_of_ble_eq_true rfl⟩ hl.1 rfl rfl (Nat.le_of_ble_eq_true rfl) (Nat.zero_le _) (Nat.zero_le _) dX4_ahead_55 (fun H locs hP hD hS => ?_)
  refine lv_goto (tgt := 67) hx hb dX4_ahead_58 (by decide) ?_
  exact WR.iret S hr hlk hP hS (rfl) rfl dX4_ahead_67
set_option maxRecDepth 100000 in
set_option maxHeartbeats 4000000 in
theorem c_X4_ahead_ok6 (l : Launch) (D : va_G) (cI cJ : ClassId) (a : Nat → Nat) (f : Nat → Int32) (σ : Nat → Nat → Int32) (k : Nat) (t : Nat) (n : Nat) (hw : Wk f n) (d : Nat) (hd : f 1 = nI d) (hk : k < n) (ht : t ≤ 100) (hd2 : d + t ≤ 99999) : WR l yX4_ahead cX4_ahead 5 (some .int) 7 D cI cJ (MW cI a f σ) [.ref (a 0), .int (nI k), .int (nI 6), .int (nI t)] (some (.int (fi (sGo f n t) k 6))) (MW cI a f (va_up σ 3 f)) := by
  have h8 := hw.2.1
  refine WR.of (by decide) (Nat.le_of_ble_eq_true rfl) (fun p e s m below meth c ls A S hr hlk hK hP hD hS hA hl => ?_)
  obtain ⟨hx, hb, hml, hown, hU⟩ := id S
  have hl : lv_has ls 5 [(0, .ref (a 0)), (1, .int (nI k)), (2, .int (nI 6)), (3, .int (nI t))] := hl
  refine lv_aload_n hx hb dX4_ahead_0 rfl (lv_at hl 0 rfl) ?_
  refine lv_iload_n hx hb dX4_ahead_1 rfl (lv_at hl 1 rfl) ?_
  refine RO.callV S kv_X4_86 (c_X4_isCask l D cI cJ a f σ (nI k) n (hw.1)) hK hP rfl ⟨Nat.le_of_ble_eq_true rfl, Nat.le_of_ble_eq_true rfl⟩ hl.1 rfl rfl (Nat.le_of_ble_eq_true rfl) (Nat.zero_le _) (Nat.zero_le _) dX4_ahead_2 ?_
  refine q_if_eqB (tgt := 43) hx hb dX4_ahead_5 (by decide) (fun h => absurd (⟨nI_pos' (by omega), nI_lt (by omega) (by omega)⟩) h) (fun _ => ?_)
  refine lv_iload_n hx hb dX4_ahead_8 rfl (lv_at hl 2 rfl) ?_
  refine lv_iconst (v := nI 2) hx hb dX4_ahead_9 (by decide) ?_
  refine q_icmp_eqN (tgt := 27) (a := 6) (b := 2) hx hb dX4_ahead_10 (by decide) (by omega) (by omega) (fun h => absurd h (by omega)) (fun _ => ?_)
  refine lv_iload_n hx hb dX4_ahead_13 rfl (lv_at hl 2 rfl) ?_
  refine lv_i2l hx hb dX4_ahead_14 rfl ?_
  refine lv_ldc2 (v := 5) hx hb hown (hU _ mK_X4_144) dX4_ahead_15 ?_
  refine lv_ldc2 (v := 7) hx hb hown (hU _ mK_X4_146) dX4_ahead_18 ?_
  refine RO.callS S ks_X4_49 (c_X4_isIn l D cI cJ a f σ (nI 6) (nI 5) (nI 7)) hK hP ⟨Nat.le_of_ble_eq_true rfl, Nat.le_of_ble_eq_true rfl⟩ hl.1 rfl rfl (Nat.le_of_ble_eq_true rfl) (Nat.zero_le _) (Nat.zero_le _) dX4_ahead_21 ?_
  refine q_if_eqB (tgt := 43) hx hb dX4_ahead_24 (by decide) (fun h => absurd (⟨nI_le (by omega) (by omega), nI_le (by omega) (by omega)⟩) h) (fun _ => ?_)
  refine lv_iload_n hx hb dX4_ahead_27 rfl (lv_at hl 3 rfl) ?_
  refine lv_i2l hx hb dX4_ahead_28 rfl ?_
  refine lv_lconst (v := 0) hx hb dX4_ahead_29 (by decide) ?_
  refine lv_ldc2 (v := 100) hx hb hown (hU _ mK_X4_148) dX4_ahead_30 ?_
  refine RO.callS S ks_X4_49 (c_X4_isIn l D cI cJ a f σ (nI t) (nI 0) (nI 100)) hK hP ⟨Nat.le_of_ble_eq_true rfl, Nat.le_of_ble_eq_true rfl⟩ hl.1 rfl rfl (Nat.le_of_ble_eq_true rfl) (Nat.zero_le _) (Nat.zero_le _) dX4_ahead_33 ?_
  refine q_if_eqB (tgt := 43) hx hb dX4_ahead_36 (by decide) (fun h => absurd (⟨nI_le (by omega) (by omega), nI_le (by omega) (by omega)⟩) h) (fun _ => ?_)
  refine lv_iconst (v := nI 1) hx hb dX4_ahead_39 (by decide) ?_
  refine lv_goto (tgt := 44) hx hb dX4_ahead_40 (by decide) ?_
  refine lv_istore (lv' := [(4, .int (nI 1)), (0, .ref (a 0)), (1, .int (nI k)), (2, .int (nI 6)), (3, .int (nI t))]) hx hb dX4_ahead_44 hl (by decide) rfl (fun ls hl => ?_)
  refine lv_iload hx hb dX4_ahead_46 (lv_at hl 0 rfl) ?_
  refine q_if_eqN (tgt := 61) (a := 1) hx hb dX4_ahead_48 (by decide) (by omega) (fun h => absurd h (by omega)) (fun _ => ?_)
  refine lv_aload_n hx hb dX4_ahead_51 rfl (lv_at hl 1 rfl) ?_
  refine lv_iload_n hx hb dX4_ahead_52 rfl (lv_at hl 2 rfl) ?_
  refine lv_iload_n hx hb dX4_ahead_53 rfl (lv_at hl 3 rfl) ?_
  refine lv_iload_n hx hb dX4_ahead_54 rfl (lv_at hl 4 rfl) ?_
  refine WR.callV (w1 := MW cI a f (va_up σ 3 f)) S kv_X4_150 (c_X4_then_w6 l D cI cJ a f σ k t n (hw) d (hd) (by omega) (by omega)) hK hP hD hS hA ([]) ([]) rfl rfl rfl rfl ⟨Nat.le_of_ble_eq_true rfl, Nat.le_of_ble_eq_true rfl⟩ hl.1 rfl rfl (Nat.le_of_ble_eq_true rfl) (Nat.zero_le _) (Nat.zero_le _) dX4_ahead_55 (fun H locs hP hD hS => ?_)
  refine lv_goto (tgt := 67) hx hb dX4_ahead_58 (by decide) ?_
  exact WR.iret S hr hlk hP hS (rfl) rfl dX4_ahead_67
set_option maxRecDepth 100000 in
set_option maxHeartbeats 4000000 in
theorem c_X4_ahead_ok7 (l : Launch) (D : va_G) (cI cJ : ClassId) (a : Nat → Nat) (f : Nat → Int32) (σ : Nat → Nat → Int32) (k : Nat) (t : Nat) (n : Nat) (hw : Wk f n) (d : Nat) (hd : f 1 = nI d) (hk : k < n) (ht : t ≤ 100) (hd2 : d + t ≤ 99999) : WR l yX4_ahead cX4_ahead 5 (some .int) 7 D cI cJ (MW cI a f σ) [.ref (a 0), .int (nI k), .int (nI 7), .int (nI t)] (some (.int (sLd (sGo f n t) n k))) (MW cI a f (va_up σ 3 f)) := by
  have h8 := hw.2.1
  refine WR.of (by decide) (Nat.le_of_ble_eq_true rfl) (fun p e s m below meth c ls A S hr hlk hK hP hD hS hA hl => ?_)
  obtain ⟨hx, hb, hml, hown, hU⟩ := id S
  have hl : lv_has ls 5 [(0, .ref (a 0)), (1, .int (nI k)), (2, .int (nI 7)), (3, .int (nI t))] := hl
  refine lv_aload_n hx hb dX4_ahead_0 rfl (lv_at hl 0 rfl) ?_
  refine lv_iload_n hx hb dX4_ahead_1 rfl (lv_at hl 1 rfl) ?_
  refine RO.callV S kv_X4_86 (c_X4_isCask l D cI cJ a f σ (nI k) n (hw.1)) hK hP rfl ⟨Nat.le_of_ble_eq_true rfl, Nat.le_of_ble_eq_true rfl⟩ hl.1 rfl rfl (Nat.le_of_ble_eq_true rfl) (Nat.zero_le _) (Nat.zero_le _) dX4_ahead_2 ?_
  refine q_if_eqB (tgt := 43) hx hb dX4_ahead_5 (by decide) (fun h => absurd (⟨nI_pos' (by omega), nI_lt (by omega) (by omega)⟩) h) (fun _ => ?_)
  refine lv_iload_n hx hb dX4_ahead_8 rfl (lv_at hl 2 rfl) ?_
  refine lv_iconst (v := nI 2) hx hb dX4_ahead_9 (by decide) ?_
  refine q_icmp_eqN (tgt := 27) (a := 7) (b := 2) hx hb dX4_ahead_10 (by decide) (by omega) (by omega) (fun h => absurd h (by omega)) (fun _ => ?_)
  refine lv_iload_n hx hb dX4_ahead_13 rfl (lv_at hl 2 rfl) ?_
  refine lv_i2l hx hb dX4_ahead_14 rfl ?_
  refine lv_ldc2 (v := 5) hx hb hown (hU _ mK_X4_144) dX4_ahead_15 ?_
  refine lv_ldc2 (v := 7) hx hb hown (hU _ mK_X4_146) dX4_ahead_18 ?_
  refine RO.callS S ks_X4_49 (c_X4_isIn l D cI cJ a f σ (nI 7) (nI 5) (nI 7)) hK hP ⟨Nat.le_of_ble_eq_true rfl, Nat.le_of_ble_eq_true rfl⟩ hl.1 rfl rfl (Nat.le_of_ble_eq_true rfl) (Nat.zero_le _) (Nat.zero_le _) dX4_ahead_21 ?_
  refine q_if_eqB (tgt := 43) hx hb dX4_ahead_24 (by decide) (fun h => absurd (⟨nI_le (by omega) (by omega), nI_le (by omega) (by omega)⟩) h) (fun _ => ?_)
  refine lv_iload_n hx hb dX4_ahead_27 rfl (lv_at hl 3 rfl) ?_
  refine lv_i2l hx hb dX4_ahead_28 rfl ?_
  refine lv_lconst (v := 0) hx hb dX4_ahead_29 (by decide) ?_
  refine lv_ldc2 (v := 100) hx hb hown (hU _ mK_X4_148) dX4_ahead_30 ?_
  refine RO.callS S ks_X4_49 (c_X4_isIn l D cI cJ a f σ (nI t) (nI 0) (nI 100)) hK hP ⟨Nat.le_of_ble_eq_true rfl, Nat.le_of_ble_eq_true rfl⟩ hl.1 rfl rfl (Nat.le_of_ble_eq_true rfl) (Nat.zero_le _) (Nat.zero_le _) dX4_ahead_33 ?_
  refine q_if_eqB (tgt := 43) hx hb dX4_ahead_36 (by decide) (fun h => absurd (⟨nI_le (by omega) (by omega), nI_le (by omega) (by omega)⟩) h) (fun _ => ?_)
  refine lv_iconst (v := nI 1) hx hb dX4_ahead_39 (by decide) ?_
  refine lv_goto (tgt := 44) hx hb dX4_ahead_40 (by decide) ?_
  refine lv_istore (lv' := [(4, .int (nI 1)), (0, .ref (a 0)), (1, .int (nI k)), (2, .int (nI 7)), (3, .int (nI t))]) hx hb dX4_ahead_44 hl (by decide) rfl (fun ls hl => ?_)
  refine lv_iload hx hb dX4_ahead_46 (lv_at hl 0 rfl) ?_
  refine q_if_eqN (tgt := 61) (a := 1) hx hb dX4_ahead_48 (by decide) (by omega) (fun h => absurd h (by omega)) (fun _ => ?_)
  refine lv_aload_n hx hb dX4_ahead_51 rfl (lv_at hl 1 rfl) ?_
  refine lv_iload_n hx hb dX4_ahead_52 rfl (lv_at hl 2 rfl) ?_
  refine lv_iload_n hx hb dX4_ahead_53 rfl (lv_at hl 3 rfl) ?_
  refine lv_iload_n hx hb dX4_ahead_54 rfl (lv_at hl 4 rfl) ?_
  refine WR.callV (w1 := MW cI a f (va_up σ 3 f)) S kv_X4_150 (c_X4_then_w7 l D cI cJ a f σ k t n (hw) d (hd) (by omega) (by omega)) hK hP hD hS hA ([]) ([]) rfl rfl rfl rfl ⟨Nat.le_of_ble_eq_true rfl, Nat.le_of_ble_eq_true rfl⟩ hl.1 rfl rfl (Nat.le_of_ble_eq_true rfl) (Nat.zero_le _) (Nat.zero_le _) dX4_ahead_55 (fun H locs hP hD hS => ?_)
  refine lv_goto (tgt := 67) hx hb dX4_ahead_58 (by decide) ?_
  exact WR.iret S hr hlk hP hS (rfl) rfl dX4_ahead_67
set_option maxRecDepth 100000 in
set_option maxHeartbeats 4000000 in
theorem c_X4_ahead_bad (l : Launch) (D : va_G) (cI cJ : ClassId) (a : Nat → Nat) (f : Nat → Int32) (σ : Nat → Nat → Int32) (x : Int32) (y : Int32) (z : Int32) (n : Nat) (hw : Wk f n) (hb0 : ¬ ((0 ≤ x ∧ x < nI n) ∧ (y = nI 2 ∨ (nI 5 ≤ y ∧ y ≤ nI 7)) ∧ (nI 0 ≤ z ∧ z ≤ nI 100))) : WR l yX4_ahead cX4_ahead 5 (some .int) 7 D cI cJ (MW cI a f σ) [.ref (a 0), .int x, .int y, .int z] (some (.int (-1000001))) (MW cI a f (va_up σ 4 (mFi (σ 4) 0))) := by
  refine WR.of (by decide) (Nat.le_of_ble_eq_true rfl) (fun p e s m below meth c ls A S hr hlk hK hP hD hS hA hl => ?_)
  obtain ⟨hx, hb, hml, hown, hU⟩ := id S
  have hl : lv_has ls 5 [(0, .ref (a 0)), (1, .int x), (2, .int y), (3, .int z)] := hl
  refine lv_aload_n hx hb dX4_ahead_0 rfl (lv_at hl 0 rfl) ?_
  refine lv_iload_n hx hb dX4_ahead_1 rfl (lv_at hl 1 rfl) ?_
  refine RO.callV S kv_X4_86 (c_X4_isCask l D cI cJ a f σ x n (hw.1)) hK hP rfl ⟨Nat.le_of_ble_eq_true rfl, Nat.le_of_ble_eq_true rfl⟩ hl.1 rfl rfl (Nat.le_of_ble_eq_true rfl) (Nat.zero_le _) (Nat.zero_le _) dX4_ahead_2 ?_
  refine q_if_eqB (tgt := 43) hx hb dX4_ahead_5 (by decide) (fun c_5 => ?_) (fun c_5 => ?_)
  · refine lv_iconst (v := nI 0) hx hb dX4_ahead_43 (by decide) ?_
    refine lv_istore (lv' := [(4, .int (nI 0)), (0, .ref (a 0)), (1, .int x), (2, .int y), (3, .int z)]) hx hb dX4_ahead_44 hl (by decide) rfl (fun ls hl => ?_)
    refine lv_iload hx hb dX4_ahead_46 (lv_at hl 0 rfl) ?_
    refine q_if_eqN (tgt := 61) (a := 0) hx hb dX4_ahead_48 (by decide) (by omega) (fun _ => ?_) (fun h => absurd h (by omega))
    refine lv_aload_n hx hb dX4_ahead_61 rfl (lv_at hl 1 rfl) ?_
    refine lv_ldc (v := (-1000001)) hx hb hown (hU _ mK_X4_37) dX4_ahead_62 ?_
    refine WR.callV (w1 := MW cI a f (va_up σ 4 (mFi (σ 4) 0))) S kv_X4_39 (c_X4_fd0 l D cI cJ a f σ) hK hP hD hS hA ([]) ([]) rfl rfl rfl rfl ⟨Nat.le_of_ble_eq_true rfl, Nat.le_of_ble_eq_true rfl⟩ hl.1 rfl rfl (Nat.le_of_ble_eq_true rfl) (Nat.zero_le _) (Nat.zero_le _) dX4_ahead_64 (fun H locs hP hD hS => ?_)
    exact WR.iret S hr hlk hP hS (rfl) rfl dX4_ahead_67
  · refine lv_iload_n hx hb dX4_ahead_8 rfl (lv_at hl 2 rfl) ?_
    refine lv_iconst (v := nI 2) hx hb dX4_ahead_9 (by decide) ?_
    refine lv_icmp_eq (tgt := 27) hx hb dX4_ahead_10 (by decide) (fun c_10 => ?_) (fun c_10 => ?_)
    · refine lv_iload_n hx hb dX4_ahead_27 rfl (lv_at hl 3 rfl) ?_
      refine lv_i2l hx hb dX4_ahead_28 rfl ?_
      refine lv_lconst (v := 0) hx hb dX4_ahead_29 (by decide) ?_
      refine lv_ldc2 (v := 100) hx hb hown (hU _ mK_X4_148) dX4_ahead_30 ?_
      refine RO.callS S ks_X4_49 (c_X4_isIn l D cI cJ a f σ z (nI 0) (nI 100)) hK hP ⟨Nat.le_of_ble_eq_true rfl, Nat.le_of_ble_eq_true rfl⟩ hl.1 rfl rfl (Nat.le_of_ble_eq_true rfl) (Nat.zero_le _) (Nat.zero_le _) dX4_ahead_33 ?_
      refine q_if_eqB (tgt := 43) hx hb dX4_ahead_36 (by decide) (fun c_36 => ?_) (fun c_36 => ?_)
      · refine lv_iconst (v := nI 0) hx hb dX4_ahead_43 (by decide) ?_
        refine lv_istore (lv' := [(4, .int (nI 0)), (0, .ref (a 0)), (1, .int x), (2, .int y), (3, .int z)]) hx hb dX4_ahead_44 hl (by decide) rfl (fun ls hl => ?_)
        refine lv_iload hx hb dX4_ahead_46 (lv_at hl 0 rfl) ?_
        refine q_if_eqN (tgt := 61) (a := 0) hx hb dX4_ahead_48 (by decide) (by omega) (fun _ => ?_) (fun h => absurd h (by omega))
        refine lv_aload_n hx hb dX4_ahead_61 rfl (lv_at hl 1 rfl) ?_
        refine lv_ldc (v := (-1000001)) hx hb hown (hU _ mK_X4_37) dX4_ahead_62 ?_
        refine WR.callV (w1 := MW cI a f (va_up σ 4 (mFi (σ 4) 0))) S kv_X4_39 (c_X4_fd0 l D cI cJ a f σ) hK hP hD hS hA ([]) ([]) rfl rfl rfl rfl ⟨Nat.le_of_ble_eq_true rfl, Nat.le_of_ble_eq_true rfl⟩ hl.1 rfl rfl (Nat.le_of_ble_eq_true rfl) (Nat.zero_le _) (Nat.zero_le _) dX4_ahead_64 (fun H locs hP hD hS => ?_)
        exact WR.iret S hr hlk hP hS (rfl) rfl dX4_ahead_67
      · exact absurd (⟨c_5, Or.inl c_10, c_36⟩) hb0
    · refine lv_iload_n hx hb dX4_ahead_13 rfl (lv_at hl 2 rfl) ?_
      refine lv_i2l hx hb dX4_ahead_14 rfl ?_
      refine lv_ldc2 (v := 5) hx hb hown (hU _ mK_X4_144) dX4_ahead_15 ?_
      refine lv_ldc2 (v := 7) hx hb hown (hU _ mK_X4_146) dX4_ahead_18 ?_
      refine RO.callS S ks_X4_49 (c_X4_isIn l D cI cJ a f σ y (nI 5) (nI 7)) hK hP ⟨Nat.le_of_ble_eq_true rfl, Nat.le_of_ble_eq_true rfl⟩ hl.1 rfl rfl (Nat.le_of_ble_eq_true rfl) (Nat.zero_le _) (Nat.zero_le _) dX4_ahead_21 ?_
      refine q_if_eqB (tgt := 43) hx hb dX4_ahead_24 (by decide) (fun c_24 => ?_) (fun c_24 => ?_)
      · refine lv_iconst (v := nI 0) hx hb dX4_ahead_43 (by decide) ?_
        refine lv_istore (lv' := [(4, .int (nI 0)), (0, .ref (a 0)), (1, .int x), (2, .int y), (3, .int z)]) hx hb dX4_ahead_44 hl (by decide) rfl (fun ls hl => ?_)
        refine lv_iload hx hb dX4_ahead_46 (lv_at hl 0 rfl) ?_
        refine q_if_eqN (tgt := 61) (a := 0) hx hb dX4_ahead_48 (by decide) (by omega) (fun _ => ?_) (fun h => absurd h (by omega))
        refine lv_aload_n hx hb dX4_ahead_61 rfl (lv_at hl 1 rfl) ?_
        refine lv_ldc (v := (-1000001)) hx hb hown (hU _ mK_X4_37) dX4_ahead_62 ?_
        refine WR.callV (w1 := MW cI a f (va_up σ 4 (mFi (σ 4) 0))) S kv_X4_39 (c_X4_fd0 l D cI cJ a f σ) hK hP hD hS hA ([]) ([]) rfl rfl rfl rfl ⟨Nat.le_of_ble_eq_true rfl, Nat.le_of_ble_eq_true rfl⟩ hl.1 rfl rfl (Nat.le_of_ble_eq_true rfl) (Nat.zero_le _) (Nat.zero_le _) dX4_ahead_64 (fun H locs hP hD hS => ?_)
        exact WR.iret S hr hlk hP hS (rfl) rfl dX4_ahead_67
      · refine lv_iload_n hx hb dX4_ahead_27 rfl (lv_at hl 3 rfl) ?_
        refine lv_i2l hx hb dX4_ahead_28 rfl ?_
        refine lv_lconst (v := 0) hx hb dX4_ahead_29 (by decide) ?_
        refine lv_ldc2 (v := 100) hx hb hown (hU _ mK_X4_148) dX4_ahead_30 ?_
        refine RO.callS S ks_X4_49 (c_X4_isIn l D cI cJ a f σ z (nI 0) (nI 100)) hK hP ⟨Nat.le_of_ble_eq_true rfl, Nat.le_of_ble_eq_true rfl⟩ hl.1 rfl rfl (Nat.le_of_ble_eq_true rfl) (Nat.zero_le _) (Nat.zero_le _) dX4_ahead_33 ?_
        refine q_if_eqB (tgt := 43) hx hb dX4_ahead_36 (by decide) (fun c_36 => ?_) (fun c_36 => ?_)
        · refine lv_iconst (v := nI 0) hx hb dX4_ahead_43 (by decide) ?_
          refine lv_istore (lv' := [(4, .int (nI 0)), (0, .ref (a 0)), (1, .int x), (2, .int y), (3, .int z)]) hx hb dX4_ahead_44 hl (by decide) rfl (fun ls hl => ?_)
          refine lv_iload hx hb dX4_ahead_46 (lv_at hl 0 rfl) ?_
          refine q_if_eqN (tgt := 61) (a := 0) hx hb dX4_ahead_48 (by decide) (by omega) (fun _ => ?_) (fun h => absurd h (by omega))
          refine lv_aload_n hx hb dX4_ahead_61 rfl (lv_at hl 1 rfl) ?_
          refine lv_ldc (v := (-1000001)) hx hb hown (hU _ mK_X4_37) dX4_ahead_62 ?_
          refine WR.callV (w1 := MW cI a f (va_up σ 4 (mFi (σ 4) 0))) S kv_X4_39 (c_X4_fd0 l D cI cJ a f σ) hK hP hD hS hA ([]) ([]) rfl rfl rfl rfl ⟨Nat.le_of_ble_eq_true rfl, Nat.le_of_ble_eq_true rfl⟩ hl.1 rfl rfl (Nat.le_of_ble_eq_true rfl) (Nat.zero_le _) (Nat.zero_le _) dX4_ahead_64 (fun H locs hP hD hS => ?_)
          exact WR.iret S hr hlk hP hS (rfl) rfl dX4_ahead_67
        · exact absurd (⟨c_5, Or.inr c_24, c_36⟩) hb0
set_option maxRecDepth 100000 in
set_option maxHeartbeats 4000000 in
theorem c_X4_claps_ok (l : Launch) (D : va_G) (cI cJ : ClassId) (a : Nat → Nat) (f : Nat → Int32) (σ : Nat → Nat → Int32) (t : Nat) (n : Nat) (hw : Wk f n) (d : Nat) (hd : f 1 = nI d) (ht : t ≤ 100) (hd2 : d + t ≤ 99999) : WR l yX4_claps cX4_claps 2 (some .int) 7 D cI cJ (MW cI a f σ) [.ref (a 0), .int (nI t)] (some (.int (sGo f n t 3))) (MW cI a f (va_up σ 3 f)) := by
  refine WR.of (by decide) (Nat.le_of_ble_eq_true rfl) (fun p e s m below meth c ls A S hr hlk hK hP hD hS hA hl => ?_)
  obtain ⟨hx, hb, hml, hown, hU⟩ := id S
  have hl : lv_has ls 2 [(0, .ref (a 0)), (1, .int (nI t))] := hl
  refine lv_iload_n hx hb dX4_claps_0 rfl (lv_at hl 1 rfl) ?_
  refine lv_i2l hx hb dX4_claps_1 rfl ?_
  refine lv_lconst (v := 0) hx hb dX4_claps_2 (by decide) ?_
  refine lv_ldc2 (v := 100) hx hb hown (hU _ mK_X4_148) dX4_claps_3 ?_
  refine RO.callS S ks_X4_49 (c_X4_isIn l D cI cJ a f σ (nI t) (nI 0) (nI 100)) hK hP ⟨Nat.le_of_ble_eq_true rfl, Nat.le_of_ble_eq_true rfl⟩ hl.1 rfl rfl (Nat.le_of_ble_eq_true rfl) (Nat.zero_le _) (Nat.zero_le _) dX4_claps_6 ?_
  refine q_if_eqB (tgt := 20) hx hb dX4_claps_9 (by decide) (fun h => absurd (⟨nI_le (by omega) (by omega), nI_le (by omega) (by omega)⟩) h) (fun _ => ?_)
  refine lv_aload_n hx hb dX4_claps_12 rfl (lv_at hl 0 rfl) ?_
  refine lv_iload_n hx hb dX4_claps_13 rfl (lv_at hl 1 rfl) ?_
  refine WR.callV (w1 := MW cI a f (va_up σ 3 f)) S kv_X4_154 (c_X4_clapsThen l D cI cJ a f σ t n (hw) d (hd) (by omega)) hK hP hD hS hA ([]) ([]) rfl rfl rfl rfl ⟨Nat.le_of_ble_eq_true rfl, Nat.le_of_ble_eq_true rfl⟩ hl.1 rfl rfl (Nat.le_of_ble_eq_true rfl) (Nat.zero_le _) (Nat.zero_le _) dX4_claps_14 (fun H locs hP hD hS => ?_)
  refine lv_goto (tgt := 26) hx hb dX4_claps_17 (by decide) ?_
  exact WR.iret S hr hlk hP hS (rfl) rfl dX4_claps_26
set_option maxRecDepth 100000 in
set_option maxHeartbeats 4000000 in
theorem c_X4_claps_bad (l : Launch) (D : va_G) (cI cJ : ClassId) (a : Nat → Nat) (f : Nat → Int32) (σ : Nat → Nat → Int32) (x : Int32) (hb0 : ¬ ((nI 0 ≤ x ∧ x ≤ nI 100))) : WR l yX4_claps cX4_claps 2 (some .int) 7 D cI cJ (MW cI a f σ) [.ref (a 0), .int x] (some (.int (-1000001))) (MW cI a f (va_up σ 4 (mFi (σ 4) 0))) := by
  refine WR.of (by decide) (Nat.le_of_ble_eq_true rfl) (fun p e s m below meth c ls A S hr hlk hK hP hD hS hA hl => ?_)
  obtain ⟨hx, hb, hml, hown, hU⟩ := id S
  have hl : lv_has ls 2 [(0, .ref (a 0)), (1, .int x)] := hl
  refine lv_iload_n hx hb dX4_claps_0 rfl (lv_at hl 1 rfl) ?_
  refine lv_i2l hx hb dX4_claps_1 rfl ?_
  refine lv_lconst (v := 0) hx hb dX4_claps_2 (by decide) ?_
  refine lv_ldc2 (v := 100) hx hb hown (hU _ mK_X4_148) dX4_claps_3 ?_
  refine RO.callS S ks_X4_49 (c_X4_isIn l D cI cJ a f σ x (nI 0) (nI 100)) hK hP ⟨Nat.le_of_ble_eq_true rfl, Nat.le_of_ble_eq_true rfl⟩ hl.1 rfl rfl (Nat.le_of_ble_eq_true rfl) (Nat.zero_le _) (Nat.zero_le _) dX4_claps_6 ?_
  refine q_if_eqB (tgt := 20) hx hb dX4_claps_9 (by decide) (fun c_9 => ?_) (fun c_9 => ?_)
  · refine lv_aload_n hx hb dX4_claps_20 rfl (lv_at hl 0 rfl) ?_
    refine lv_ldc (v := (-1000001)) hx hb hown (hU _ mK_X4_37) dX4_claps_21 ?_
    refine WR.callV (w1 := MW cI a f (va_up σ 4 (mFi (σ 4) 0))) S kv_X4_39 (c_X4_fd0 l D cI cJ a f σ) hK hP hD hS hA ([]) ([]) rfl rfl rfl rfl ⟨Nat.le_of_ble_eq_true rfl, Nat.le_of_ble_eq_true rfl⟩ hl.1 rfl rfl (Nat.le_of_ble_eq_true rfl) (Nat.zero_le _) (Nat.zero_le _) dX4_claps_23 (fun H locs hP hD hS => ?_)
    exact WR.iret S hr hlk hP hS (rfl) rfl dX4_claps_26
  · exact absurd (c_9) hb0
set_option maxRecDepth 100000 in
set_option maxHeartbeats 4000000 in
theorem c_X4_sumOf_2 (l : Launch) (D : va_G) (cI cJ : ClassId) (a : Nat → Nat) (f : Nat → Int32) (σ : Nat → Nat → Int32) (n : Nat) (hw : Wk f n) : RO l yX4_sumOf cX4_sumOf 4 (some .int) 3 D cI cJ (MW cI a f σ) [.ref (a 0), .int (nI 2)] (.int (sSm f 2 n)) := by
  have h8 := hw.2.1
  refine RO.of (by decide) (Nat.le_of_ble_eq_true rfl) (fun p e s m below meth c ls S hr hlk hK hP hl => ?_)
  obtain ⟨hx, hb, hml, hown, hU⟩ := id S
  have hl : lv_has ls 4 [(0, .ref (a 0)), (1, .int (nI 2))] := hl
  refine lv_iconst (v := nI 0) hx hb dX4_sumOf_0 (by decide) ?_
  refine lv_istore_n (lv' := [(2, .int (nI 0)), (0, .ref (a 0)), (1, .int (nI 2))]) hx hb dX4_sumOf_1 rfl hl (by decide) rfl (fun ls hl => ?_)
  refine lv_iconst (v := nI 0) hx hb dX4_sumOf_2 (by decide) ?_
  refine lv_istore_n (lv' := [(3, .int (nI 0)), (2, .int (nI 0)), (0, .ref (a 0)), (1, .int (nI 2))]) hx hb dX4_sumOf_3 rfl hl (by decide) rfl (fun ls hl => ?_)
  have L_4 : ∀ (n9 : Nat) (j : Nat) (ls : Array Slot), n - j < n9 → j ≤ n → lv_has ls 4 [(0, .ref (a 0)), (1, .int (nI 2)), (2, .int (sSm f 2 j)), (3, .int (nI j))] → W p l e (rmd 3) s m ([.ref (a 0), .int (nI 2)] : List Value).toArray below meth c s.heap [] 0 0 (ZR below ([.ref (a 0), .int (nI 2)] : List Value).toArray s (.int (sSm f 2 n))) (F0 m 4 ls []) := by
    intro n9
    induction n9 with
    | zero => intro j ls hm; exact absurd hm (Nat.not_lt_zero _)
    | succ n9 ih_4 =>
      intro j ls hm hj hl
      refine lv_iload_n hx hb dX4_sumOf_4 rfl (lv_at hl 3 rfl) ?_
      refine lv_aload_n hx hb dX4_sumOf_5 rfl (lv_at hl 0 rfl) ?_
      refine g4_s S hK hP dX4_sumOf_6 ?_
      refine lv_iconst (v := nI 0) hx hb dX4_sumOf_9 (by decide) ?_
      refine l4_s S hK hP (j := 0) (by omega) dX4_sumOf_10 ?_
      refine q_eqi (y := nI n) (hw.1) ?_
      refine q_icmp_geN (tgt := 43) (a := j) (b := n) hx hb dX4_sumOf_11 (by decide) (by omega) (by omega) (fun c_11 => ?_) (fun c_11 => ?_)
      · refine lv_iload_n hx hb dX4_sumOf_43 rfl (lv_at hl 2 rfl) ?_
        exact RO.iret S hr hlk (congrArg Value.int (by rw [show j = n by omega])) dX4_sumOf_44
      · refine lv_iload_n hx hb dX4_sumOf_14 rfl (lv_at hl 2 rfl) ?_
        refine lv_iload_n hx hb dX4_sumOf_15 rfl (lv_at hl 1 rfl) ?_
        refine lv_bipush (v := nI 7) hx hb dX4_sumOf_16 (by decide) ?_
        refine q_icmp_neN (tgt := 29) (a := 2) (b := 7) hx hb dX4_sumOf_18 (by decide) (by omega) (by omega) (fun _ => ?_) (fun h => absurd h (by omega))
        refine lv_aload_n hx hb dX4_sumOf_29 rfl (lv_at hl 0 rfl) ?_
        refine lv_iload_n hx hb dX4_sumOf_30 rfl (lv_at hl 3 rfl) ?_
        refine lv_iload_n hx hb dX4_sumOf_31 rfl (lv_at hl 1 rfl) ?_
        refine RO.callV S kv_X4_57 (c_X4_its l D cI cJ a f σ j 2 (by omega)) hK hP rfl ⟨Nat.le_of_ble_eq_true rfl, Nat.le_of_ble_eq_true rfl⟩ hl.1 rfl rfl (Nat.le_of_ble_eq_true rfl) (Nat.zero_le _) (Nat.zero_le _) dX4_sumOf_32 ?_
        refine lv_iadd hx hb dX4_sumOf_35 ?_
        refine lv_istore_n (lv' := [(2, .int ((sSm f 2 j) + (fi f j 2))), (0, .ref (a 0)), (1, .int (nI 2)), (3, .int (nI j))]) hx hb dX4_sumOf_36 rfl hl (by decide) rfl (fun ls hl => ?_)
        refine lv_iinc (v := nI (j + 1)) (lv' := [(3, .int (nI (j + 1))), (2, .int ((sSm f 2 j) + (fi f j 2))), (0, .ref (a 0)), (1, .int (nI 2))]) hx hb dX4_sumOf_37 hl (k := 3) rfl (q_inc _) (by decide) rfl (fun ls hl => ?_)
        refine lv_goto (tgt := 4) hx hb dX4_sumOf_40 (by decide) ?_
        exact ih_4 (j + 1) ls (by omega) (by omega) (by rw [show sSm f 2 (j + 1) = (sSm f 2 j) + (fi f j 2) from rfl]; exact lv_sub hl [2, 3, 1, 0] rfl)
  exact L_4 ((n - 0) + 1) 0 ls (Nat.lt_succ_self _) (Nat.zero_le n) (by rw [show sSm f 2 0 = nI 0 from rfl]; exact lv_sub hl [2, 3, 1, 0] rfl)
set_option maxRecDepth 100000 in
set_option maxHeartbeats 4000000 in
theorem c_X4_sumOf_6 (l : Launch) (D : va_G) (cI cJ : ClassId) (a : Nat → Nat) (f : Nat → Int32) (σ : Nat → Nat → Int32) (n : Nat) (hw : Wk f n) : RO l yX4_sumOf cX4_sumOf 4 (some .int) 3 D cI cJ (MW cI a f σ) [.ref (a 0), .int (nI 6)] (.int (sSm f 6 n)) := by
  have h8 := hw.2.1
  refine RO.of (by decide) (Nat.le_of_ble_eq_true rfl) (fun p e s m below meth c ls S hr hlk hK hP hl => ?_)
  obtain ⟨hx, hb, hml, hown, hU⟩ := id S
  have hl : lv_has ls 4 [(0, .ref (a 0)), (1, .int (nI 6))] := hl
  refine lv_iconst (v := nI 0) hx hb dX4_sumOf_0 (by decide) ?_
  refine lv_istore_n (lv' := [(2, .int (nI 0)), (0, .ref (a 0)), (1, .int (nI 6))]) hx hb dX4_sumOf_1 rfl hl (by decide) rfl (fun ls hl => ?_)
  refine lv_iconst (v := nI 0) hx hb dX4_sumOf_2 (by decide) ?_
  refine lv_istore_n (lv' := [(3, .int (nI 0)), (2, .int (nI 0)), (0, .ref (a 0)), (1, .int (nI 6))]) hx hb dX4_sumOf_3 rfl hl (by decide) rfl (fun ls hl => ?_)
  have L_4 : ∀ (n9 : Nat) (j : Nat) (ls : Array Slot), n - j < n9 → j ≤ n → lv_has ls 4 [(0, .ref (a 0)), (1, .int (nI 6)), (2, .int (sSm f 6 j)), (3, .int (nI j))] → W p l e (rmd 3) s m ([.ref (a 0), .int (nI 6)] : List Value).toArray below meth c s.heap [] 0 0 (ZR below ([.ref (a 0), .int (nI 6)] : List Value).toArray s (.int (sSm f 6 n))) (F0 m 4 ls []) := by
    intro n9
    induction n9 with
    | zero => intro j ls hm; exact absurd hm (Nat.not_lt_zero _)
    | succ n9 ih_4 =>
      intro j ls hm hj hl
      refine lv_iload_n hx hb dX4_sumOf_4 rfl (lv_at hl 3 rfl) ?_
      refine lv_aload_n hx hb dX4_sumOf_5 rfl (lv_at hl 0 rfl) ?_
      refine g4_s S hK hP dX4_sumOf_6 ?_
      refine lv_iconst (v := nI 0) hx hb dX4_sumOf_9 (by decide) ?_
      refine l4_s S hK hP (j := 0) (by omega) dX4_sumOf_10 ?_
      refine q_eqi (y := nI n) (hw.1) ?_
      refine q_icmp_geN (tgt := 43) (a := j) (b := n) hx hb dX4_sumOf_11 (by decide) (by omega) (by omega) (fun c_11 => ?_) (fun c_11 => ?_)
      · refine lv_iload_n hx hb dX4_sumOf_43 rfl (lv_at hl 2 rfl) ?_
        exact RO.iret S hr hlk (congrArg Value.int (by rw [show j = n by omega])) dX4_sumOf_44
      · refine lv_iload_n hx hb dX4_sumOf_14 rfl (lv_at hl 2 rfl) ?_
        refine lv_iload_n hx hb dX4_sumOf_15 rfl (lv_at hl 1 rfl) ?_
        refine lv_bipush (v := nI 7) hx hb dX4_sumOf_16 (by decide) ?_
        refine q_icmp_neN (tgt := 29) (a := 6) (b := 7) hx hb dX4_sumOf_18 (by decide) (by omega) (by omega) (fun _ => ?_) (fun h => absurd h (by omega))
        refine lv_aload_n hx hb dX4_sumOf_29 rfl (lv_at hl 0 rfl) ?_
        refine lv_iload_n hx hb dX4_sumOf_30 rfl (lv_at hl 3 rfl) ?_
        refine lv_iload_n hx hb dX4_sumOf_31 rfl (lv_at hl 1 rfl) ?_
        refine RO.callV S kv_X4_57 (c_X4_its l D cI cJ a f σ j 6 (by omega)) hK hP rfl ⟨Nat.le_of_ble_eq_true rfl, Nat.le_of_ble_eq_true rfl⟩ hl.1 rfl rfl (Nat.le_of_ble_eq_true rfl) (Nat.zero_le _) (Nat.zero_le _) dX4_sumOf_32 ?_
        refine lv_iadd hx hb dX4_sumOf_35 ?_
        refine lv_istore_n (lv' := [(2, .int ((sSm f 6 j) + (fi f j 6))), (0, .ref (a 0)), (1, .int (nI 6)), (3, .int (nI j))]) hx hb dX4_sumOf_36 rfl hl (by decide) rfl (fun ls hl => ?_)
        refine lv_iinc (v := nI (j + 1)) (lv' := [(3, .int (nI (j + 1))), (2, .int ((sSm f 6 j) + (fi f j 6))), (0, .ref (a 0)), (1, .int (nI 6))]) hx hb dX4_sumOf_37 hl (k := 3) rfl (q_inc _) (by decide) rfl (fun ls hl => ?_)
        refine lv_goto (tgt := 4) hx hb dX4_sumOf_40 (by decide) ?_
        exact ih_4 (j + 1) ls (by omega) (by omega) (by rw [show sSm f 6 (j + 1) = (sSm f 6 j) + (fi f j 6) from rfl]; exact lv_sub hl [2, 3, 1, 0] rfl)
  exact L_4 ((n - 0) + 1) 0 ls (Nat.lt_succ_self _) (Nat.zero_le n) (by rw [show sSm f 6 0 = nI 0 from rfl]; exact lv_sub hl [2, 3, 1, 0] rfl)
set_option maxRecDepth 100000 in
set_option maxHeartbeats 4000000 in
theorem c_X4_sumOf_7 (l : Launch) (D : va_G) (cI cJ : ClassId) (a : Nat → Nat) (f : Nat → Int32) (σ : Nat → Nat → Int32) (n : Nat) (hw : Wk f n) : RO l yX4_sumOf cX4_sumOf 4 (some .int) 3 D cI cJ (MW cI a f σ) [.ref (a 0), .int (nI 7)] (.int (sSl f n n)) := by
  have h8 := hw.2.1
  refine RO.of (by decide) (Nat.le_of_ble_eq_true rfl) (fun p e s m below meth c ls S hr hlk hK hP hl => ?_)
  obtain ⟨hx, hb, hml, hown, hU⟩ := id S
  have hl : lv_has ls 4 [(0, .ref (a 0)), (1, .int (nI 7))] := hl
  refine lv_iconst (v := nI 0) hx hb dX4_sumOf_0 (by decide) ?_
  refine lv_istore_n (lv' := [(2, .int (nI 0)), (0, .ref (a 0)), (1, .int (nI 7))]) hx hb dX4_sumOf_1 rfl hl (by decide) rfl (fun ls hl => ?_)
  refine lv_iconst (v := nI 0) hx hb dX4_sumOf_2 (by decide) ?_
  refine lv_istore_n (lv' := [(3, .int (nI 0)), (2, .int (nI 0)), (0, .ref (a 0)), (1, .int (nI 7))]) hx hb dX4_sumOf_3 rfl hl (by decide) rfl (fun ls hl => ?_)
  have L_4 : ∀ (n9 : Nat) (j : Nat) (ls : Array Slot), n - j < n9 → j ≤ n → lv_has ls 4 [(0, .ref (a 0)), (1, .int (nI 7)), (2, .int (sSl f n j)), (3, .int (nI j))] → W p l e (rmd 3) s m ([.ref (a 0), .int (nI 7)] : List Value).toArray below meth c s.heap [] 0 0 (ZR below ([.ref (a 0), .int (nI 7)] : List Value).toArray s (.int (sSl f n n))) (F0 m 4 ls []) := by
    intro n9
    induction n9 with
    | zero => intro j ls hm; exact absurd hm (Nat.not_lt_zero _)
    | succ n9 ih_4 =>
      intro j ls hm hj hl
      refine lv_iload_n hx hb dX4_sumOf_4 rfl (lv_at hl 3 rfl) ?_
      refine lv_aload_n hx hb dX4_sumOf_5 rfl (lv_at hl 0 rfl) ?_
      refine g4_s S hK hP dX4_sumOf_6 ?_
      refine lv_iconst (v := nI 0) hx hb dX4_sumOf_9 (by decide) ?_
      refine l4_s S hK hP (j := 0) (by omega) dX4_sumOf_10 ?_
      refine q_eqi (y := nI n) (hw.1) ?_
      refine q_icmp_geN (tgt := 43) (a := j) (b := n) hx hb dX4_sumOf_11 (by decide) (by omega) (by omega) (fun c_11 => ?_) (fun c_11 => ?_)
      · refine lv_iload_n hx hb dX4_sumOf_43 rfl (lv_at hl 2 rfl) ?_
        exact RO.iret S hr hlk (congrArg Value.int (by rw [show j = n by omega])) dX4_sumOf_44
      · refine lv_iload_n hx hb dX4_sumOf_14 rfl (lv_at hl 2 rfl) ?_
        refine lv_iload_n hx hb dX4_sumOf_15 rfl (lv_at hl 1 rfl) ?_
        refine lv_bipush (v := nI 7) hx hb dX4_sumOf_16 (by decide) ?_
        refine q_icmp_neN (tgt := 29) (a := 7) (b := 7) hx hb dX4_sumOf_18 (by decide) (by omega) (by omega) (fun h => absurd h (by omega)) (fun _ => ?_)
        refine lv_aload_n hx hb dX4_sumOf_21 rfl (lv_at hl 0 rfl) ?_
        refine lv_iload_n hx hb dX4_sumOf_22 rfl (lv_at hl 3 rfl) ?_
        refine RO.callV S kv_X4_89 (c_X4_loud l D cI cJ a f σ j n (hw) (by omega)) hK hP rfl ⟨Nat.le_of_ble_eq_true rfl, Nat.le_of_ble_eq_true rfl⟩ hl.1 rfl rfl (Nat.le_of_ble_eq_true rfl) (Nat.zero_le _) (Nat.zero_le _) dX4_sumOf_23 ?_
        refine lv_goto (tgt := 35) hx hb dX4_sumOf_26 (by decide) ?_
        refine lv_iadd hx hb dX4_sumOf_35 ?_
        refine lv_istore_n (lv' := [(2, .int ((sSl f n j) + (sLd f n j))), (0, .ref (a 0)), (1, .int (nI 7)), (3, .int (nI j))]) hx hb dX4_sumOf_36 rfl hl (by decide) rfl (fun ls hl => ?_)
        refine lv_iinc (v := nI (j + 1)) (lv' := [(3, .int (nI (j + 1))), (2, .int ((sSl f n j) + (sLd f n j))), (0, .ref (a 0)), (1, .int (nI 7))]) hx hb dX4_sumOf_37 hl (k := 3) rfl (q_inc _) (by decide) rfl (fun ls hl => ?_)
        refine lv_goto (tgt := 4) hx hb dX4_sumOf_40 (by decide) ?_
        exact ih_4 (j + 1) ls (by omega) (by omega) (by rw [show sSl f n (j + 1) = (sSl f n j) + (sLd f n j) from rfl]; exact lv_sub hl [2, 3, 1, 0] rfl)
  exact L_4 ((n - 0) + 1) 0 ls (Nat.lt_succ_self _) (Nat.zero_le n) (by rw [show sSl f n 0 = nI 0 from rfl]; exact lv_sub hl [2, 3, 1, 0] rfl)
set_option maxRecDepth 100000 in
set_option maxHeartbeats 4000000 in
theorem c_X4_strainedOnes (l : Launch) (D : va_G) (cI cJ : ClassId) (a : Nat → Nat) (f : Nat → Int32) (σ : Nat → Nat → Int32) (n : Nat) (hw : Wk f n) : RO l yX4_strainedOnes cX4_strainedOnes 3 (some .int) 3 D cI cJ (MW cI a f σ) [.ref (a 0)] (.int (nI (sSt f n n))) := by
  have h8 := hw.2.1
  refine RO.of (by decide) (Nat.le_of_ble_eq_true rfl) (fun p e s m below meth c ls S hr hlk hK hP hl => ?_)
  obtain ⟨hx, hb, hml, hown, hU⟩ := id S
  have hl : lv_has ls 3 [(0, .ref (a 0))] := hl
  refine lv_iconst (v := nI 0) hx hb dX4_strainedOnes_0 (by decide) ?_
  refine lv_istore_n (lv' := [(1, .int (nI 0)), (0, .ref (a 0))]) hx hb dX4_strainedOnes_1 rfl hl (by decide) rfl (fun ls hl => ?_)
  refine lv_iconst (v := nI 0) hx hb dX4_strainedOnes_2 (by decide) ?_
  refine lv_istore_n (lv' := [(2, .int (nI 0)), (1, .int (nI 0)), (0, .ref (a 0))]) hx hb dX4_strainedOnes_3 rfl hl (by decide) rfl (fun ls hl => ?_)
  have L_4 : ∀ (n9 : Nat) (j : Nat) (ls : Array Slot), n - j < n9 → j ≤ n → lv_has ls 3 [(0, .ref (a 0)), (1, .int (nI (sSt f n j))), (2, .int (nI j))] → W p l e (rmd 3) s m ([.ref (a 0)] : List Value).toArray below meth c s.heap [] 0 0 (ZR below ([.ref (a 0)] : List Value).toArray s (.int (nI (sSt f n n)))) (F0 m 4 ls []) := by
    intro n9
    induction n9 with
    | zero => intro j ls hm; exact absurd hm (Nat.not_lt_zero _)
    | succ n9 ih_4 =>
      intro j ls hm hj hl
      have lt := sSt_lt (f := f) (n := n) (j := j) (by omega)
      have l31 : sSt f n j < 2147483648 := Nat.lt_of_lt_of_le lt (Nat.le_trans (Nat.pow_le_pow_right (n := 2) (by decide) (show j ≤ 8 by omega)) (by decide))
      have p31 : 2 ^ j < 2147483648 := Nat.lt_of_le_of_lt (Nat.pow_le_pow_right (n := 2) (by decide) (show j ≤ 8 by omega)) (by decide)
      refine lv_iload_n hx hb dX4_strainedOnes_4 rfl (lv_at hl 2 rfl) ?_
      refine lv_aload_n hx hb dX4_strainedOnes_5 rfl (lv_at hl 0 rfl) ?_
      refine g4_s S hK hP dX4_strainedOnes_6 ?_
      refine lv_iconst (v := nI 0) hx hb dX4_strainedOnes_9 (by decide) ?_
      refine l4_s S hK hP (j := 0) (by omega) dX4_strainedOnes_10 ?_
      refine q_eqi (y := nI n) (hw.1) ?_
      refine q_icmp_geN (tgt := 43) (a := j) (b := n) hx hb dX4_strainedOnes_11 (by decide) (by omega) (by omega) (fun c_11 => ?_) (fun c_11 => ?_)
      · refine lv_iload_n hx hb dX4_strainedOnes_43 rfl (lv_at hl 1 rfl) ?_
        exact RO.iret S hr hlk (congrArg Value.int (by rw [show j = n by omega])) dX4_strainedOnes_44
      · refine lv_iload_n hx hb dX4_strainedOnes_14 rfl (lv_at hl 1 rfl) ?_
        refine lv_aload_n hx hb dX4_strainedOnes_15 rfl (lv_at hl 0 rfl) ?_
        refine lv_iload_n hx hb dX4_strainedOnes_16 rfl (lv_at hl 2 rfl) ?_
        refine RO.callV S kv_X4_89 (c_X4_loud l D cI cJ a f σ j n (hw) (by omega)) hK hP rfl ⟨Nat.le_of_ble_eq_true rfl, Nat.le_of_ble_eq_true rfl⟩ hl.1 rfl rfl (Nat.le_of_ble_eq_true rfl) (Nat.zero_le _) (Nat.zero_le _) dX4_strainedOnes_17 ?_
        refine lv_aload_n hx hb dX4_strainedOnes_20 rfl (lv_at hl 0 rfl) ?_
        refine lv_iload_n hx hb dX4_strainedOnes_21 rfl (lv_at hl 2 rfl) ?_
        refine RO.callV S kv_X4_95 (c_X4_bears l D cI cJ a f σ j n (hw) (by omega)) hK hP rfl ⟨Nat.le_of_ble_eq_true rfl, Nat.le_of_ble_eq_true rfl⟩ hl.1 rfl rfl (Nat.le_of_ble_eq_true rfl) (Nat.zero_le _) (Nat.zero_le _) dX4_strainedOnes_22 ?_
        refine lv_icmp_le (tgt := 34) hx hb dX4_strainedOnes_25 (by decide) (fun c_25 => ?_) (fun c_25 => ?_)
        · refine lv_iconst (v := nI 0) hx hb dX4_strainedOnes_34 (by decide) ?_
          refine lv_ior hx hb dX4_strainedOnes_35 ?_
          refine q_eqi (y := nI (sSt f n j ||| 0)) (nI_or l31 (by decide)) ?_
          refine lv_istore_n (lv' := [(1, .int (nI (sSt f n j ||| 0))), (0, .ref (a 0)), (2, .int (nI j))]) hx hb dX4_strainedOnes_36 rfl hl (by decide) rfl (fun ls hl => ?_)
          refine lv_iinc (v := nI (j + 1)) (lv' := [(2, .int (nI (j + 1))), (1, .int (nI (sSt f n j ||| 0))), (0, .ref (a 0))]) hx hb dX4_strainedOnes_37 hl (k := 2) rfl (q_inc _) (by decide) rfl (fun ls hl => ?_)
          refine lv_goto (tgt := 4) hx hb dX4_strainedOnes_40 (by decide) ?_
          exact ih_4 (j + 1) ls (by omega) (by omega) (by rw [show nI (sSt f n (j + 1)) = nI (sSt f n j ||| 0) from by rw [sSt, if_neg (i32_not_lt_of_le c_25)]; exact congrArg nI (Nat.or_zero _).symm]; exact lv_sub hl [2, 1, 0] rfl)
        · refine lv_iconst (v := nI 1) hx hb dX4_strainedOnes_28 (by decide) ?_
          refine lv_iload_n hx hb dX4_strainedOnes_29 rfl (lv_at hl 2 rfl) ?_
          refine lv_ishl hx hb dX4_strainedOnes_30 ?_
          refine q_eqi (y := nI (2 ^ j)) (nI_shl1 _ (by omega)) ?_
          refine lv_goto (tgt := 35) hx hb dX4_strainedOnes_31 (by decide) ?_
          refine lv_ior hx hb dX4_strainedOnes_35 ?_
          refine q_eqi (y := nI (sSt f n j ||| 2 ^ j)) (nI_or l31 p31) ?_
          refine lv_istore_n (lv' := [(1, .int (nI (sSt f n j ||| 2 ^ j))), (0, .ref (a 0)), (2, .int (nI j))]) hx hb dX4_strainedOnes_36 rfl hl (by decide) rfl (fun ls hl => ?_)
          refine lv_iinc (v := nI (j + 1)) (lv' := [(2, .int (nI (j + 1))), (1, .int (nI (sSt f n j ||| 2 ^ j))), (0, .ref (a 0))]) hx hb dX4_strainedOnes_37 hl (k := 2) rfl (q_inc _) (by decide) rfl (fun ls hl => ?_)
          refine lv_goto (tgt := 4) hx hb dX4_strainedOnes_40 (by decide) ?_
          exact ih_4 (j + 1) ls (by omega) (by omega) (by rw [show nI (sSt f n (j + 1)) = nI (sSt f n j ||| 2 ^ j) from by rw [sSt, if_pos (i32_lt_of_not_le c_25)]]; exact lv_sub hl [2, 1, 0] rfl)
  exact L_4 ((n - 0) + 1) 0 ls (Nat.lt_succ_self _) (Nat.zero_le n) (lv_sub hl [2, 1, 0] rfl)
set_option maxRecDepth 100000 in
set_option maxHeartbeats 4000000 in
theorem c_X4_usedOnes (l : Launch) (D : va_G) (cI cJ : ClassId) (a : Nat → Nat) (f : Nat → Int32) (σ : Nat → Nat → Int32) (n : Nat) (hw : Wk f n) : RO l yX4_usedOnes cX4_usedOnes 3 (some .int) 1 D cI cJ (MW cI a f σ) [.ref (a 0)] (.int (nI (sUs f n))) := by
  have h8 := hw.2.1
  refine RO.of (by decide) (Nat.le_of_ble_eq_true rfl) (fun p e s m below meth c ls S hr hlk hK hP hl => ?_)
  obtain ⟨hx, hb, hml, hown, hU⟩ := id S
  have hl : lv_has ls 3 [(0, .ref (a 0))] := hl
  refine lv_iconst (v := nI 0) hx hb dX4_usedOnes_0 (by decide) ?_
  refine lv_istore_n (lv' := [(1, .int (nI 0)), (0, .ref (a 0))]) hx hb dX4_usedOnes_1 rfl hl (by decide) rfl (fun ls hl => ?_)
  refine lv_iconst (v := nI 0) hx hb dX4_usedOnes_2 (by decide) ?_
  refine lv_istore_n (lv' := [(2, .int (nI 0)), (1, .int (nI 0)), (0, .ref (a 0))]) hx hb dX4_usedOnes_3 rfl hl (by decide) rfl (fun ls hl => ?_)
  have L_4 : ∀ (n9 : Nat) (j : Nat) (ls : Array Slot), n - j < n9 → j ≤ n → lv_has ls 3 [(0, .ref (a 0)), (1, .int (nI (sUs f j))), (2, .int (nI j))] → W p l e (rmd 1) s m ([.ref (a 0)] : List Value).toArray below meth c s.heap [] 0 0 (ZR below ([.ref (a 0)] : List Value).toArray s (.int (nI (sUs f n)))) (F0 m 4 ls []) := by
    intro n9
    induction n9 with
    | zero => intro j ls hm; exact absurd hm (Nat.not_lt_zero _)
    | succ n9 ih_4 =>
      intro j ls hm hj hl
      refine lv_iload_n hx hb dX4_usedOnes_4 rfl (lv_at hl 2 rfl) ?_
      refine lv_aload_n hx hb dX4_usedOnes_5 rfl (lv_at hl 0 rfl) ?_
      refine g4_s S hK hP dX4_usedOnes_6 ?_
      refine lv_iconst (v := nI 0) hx hb dX4_usedOnes_9 (by decide) ?_
      refine l4_s S hK hP (j := 0) (by omega) dX4_usedOnes_10 ?_
      refine q_eqi (y := nI n) (hw.1) ?_
      refine q_icmp_geN (tgt := 31) (a := j) (b := n) hx hb dX4_usedOnes_11 (by decide) (by omega) (by omega) (fun c_11 => ?_) (fun c_11 => ?_)
      · refine lv_iload_n hx hb dX4_usedOnes_31 rfl (lv_at hl 1 rfl) ?_
        exact RO.iret S hr hlk (congrArg Value.int (by rw [show j = n by omega])) dX4_usedOnes_32
      · obtain ⟨h, h6, hh⟩ := hw.2.2 j (by omega)
        have hu := sUs_lt hw hj
        have hp2 : 2 ^ h < 64 := Nat.pow_lt_pow_right (n := 6) (by decide) h6
        refine lv_iload_n hx hb dX4_usedOnes_14 rfl (lv_at hl 1 rfl) ?_
        refine lv_iconst (v := nI 1) hx hb dX4_usedOnes_15 (by decide) ?_
        refine lv_aload_n hx hb dX4_usedOnes_16 rfl (lv_at hl 0 rfl) ?_
        refine lv_iload_n hx hb dX4_usedOnes_17 rfl (lv_at hl 2 rfl) ?_
        refine lv_iconst (v := nI 1) hx hb dX4_usedOnes_18 (by decide) ?_
        refine RO.callV S kv_X4_57 (c_X4_its l D cI cJ a f σ j 1 (by omega)) hK hP rfl ⟨Nat.le_of_ble_eq_true rfl, Nat.le_of_ble_eq_true rfl⟩ hl.1 rfl rfl (Nat.le_of_ble_eq_true rfl) (Nat.zero_le _) (Nat.zero_le _) dX4_usedOnes_19 ?_
        refine q_eqi (y := nI h) (hh) ?_
        refine lv_ishl hx hb dX4_usedOnes_22 ?_
        refine q_eqi (y := nI (2 ^ h)) (nI_shl1 _ (by omega)) ?_
        refine lv_ior hx hb dX4_usedOnes_23 ?_
        refine q_eqi (y := nI (sUs f j ||| 2 ^ h)) (nI_or (by omega) (by omega)) ?_
        refine lv_istore_n (lv' := [(1, .int (nI (sUs f j ||| 2 ^ h))), (0, .ref (a 0)), (2, .int (nI j))]) hx hb dX4_usedOnes_24 rfl hl (by decide) rfl (fun ls hl => ?_)
        refine lv_iinc (v := nI (j + 1)) (lv' := [(2, .int (nI (j + 1))), (1, .int (nI (sUs f j ||| 2 ^ h))), (0, .ref (a 0))]) hx hb dX4_usedOnes_25 hl (k := 2) rfl (q_inc _) (by decide) rfl (fun ls hl => ?_)
        refine lv_goto (tgt := 4) hx hb dX4_usedOnes_28 (by decide) ?_
        exact ih_4 (j + 1) ls (by omega) (by omega) (by rw [show nI (sUs f (j + 1)) = nI (sUs f j ||| 2 ^ h) from by show nI (sUs f j ||| 2 ^ (fi f j 1).toNatClampNeg) = _; rw [hh, nI_clamp (by omega)]]; exact lv_sub hl [2, 1, 0] rfl)
  exact L_4 ((n - 0) + 1) 0 ls (Nat.lt_succ_self _) (Nat.zero_le n) (lv_sub hl [2, 1, 0] rfl)
set_option maxRecDepth 100000 in
set_option maxHeartbeats 4000000 in
theorem c_X4_loudest (l : Launch) (D : va_G) (cI cJ : ClassId) (a : Nat → Nat) (f : Nat → Int32) (σ : Nat → Nat → Int32) (n : Nat) (hw : Wk f n) : RO l yX4_loudest cX4_loudest 3 (some .int) 3 D cI cJ (MW cI a f σ) [.ref (a 0)] (.int (oI (sLo f n n))) := by
  have h8 := hw.2.1
  refine RO.of (by decide) (Nat.le_of_ble_eq_true rfl) (fun p e s m below meth c ls S hr hlk hK hP hl => ?_)
  obtain ⟨hx, hb, hml, hown, hU⟩ := id S
  have hl : lv_has ls 3 [(0, .ref (a 0))] := hl
  refine lv_aload_n hx hb dX4_loudest_0 rfl (lv_at hl 0 rfl) ?_
  refine g4_s S hK hP dX4_loudest_1 ?_
  refine lv_iconst (v := nI 0) hx hb dX4_loudest_4 (by decide) ?_
  refine l4_s S hK hP (j := 0) (by omega) dX4_loudest_5 ?_
  refine q_eqi (y := nI n) (hw.1) ?_
  refine q_if_neN (tgt := 13) (a := n) hx hb dX4_loudest_6 (by decide) (by omega) (fun c_6 => ?_) (fun c_6 => ?_)
  · refine lv_iconst (v := nI 0) hx hb dX4_loudest_13 (by decide) ?_
    refine lv_istore_n (lv' := [(1, .int (nI 0)), (0, .ref (a 0))]) hx hb dX4_loudest_14 rfl hl (by decide) rfl (fun ls hl => ?_)
    refine lv_iconst (v := nI 1) hx hb dX4_loudest_15 (by decide) ?_
    refine lv_istore_n (lv' := [(2, .int (nI 1)), (1, .int (nI 0)), (0, .ref (a 0))]) hx hb dX4_loudest_16 rfl hl (by decide) rfl (fun ls hl => ?_)
    have L_17 : ∀ (n9 : Nat) (j : Nat) (ls : Array Slot), n - j < n9 → j ≤ n → 1 ≤ j → sLo f n j ≠ none → lv_has ls 3 [(0, .ref (a 0)), (1, .int (oI (sLo f n j))), (2, .int (nI j))] → W p l e (rmd 3) s m ([.ref (a 0)] : List Value).toArray below meth c s.heap [] 0 0 (ZR below ([.ref (a 0)] : List Value).toArray s (.int (oI (sLo f n n)))) (F0 m 17 ls []) := by
      intro n9
      induction n9 with
      | zero => intro j ls hm; exact absurd hm (Nat.not_lt_zero _)
      | succ n9 ih_17 =>
        intro j ls hm hj hj1 hne hl
        cases hE : sLo f n j with
        | none => exact absurd hE hne
        | some b =>
          have hl : lv_has ls 3 [(0, .ref (a 0)), (1, .int (nI b)), (2, .int (nI j))] := by rw [hE] at hl; exact hl
          have hbj := sLo_lt hE
          refine lv_iload_n hx hb dX4_loudest_17 rfl (lv_at hl 2 rfl) ?_
          refine lv_aload_n hx hb dX4_loudest_18 rfl (lv_at hl 0 rfl) ?_
          refine g4_s S hK hP dX4_loudest_19 ?_
          refine lv_iconst (v := nI 0) hx hb dX4_loudest_22 (by decide) ?_
          refine l4_s S hK hP (j := 0) (by omega) dX4_loudest_23 ?_
          refine q_eqi (y := nI n) (hw.1) ?_
          refine q_icmp_geN (tgt := 52) (a := j) (b := n) hx hb dX4_loudest_24 (by decide) (by omega) (by omega) (fun c_24 => ?_) (fun c_24 => ?_)
          · refine lv_iload_n hx hb dX4_loudest_52 rfl (lv_at hl 1 rfl) ?_
            exact RO.iret S hr hlk (congrArg Value.int (by rw [show j = n by omega] at hE; rw [hE]; rfl)) dX4_loudest_53
          · refine lv_aload_n hx hb dX4_loudest_27 rfl (lv_at hl 0 rfl) ?_
            refine lv_iload_n hx hb dX4_loudest_28 rfl (lv_at hl 2 rfl) ?_
            refine RO.callV S kv_X4_89 (c_X4_loud l D cI cJ a f σ j n (hw) (by omega)) hK hP rfl ⟨Nat.le_of_ble_eq_true rfl, Nat.le_of_ble_eq_true rfl⟩ hl.1 rfl rfl (Nat.le_of_ble_eq_true rfl) (Nat.zero_le _) (Nat.zero_le _) dX4_loudest_29 ?_
            refine lv_aload_n hx hb dX4_loudest_32 rfl (lv_at hl 0 rfl) ?_
            refine lv_iload_n hx hb dX4_loudest_33 rfl (lv_at hl 1 rfl) ?_
            refine RO.callV S kv_X4_89 (c_X4_loud l D cI cJ a f σ b n (hw) (by omega)) hK hP rfl ⟨Nat.le_of_ble_eq_true rfl, Nat.le_of_ble_eq_true rfl⟩ hl.1 rfl rfl (Nat.le_of_ble_eq_true rfl) (Nat.zero_le _) (Nat.zero_le _) dX4_loudest_34 ?_
            refine lv_icmp_le (tgt := 44) hx hb dX4_loudest_37 (by decide) (fun c_37 => ?_) (fun c_37 => ?_)
            · refine lv_iload_n hx hb dX4_loudest_44 rfl (lv_at hl 1 rfl) ?_
              refine lv_istore_n (lv' := [(1, .int (nI b)), (0, .ref (a 0)), (2, .int (nI j))]) hx hb dX4_loudest_45 rfl hl (by decide) rfl (fun ls hl => ?_)
              refine lv_iinc (v := nI (j + 1)) (lv' := [(2, .int (nI (j + 1))), (1, .int (nI b)), (0, .ref (a 0))]) hx hb dX4_loudest_46 hl (k := 2) rfl (q_inc _) (by decide) rfl (fun ls hl => ?_)
              refine lv_goto (tgt := 17) hx hb dX4_loudest_49 (by decide) ?_
              exact ih_17 (j + 1) ls (by omega) (by omega) (by omega) (by rw [sLo_0 hE (i32_not_lt_of_le c_37)]; exact fun q => nomatch q) (by rw [show oI (sLo f n (j + 1)) = nI b from by rw [sLo_0 hE (i32_not_lt_of_le c_37)]; rfl]; exact lv_sub hl [2, 1, 0] rfl)
            · refine lv_iload_n hx hb dX4_loudest_40 rfl (lv_at hl 2 rfl) ?_
              refine lv_goto (tgt := 45) hx hb dX4_loudest_41 (by decide) ?_
              refine lv_istore_n (lv' := [(1, .int (nI j)), (0, .ref (a 0)), (2, .int (nI j))]) hx hb dX4_loudest_45 rfl hl (by decide) rfl (fun ls hl => ?_)
              refine lv_iinc (v := nI (j + 1)) (lv' := [(2, .int (nI (j + 1))), (1, .int (nI j)), (0, .ref (a 0))]) hx hb dX4_loudest_46 hl (k := 2) rfl (q_inc _) (by decide) rfl (fun ls hl => ?_)
              refine lv_goto (tgt := 17) hx hb dX4_loudest_49 (by decide) ?_
              exact ih_17 (j + 1) ls (by omega) (by omega) (by omega) (by rw [sLo_1 hE (i32_lt_of_not_le c_37)]; exact fun q => nomatch q) (by rw [show oI (sLo f n (j + 1)) = nI j from by rw [sLo_1 hE (i32_lt_of_not_le c_37)]; rfl]; exact lv_sub hl [2, 1, 0] rfl)
    exact L_17 ((n - 1) + 1) 1 ls (Nat.lt_succ_self _) (by omega) (by omega) (fun q => nomatch q) (by rw [show oI (sLo f n 1) = nI 0 from rfl]; exact lv_sub hl [2, 1, 0] rfl)
  · refine lv_iconst (v := (-1)) hx hb dX4_loudest_9 (by decide) ?_
    refine lv_goto (tgt := 14) hx hb dX4_loudest_10 (by decide) ?_
    refine lv_istore_n (lv' := [(1, .int (-1)), (0, .ref (a 0))]) hx hb dX4_loudest_14 rfl hl (by decide) rfl (fun ls hl => ?_)
    refine lv_iconst (v := nI 1) hx hb dX4_loudest_15 (by decide) ?_
    refine lv_istore_n (lv' := [(2, .int (nI 1)), (1, .int (-1)), (0, .ref (a 0))]) hx hb dX4_loudest_16 rfl hl (by decide) rfl (fun ls hl => ?_)
    refine lv_iload_n hx hb dX4_loudest_17 rfl (lv_at hl 0 rfl) ?_
    refine lv_aload_n hx hb dX4_loudest_18 rfl (lv_at hl 2 rfl) ?_
    refine g4_s S hK hP dX4_loudest_19 ?_
    refine lv_iconst (v := nI 0) hx hb dX4_loudest_22 (by decide) ?_
    refine l4_s S hK hP (j := 0) (by omega) dX4_loudest_23 ?_
    refine q_eqi (y := nI n) (hw.1) ?_
    refine q_icmp_geN (tgt := 52) (a := 1) (b := n) hx hb dX4_loudest_24 (by decide) (by omega) (by omega) (fun c_24 => ?_) (fun c_24 => ?_)
    · refine lv_iload_n hx hb dX4_loudest_52 rfl (lv_at hl 1 rfl) ?_
      exact RO.iret S hr hlk (congrArg Value.int (by rw [show n = 0 by omega]; rfl)) dX4_loudest_53
    · exact absurd c_24 (by omega)
set_option maxRecDepth 100000 in
set_option maxHeartbeats 4000000 in
theorem c_X4_now_ok0 (l : Launch) (D : va_G) (cI cJ : ClassId) (a : Nat → Nat) (f : Nat → Int32) (σ : Nat → Nat → Int32) (n : Nat) (hw : Wk f n) : WR l yX4_now cX4_now 2 (some .int) 4 D cI cJ (MW cI a f σ) [.ref (a 0), .int (nI 0)] (some (.int (f 1))) (MW cI a f σ) := by
  refine WR.of (by decide) (Nat.le_of_ble_eq_true rfl) (fun p e s m below meth c ls A S hr hlk hK hP hD hS hA hl => ?_)
  obtain ⟨hx, hb, hml, hown, hU⟩ := id S
  have hl : lv_has ls 2 [(0, .ref (a 0)), (1, .int (nI 0))] := hl
  refine lv_iload_n hx hb dX4_now_0 rfl (lv_at hl 1 rfl) ?_
  refine lv_tableIn (tgt := 44) hx hb dX4_now_1 (by decide) (by decide) rfl (by decide) ?_
  refine lv_aload_n hx hb dX4_now_44 rfl (lv_at hl 0 rfl) ?_
  refine g4_s S hK hP dX4_now_45 ?_
  refine lv_iconst (v := nI 1) hx hb dX4_now_48 (by decide) ?_
  refine l4_s S hK hP (j := 1) (by omega) dX4_now_49 ?_
  exact WR.iret S hr hlk hP hS (rfl) rfl dX4_now_50
set_option maxRecDepth 100000 in
set_option maxHeartbeats 4000000 in
theorem c_X4_now_ok1 (l : Launch) (D : va_G) (cI cJ : ClassId) (a : Nat → Nat) (f : Nat → Int32) (σ : Nat → Nat → Int32) (n : Nat) (hw : Wk f n) : WR l yX4_now cX4_now 2 (some .int) 4 D cI cJ (MW cI a f σ) [.ref (a 0), .int (nI 1)] (some (.int (f 3))) (MW cI a f σ) := by
  refine WR.of (by decide) (Nat.le_of_ble_eq_true rfl) (fun p e s m below meth c ls A S hr hlk hK hP hD hS hA hl => ?_)
  obtain ⟨hx, hb, hml, hown, hU⟩ := id S
  have hl : lv_has ls 2 [(0, .ref (a 0)), (1, .int (nI 1))] := hl
  refine lv_iload_n hx hb dX4_now_0 rfl (lv_at hl 1 rfl) ?_
  refine lv_tableIn (tgt := 51) hx hb dX4_now_1 (by decide) (by decide) rfl (by decide) ?_
  refine lv_aload_n hx hb dX4_now_51 rfl (lv_at hl 0 rfl) ?_
  refine g4_s S hK hP dX4_now_52 ?_
  refine lv_iconst (v := nI 3) hx hb dX4_now_55 (by decide) ?_
  refine l4_s S hK hP (j := 3) (by omega) dX4_now_56 ?_
  exact WR.iret S hr hlk hP hS (rfl) rfl dX4_now_57
set_option maxRecDepth 100000 in
set_option maxHeartbeats 4000000 in
theorem c_X4_now_ok2 (l : Launch) (D : va_G) (cI cJ : ClassId) (a : Nat → Nat) (f : Nat → Int32) (σ : Nat → Nat → Int32) (n : Nat) (hw : Wk f n) : WR l yX4_now cX4_now 2 (some .int) 4 D cI cJ (MW cI a f σ) [.ref (a 0), .int (nI 2)] (some (.int (sSm f 2 n))) (MW cI a f σ) := by
  refine WR.of (by decide) (Nat.le_of_ble_eq_true rfl) (fun p e s m below meth c ls A S hr hlk hK hP hD hS hA hl => ?_)
  obtain ⟨hx, hb, hml, hown, hU⟩ := id S
  have hl : lv_has ls 2 [(0, .ref (a 0)), (1, .int (nI 2))] := hl
  refine lv_iload_n hx hb dX4_now_0 rfl (lv_at hl 1 rfl) ?_
  refine lv_tableIn (tgt := 58) hx hb dX4_now_1 (by decide) (by decide) rfl (by decide) ?_
  refine lv_aload_n hx hb dX4_now_58 rfl (lv_at hl 0 rfl) ?_
  refine lv_iconst (v := nI 2) hx hb dX4_now_59 (by decide) ?_
  refine RO.callV S kv_X4_128 (c_X4_sumOf_2 l D cI cJ a f σ n hw) hK hP rfl ⟨Nat.le_of_ble_eq_true rfl, Nat.le_of_ble_eq_true rfl⟩ hl.1 rfl rfl (Nat.le_of_ble_eq_true rfl) (Nat.zero_le _) (Nat.zero_le _) dX4_now_60 ?_
  exact WR.iret S hr hlk hP hS (rfl) rfl dX4_now_63
set_option maxRecDepth 100000 in
set_option maxHeartbeats 4000000 in
theorem c_X4_now_ok3 (l : Launch) (D : va_G) (cI cJ : ClassId) (a : Nat → Nat) (f : Nat → Int32) (σ : Nat → Nat → Int32) (n : Nat) (hw : Wk f n) : WR l yX4_now cX4_now 2 (some .int) 4 D cI cJ (MW cI a f σ) [.ref (a 0), .int (nI 3)] (some (.int (sSl f n n))) (MW cI a f σ) := by
  refine WR.of (by decide) (Nat.le_of_ble_eq_true rfl) (fun p e s m below meth c ls A S hr hlk hK hP hD hS hA hl => ?_)
  obtain ⟨hx, hb, hml, hown, hU⟩ := id S
  have hl : lv_has ls 2 [(0, .ref (a 0)), (1, .int (nI 3))] := hl
  refine lv_iload_n hx hb dX4_now_0 rfl (lv_at hl 1 rfl) ?_
  refine lv_tableIn (tgt := 64) hx hb dX4_now_1 (by decide) (by decide) rfl (by decide) ?_
  refine lv_aload_n hx hb dX4_now_64 rfl (lv_at hl 0 rfl) ?_
  refine lv_bipush (v := nI 7) hx hb dX4_now_65 (by decide) ?_
  refine RO.callV S kv_X4_128 (c_X4_sumOf_7 l D cI cJ a f σ n hw) hK hP rfl ⟨Nat.le_of_ble_eq_true rfl, Nat.le_of_ble_eq_true rfl⟩ hl.1 rfl rfl (Nat.le_of_ble_eq_true rfl) (Nat.zero_le _) (Nat.zero_le _) dX4_now_67 ?_
  exact WR.iret S hr hlk hP hS (rfl) rfl dX4_now_70
set_option maxRecDepth 100000 in
set_option maxHeartbeats 4000000 in
theorem c_X4_now_ok4 (l : Launch) (D : va_G) (cI cJ : ClassId) (a : Nat → Nat) (f : Nat → Int32) (σ : Nat → Nat → Int32) (n : Nat) (hw : Wk f n) : WR l yX4_now cX4_now 2 (some .int) 4 D cI cJ (MW cI a f σ) [.ref (a 0), .int (nI 4)] (some (.int (nI (sSt f n n)))) (MW cI a f σ) := by
  refine WR.of (by decide) (Nat.le_of_ble_eq_true rfl) (fun p e s m below meth c ls A S hr hlk hK hP hD hS hA hl => ?_)
  obtain ⟨hx, hb, hml, hown, hU⟩ := id S
  have hl : lv_has ls 2 [(0, .ref (a 0)), (1, .int (nI 4))] := hl
  refine lv_iload_n hx hb dX4_now_0 rfl (lv_at hl 1 rfl) ?_
  refine lv_tableIn (tgt := 71) hx hb dX4_now_1 (by decide) (by decide) rfl (by decide) ?_
  refine lv_aload_n hx hb dX4_now_71 rfl (lv_at hl 0 rfl) ?_
  refine RO.callV S kv_X4_131 (c_X4_strainedOnes l D cI cJ a f σ n (hw)) hK hP rfl ⟨Nat.le_of_ble_eq_true rfl, Nat.le_of_ble_eq_true rfl⟩ hl.1 rfl rfl (Nat.le_of_ble_eq_true rfl) (Nat.zero_le _) (Nat.zero_le _) dX4_now_72 ?_
  exact WR.iret S hr hlk hP hS (rfl) rfl dX4_now_75
set_option maxRecDepth 100000 in
set_option maxHeartbeats 4000000 in
theorem c_X4_now_ok5 (l : Launch) (D : va_G) (cI cJ : ClassId) (a : Nat → Nat) (f : Nat → Int32) (σ : Nat → Nat → Int32) (n : Nat) (hw : Wk f n) : WR l yX4_now cX4_now 2 (some .int) 4 D cI cJ (MW cI a f σ) [.ref (a 0), .int (nI 5)] (some (.int (oI (sLo f n n)))) (MW cI a f σ) := by
  refine WR.of (by decide) (Nat.le_of_ble_eq_true rfl) (fun p e s m below meth c ls A S hr hlk hK hP hD hS hA hl => ?_)
  obtain ⟨hx, hb, hml, hown, hU⟩ := id S
  have hl : lv_has ls 2 [(0, .ref (a 0)), (1, .int (nI 5))] := hl
  refine lv_iload_n hx hb dX4_now_0 rfl (lv_at hl 1 rfl) ?_
  refine lv_tableIn (tgt := 76) hx hb dX4_now_1 (by decide) (by decide) rfl (by decide) ?_
  refine lv_aload_n hx hb dX4_now_76 rfl (lv_at hl 0 rfl) ?_
  refine RO.callV S kv_X4_134 (c_X4_loudest l D cI cJ a f σ n (hw)) hK hP rfl ⟨Nat.le_of_ble_eq_true rfl, Nat.le_of_ble_eq_true rfl⟩ hl.1 rfl rfl (Nat.le_of_ble_eq_true rfl) (Nat.zero_le _) (Nat.zero_le _) dX4_now_77 ?_
  exact WR.iret S hr hlk hP hS (rfl) rfl dX4_now_80
set_option maxRecDepth 100000 in
set_option maxHeartbeats 4000000 in
theorem c_X4_now_ok6 (l : Launch) (D : va_G) (cI cJ : ClassId) (a : Nat → Nat) (f : Nat → Int32) (σ : Nat → Nat → Int32) (n : Nat) (hw : Wk f n) : WR l yX4_now cX4_now 2 (some .int) 4 D cI cJ (MW cI a f σ) [.ref (a 0), .int (nI 6)] (some (.int (nI (sUs f n)))) (MW cI a f σ) := by
  refine WR.of (by decide) (Nat.le_of_ble_eq_true rfl) (fun p e s m below meth c ls A S hr hlk hK hP hD hS hA hl => ?_)
  obtain ⟨hx, hb, hml, hown, hU⟩ := id S
  have hl : lv_has ls 2 [(0, .ref (a 0)), (1, .int (nI 6))] := hl
  refine lv_iload_n hx hb dX4_now_0 rfl (lv_at hl 1 rfl) ?_
  refine lv_tableIn (tgt := 81) hx hb dX4_now_1 (by decide) (by decide) rfl (by decide) ?_
  refine lv_aload_n hx hb dX4_now_81 rfl (lv_at hl 0 rfl) ?_
  refine RO.callV S kv_X4_137 (c_X4_usedOnes l D cI cJ a f σ n (hw)) hK hP rfl ⟨Nat.le_of_ble_eq_true rfl, Nat.le_of_ble_eq_true rfl⟩ hl.1 rfl rfl (Nat.le_of_ble_eq_true rfl) (Nat.zero_le _) (Nat.zero_le _) dX4_now_82 ?_
  exact WR.iret S hr hlk hP hS (rfl) rfl dX4_now_85
set_option maxRecDepth 100000 in
set_option maxHeartbeats 4000000 in
theorem c_X4_now_bad (l : Launch) (D : va_G) (cI cJ : ClassId) (a : Nat → Nat) (f : Nat → Int32) (σ : Nat → Nat → Int32) (x : Int32) (hb0 : ¬ ((nI 0 ≤ x ∧ x ≤ nI 6))) : WR l yX4_now cX4_now 2 (some .int) 4 D cI cJ (MW cI a f σ) [.ref (a 0), .int x] (some (.int (-1000001))) (MW cI a f (va_up σ 4 (mFi (σ 4) 0))) := by
  refine WR.of (by decide) (Nat.le_of_ble_eq_true rfl) (fun p e s m below meth c ls A S hr hlk hK hP hD hS hA hl => ?_)
  obtain ⟨hx, hb, hml, hown, hU⟩ := id S
  have hl : lv_has ls 2 [(0, .ref (a 0)), (1, .int x)] := hl
  refine lv_iload_n hx hb dX4_now_0 rfl (lv_at hl 1 rfl) ?_
  have k_1_0 : ¬ x = nI 0 := fun q => hb0 (by rw [q]; decide)
  have k_1_1 : ¬ x = nI 1 := fun q => hb0 (by rw [q]; decide)
  have k_1_2 : ¬ x = nI 2 := fun q => hb0 (by rw [q]; decide)
  have k_1_3 : ¬ x = nI 3 := fun q => hb0 (by rw [q]; decide)
  have k_1_4 : ¬ x = nI 4 := fun q => hb0 (by rw [q]; decide)
  have k_1_5 : ¬ x = nI 5 := fun q => hb0 (by rw [q]; decide)
  have k_1_6 : ¬ x = nI 6 := fun q => hb0 (by rw [q]; decide)
  refine lv_tableOut (tgt := 86) hx hb dX4_now_1 (tsw_out (fun i h1 h2 => by
    rcases (show i = 0 ∨ i = 1 ∨ i = 2 ∨ i = 3 ∨ i = 4 ∨ i = 5 ∨ i = 6 by omega) with rfl | rfl | rfl | rfl | rfl | rfl | rfl
    · exact k_1_0
    · exact k_1_1
    · exact k_1_2
    · exact k_1_3
    · exact k_1_4
    · exact k_1_5
    · exact k_1_6
    )) (by decide) ?_
  refine lv_aload_n hx hb dX4_now_86 rfl (lv_at hl 0 rfl) ?_
  refine lv_ldc (v := (-1000001)) hx hb hown (hU _ mK_X4_37) dX4_now_87 ?_
  refine WR.callV (w1 := MW cI a f (va_up σ 4 (mFi (σ 4) 0))) S kv_X4_39 (c_X4_fd0 l D cI cJ a f σ) hK hP hD hS hA ([]) ([]) rfl rfl rfl rfl ⟨Nat.le_of_ble_eq_true rfl, Nat.le_of_ble_eq_true rfl⟩ hl.1 rfl rfl (Nat.le_of_ble_eq_true rfl) (Nat.zero_le _) (Nat.zero_le _) dX4_now_89 (fun H locs hP hD hS => ?_)
  exact WR.iret S hr hlk hP hS (rfl) rfl dX4_now_92

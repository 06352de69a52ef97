/-! String's own methods, at this claim's literals -/
section JStr
variable (l : Launch) (D : va_G) (cI cJ : ClassId) (mt ka : Nat) (kk vv : Nat → Nat)
theorem c_J3_check_n (j k : Nat) (hj : j < k) (hk : k < 2147483648) : RO l yJ3_checkIndex_8e157 cJ3_checkIndex_8e157 3 (some .int) 0 D cI cJ [] [.int (nI j), .int (nI k), .null] (.int (nI j)) := by
  refine RO.of (by decide) (Nat.le_of_ble_eq_true rfl) (fun p e s m below meth c ls S hr hlk hK hP hl => ?_)
  obtain ⟨hx, hb, hml, hown, hU⟩ := id S
  have hl : lv_has ls 3 [(0, .int (nI j)), (1, .int (nI k)), (2, .null)] := hl
  refine lv_iload_n hx hb dJ3_checkIndex_8e157_0 rfl (lv_at hl 0 rfl) ?_
  refine q_if_ltN (tgt := 9) (a := j) hx hb dJ3_checkIndex_8e157_1 (by decide) (by omega) ?_
  refine lv_iload_n hx hb dJ3_checkIndex_8e157_4 rfl (lv_at hl 0 rfl) ?_
  refine lv_iload_n hx hb dJ3_checkIndex_8e157_5 rfl (lv_at hl 1 rfl) ?_
  refine q_icmp_ltN (tgt := 16) (a := j) (b := k) hx hb dJ3_checkIndex_8e157_6 (by decide) (by omega) (by omega) (fun _ => ?_) (fun h => absurd hj (by omega))
  refine lv_iload_n hx hb dJ3_checkIndex_8e157_16 rfl (lv_at hl 0 rfl) ?_
  exact RO.iret S hr hlk rfl dJ3_checkIndex_8e157_17
theorem c_J3_check_r (j k q : Nat) (hj : j < k) (hk : k < 2147483648) : RO l yJ3_checkIndex_8e157 cJ3_checkIndex_8e157 3 (some .int) 0 D cI cJ [] [.int (nI j), .int (nI k), .ref q] (.int (nI j)) := by
  refine RO.of (by decide) (Nat.le_of_ble_eq_true rfl) (fun p e s m below meth c ls S hr hlk hK hP hl => ?_)
  obtain ⟨hx, hb, hml, hown, hU⟩ := id S
  have hl : lv_has ls 3 [(0, .int (nI j)), (1, .int (nI k)), (2, .ref q)] := hl
  refine lv_iload_n hx hb dJ3_checkIndex_8e157_0 rfl (lv_at hl 0 rfl) ?_
  refine q_if_ltN (tgt := 9) (a := j) hx hb dJ3_checkIndex_8e157_1 (by decide) (by omega) ?_
  refine lv_iload_n hx hb dJ3_checkIndex_8e157_4 rfl (lv_at hl 0 rfl) ?_
  refine lv_iload_n hx hb dJ3_checkIndex_8e157_5 rfl (lv_at hl 1 rfl) ?_
  refine q_icmp_ltN (tgt := 16) (a := j) (b := k) hx hb dJ3_checkIndex_8e157_6 (by decide) (by omega) (by omega) (fun _ => ?_) (fun h => absurd hj (by omega))
  refine lv_iload_n hx hb dJ3_checkIndex_8e157_16 rfl (lv_at hl 0 rfl) ?_
  exact RO.iret S hr hlk rfl dJ3_checkIndex_8e157_17
theorem c_J0_check (j k : Nat) (hj : j < k) (hk : k < 2147483648) : RV mt ka kk vv l yJ0_checkIndex_df160 cJ0_checkIndex_df160 2 none 1 D cI cJ [] [.int (nI j), .int (nI k)] := by
  refine RV.of (by decide) (Nat.le_of_ble_eq_true rfl) (fun p e s m below meth c ls S hr hlk hK hP hZ hl => ?_)
  obtain ⟨hx, hb, hml, hown, hU⟩ := id S
  have hl : lv_has ls 2 [(0, .int (nI j)), (1, .int (nI k))] := hl
  refine lv_iload_n hx hb dJ0_checkIndex_df160_0 rfl (lv_at hl 0 rfl) ?_
  refine lv_iload_n hx hb dJ0_checkIndex_df160_1 rfl (lv_at hl 1 rfl) ?_
  rcases hZ.2.2.2.1 with hq | ⟨q, hq⟩
  · refine va_gets hx hb hq va_S.rf hown (hU _ mF_J0_1053) (fun _ h => h) dJ0_checkIndex_df160_2 ?_
    refine RO.callS S ks_J0_1059 (c_J3_check_n l D cI cJ j k hj hk) hK va_P_nil ⟨Nat.le_of_ble_eq_true rfl, Nat.le_of_ble_eq_true rfl⟩ hl.1 rfl rfl (Nat.le_of_ble_eq_true rfl) (Nat.zero_le _) (Nat.zero_le _) dJ0_checkIndex_df160_5 ?_
    refine lv_pop hx hb dJ0_checkIndex_df160_8 rfl ?_
    exact RV.vret S hr hlk dJ0_checkIndex_df160_9
  · refine va_gets hx hb hq va_S.rf hown (hU _ mF_J0_1053) (fun _ h => h) dJ0_checkIndex_df160_2 ?_
    refine RO.callS S ks_J0_1059 (c_J3_check_r l D cI cJ j k q hj hk) hK va_P_nil ⟨Nat.le_of_ble_eq_true rfl, Nat.le_of_ble_eq_true rfl⟩ hl.1 rfl rfl (Nat.le_of_ble_eq_true rfl) (Nat.zero_le _) (Nat.zero_le _) dJ0_checkIndex_df160_5 ?_
    refine lv_pop hx hb dJ0_checkIndex_df160_8 rfl ?_
    exact RV.vret S hr hlk dJ0_checkIndex_df160_9
theorem c_J1_charAt (i j : Nat) (hi : i < 13) (hj : j < lenT.getD i 0) : RY mt ka kk vv l yJ1_charAt_3b067 cJ1_charAt_3b067 2 (some .char) 2 D cI cJ [] [.ref (vv i), .int (nI j)] (.int (nI ((csT i).getD j 0))) := by
  have hL7 := lenT_lt i hi
  refine RY.of (by decide) (Nat.le_of_ble_eq_true rfl) (fun p e s m below meth c ls S hr hlk hK hP hZ hl => ?_)
  obtain ⟨hx, hb, hml, hown, hU⟩ := id S
  have hl : lv_has ls 2 [(0, .ref (vv i)), (1, .int (nI j))] := hl
  have hT := (hZ.2.1.1 i hi).2.2.2
  refine lv_iload_n hx hb dJ1_charAt_3b067_0 rfl (lv_at hl 1 rfl) ?_
  refine lv_aload_n hx hb dJ1_charAt_3b067_1 rfl (lv_at hl 0 rfl) ?_
  refine va_tlen hx hb hT va_S.rf (v := nI (lenT.getD i 0)) rfl dJ1_charAt_3b067_2 ?_
  refine RV.callS hZ va_S.rf S ks_J1_9 (c_J0_check l D cI cJ mt ka kk vv j (lenT.getD i 0) hj (by omega)) hK va_P_nil ⟨Nat.le_of_ble_eq_true rfl, Nat.le_of_ble_eq_true rfl⟩ hl.1 rfl (rest := []) rfl (Nat.le_of_ble_eq_true rfl) (Nat.zero_le _) (Nat.zero_le _) dJ1_charAt_3b067_3 ?_
  refine lv_aload_n hx hb dJ1_charAt_3b067_6 rfl (lv_at hl 0 rfl) ?_
  refine lv_iload_n hx hb dJ1_charAt_3b067_7 rfl (lv_at hl 1 rfl) ?_
  refine va_tb hx hb hT va_S.rf (i := nI j) (v := .int ((bytT.getD i []).getD j 0)) (vp_in_nI hj (by omega)) (by rw [nI_clamp (by omega)]) dJ1_charAt_3b067_8 ?_
  refine lv_sipush (v := nI 255) hx hb dJ1_charAt_3b067_9 (by decide) ?_
  refine lv_iand hx hb dJ1_charAt_3b067_12 ?_
  refine lv_i2c hx hb dJ1_charAt_3b067_13 (chT_ok i hi j hj) ?_
  exact RO.nret S hr hlk (chT_nar i hi j hj) rfl dJ1_charAt_3b067_14
theorem c_J0_isLatin1 (i : Nat) (hi : i < 13) : RY mt ka kk vv l yJ0_isLatin1_aae02 cJ0_isLatin1_aae02 1 (some .boolean) 0 D cI cJ [] [.ref (kk i)] (.int (nI 1)) := by
  refine RY.of (by decide) (Nat.le_of_ble_eq_true rfl) (fun p e s m below meth c ls S hr hlk hK hP hZ hl => ?_)
  obtain ⟨hx, hb, hml, hown, hU⟩ := id S
  have hl : lv_has ls 1 [(0, .ref (kk i))] := hl
  refine va_gets hx hb hZ.2.2.1 va_S.rf hown (hU _ mF_J0_38) (fun _ h => h) dJ0_isLatin1_aae02_0 ?_
  refine q_if_eqN (tgt := 17) (a := 1) hx hb dJ0_isLatin1_aae02_3 (by decide) (by omega) (fun h => absurd h (by omega)) (fun _ => ?_)
  refine lv_aload_n hx hb dJ0_isLatin1_aae02_6 rfl (lv_at hl 0 rfl) ?_
  refine vk_getf hx hb (hZ.2.1.1 i hi).2.1 va_S.rf hown (hU _ mF_J0_15) (fun _ h => h) dJ0_isLatin1_aae02_7 ?_
  refine q_eqi (y := nI 0) rfl ?_
  refine q_if_neN (tgt := 17) (a := 0) hx hb dJ0_isLatin1_aae02_10 (by decide) (by omega) (fun h => absurd h (by omega)) (fun _ => ?_)
  refine lv_iconst (v := nI 1) hx hb dJ0_isLatin1_aae02_13 (by decide) ?_
  refine lv_goto (tgt := 18) hx hb dJ0_isLatin1_aae02_14 (by decide) ?_
  exact RO.nret S hr hlk (by decide) rfl dJ0_isLatin1_aae02_18
theorem c_J0_coder (i : Nat) (hi : i < 13) : RY mt ka kk vv l yJ0_coder_7d493 cJ0_coder_7d493 1 (some .byte) 0 D cI cJ [] [.ref (kk i)] (.int (nI 0)) := by
  refine RY.of (by decide) (Nat.le_of_ble_eq_true rfl) (fun p e s m below meth c ls S hr hlk hK hP hZ hl => ?_)
  obtain ⟨hx, hb, hml, hown, hU⟩ := id S
  have hl : lv_has ls 1 [(0, .ref (kk i))] := hl
  refine va_gets hx hb hZ.2.2.1 va_S.rf hown (hU _ mF_J0_38) (fun _ h => h) dJ0_coder_7d493_0 ?_
  refine q_if_eqN (tgt := 13) (a := 1) hx hb dJ0_coder_7d493_3 (by decide) (by omega) (fun h => absurd h (by omega)) (fun _ => ?_)
  refine lv_aload_n hx hb dJ0_coder_7d493_6 rfl (lv_at hl 0 rfl) ?_
  refine vk_getf hx hb (hZ.2.1.1 i hi).2.1 va_S.rf hown (hU _ mF_J0_15) (fun _ h => h) dJ0_coder_7d493_7 ?_
  refine q_eqi (y := nI 0) rfl ?_
  refine lv_goto (tgt := 14) hx hb dJ0_coder_7d493_10 (by decide) ?_
  exact RO.nret S hr hlk (by decide) rfl dJ0_coder_7d493_14
theorem c_J0_length (i : Nat) (hi : i < 13) : RY mt ka kk vv l yJ0_length_8abf5 cJ0_length_8abf5 1 (some .int) 1 D cI cJ [] [.ref (kk i)] (.int (nI (lenT.getD i 0))) := by
  refine RY.of (by decide) (Nat.le_of_ble_eq_true rfl) (fun p e s m below meth c ls S hr hlk hK hP hZ hl => ?_)
  obtain ⟨hx, hb, hml, hown, hU⟩ := id S
  have hl : lv_has ls 1 [(0, .ref (kk i))] := hl
  refine lv_aload_n hx hb dJ0_length_8abf5_0 rfl (lv_at hl 0 rfl) ?_
  refine vk_getf hx hb (hZ.2.1.1 i hi).2.2.1 va_S.rf hown (hU _ mF_J0_9) (fun _ h => h) dJ0_length_8abf5_1 ?_
  refine va_tlen hx hb (hZ.2.1.1 i hi).2.2.2 va_S.rf (v := nI (lenT.getD i 0)) rfl dJ0_length_8abf5_4 ?_
  refine lv_aload_n hx hb dJ0_length_8abf5_5 rfl (lv_at hl 0 rfl) ?_
  refine RY.callK hi hZ va_S.rf S kk_J0_335 rfl (c_J0_coder l D cI cJ mt ka kk vv i hi) hK va_P_nil ⟨Nat.le_of_ble_eq_true rfl, Nat.le_of_ble_eq_true rfl⟩ hl.1 rfl rfl (Nat.le_of_ble_eq_true rfl) (Nat.zero_le _) (Nat.zero_le _) dJ0_length_8abf5_6 ?_
  refine lv_ishr hx hb dJ0_length_8abf5_9 ?_
  refine q_eqi (y := nI (lenT.getD i 0)) (sb_shr0 _) ?_
  exact RO.iret S hr hlk rfl dJ0_length_8abf5_10
theorem c_J0_charAt (i j : Nat) (hi : i < 13) (hj : j < lenT.getD i 0) : RY mt ka kk vv l yJ0_charAt_5068e cJ0_charAt_5068e 2 (some .char) 3 D cI cJ [] [.ref (kk i), .int (nI j)] (.int (nI ((csT i).getD j 0))) := by
  refine RY.of (by decide) (Nat.le_of_ble_eq_true rfl) (fun p e s m below meth c ls S hr hlk hK hP hZ hl => ?_)
  obtain ⟨hx, hb, hml, hown, hU⟩ := id S
  have hl : lv_has ls 2 [(0, .ref (kk i)), (1, .int (nI j))] := hl
  refine lv_aload_n hx hb dJ0_charAt_5068e_0 rfl (lv_at hl 0 rfl) ?_
  refine RY.callK hi hZ va_S.rf S kk_J0_492 rfl (c_J0_isLatin1 l D cI cJ mt ka kk vv i hi) hK va_P_nil ⟨Nat.le_of_ble_eq_true rfl, Nat.le_of_ble_eq_true rfl⟩ hl.1 rfl rfl (Nat.le_of_ble_eq_true rfl) (Nat.zero_le _) (Nat.zero_le _) dJ0_charAt_5068e_1 ?_
  refine q_if_eqN (tgt := 16) (a := 1) hx hb dJ0_charAt_5068e_4 (by decide) (by omega) (fun h => absurd h (by omega)) (fun _ => ?_)
  refine lv_aload_n hx hb dJ0_charAt_5068e_7 rfl (lv_at hl 0 rfl) ?_
  refine vk_getf hx hb (hZ.2.1.1 i hi).2.2.1 va_S.rf hown (hU _ mF_J0_9) (fun _ h => h) dJ0_charAt_5068e_8 ?_
  refine lv_iload_n hx hb dJ0_charAt_5068e_11 rfl (lv_at hl 1 rfl) ?_
  refine RY.callS hZ va_S.rf S ks_J0_495 (c_J1_charAt l D cI cJ mt ka kk vv i j hi hj) hK va_P_nil ⟨Nat.le_of_ble_eq_true rfl, Nat.le_of_ble_eq_true rfl⟩ hl.1 rfl rfl (Nat.le_of_ble_eq_true rfl) (Nat.zero_le _) (Nat.zero_le _) dJ0_charAt_5068e_12 ?_
  exact RO.nret S hr hlk (chT_nar i hi j hj) rfl dJ0_charAt_5068e_15
end JStr

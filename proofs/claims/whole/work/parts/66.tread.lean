theorem iX_to {b : Nat → Int32} {L : Nat} {f : Nat → Int32} {S n k m : Nat} (h : ¬ (iX b L f S n k m).1 = true) : ∀ q, iX b L f S n k (m + q) = iX b L f S n k m
  | 0 => rfl
  | q + 1 => by
    have ih := iX_to h q
    have h2 : ¬ (iX b L f S n k (m + q)).1 = true := by rw [ih]; exact h
    rw [show m + (q + 1) = (m + q) + 1 by omega, iX_f h2, ih]
theorem vX_to {b : Nat → Int32} {L : Nat} {v : Int32} {f : Nat → Int32} {S n k m : Nat} (h : ¬ (iX b L f S n k m).1 = true) : ∀ q, vX b L v f S n k (m + q) = vX b L v f S n k m
  | 0 => rfl
  | q + 1 => by
    have ih := vX_to (v := v) h q
    have h2 : ¬ (iX b L f S n k (m + q)).1 = true := by rw [iX_to h q]; exact h
    rw [show m + (q + 1) = (m + q) + 1 by omega, vX_f h2, ih]
theorem txL_ct {b : Nat → Int32} {L : Nat} : ∀ {m c : Nat} {x : Bool × (Nat → Int32) × Nat}, (txL b L m x c).2 ≤ c + m
  | 0, c, x => Nat.le_refl _
  | m + 1, c, x => by
    by_cases h : x.1 = true ∧ tK b L x.2.2 = 3
    · rw [txL_1 h]
      have := txL_ct (b := b) (L := L) (m := m) (c := c + 1) (x := iT b L x.2.1 (nx b L x.2.2) (nO x.2.1))
      omega
    · rw [txL_0 h]
      show c ≤ c + (m + 1)
      omega
theorem txL_le {b : Nat → Int32} {L : Nat} : ∀ {m c : Nat} {x : Bool × (Nat → Int32) × Nat}, x.2.2 ≤ L → (txL b L m x c).1.2.2 ≤ L
  | 0, c, x, hx => hx
  | m + 1, c, x, hx => by
    by_cases h : x.1 = true ∧ tK b L x.2.2 = 3
    · rw [txL_1 h]
      exact txL_le (iT_le (nx_le hx))
    · rw [txL_0 h]
      exact hx
theorem txA_ct {b : Nat → Int32} {L : Nat} {f : Nat → Int32} : (txA b L f).2 ≤ 121 := txL_ct
theorem txA_le {b : Nat → Int32} {L : Nat} {f : Nat → Int32} : (txA b L f).1.2.2 ≤ L := txL_le (iT_le (sS_le (Nat.zero_le L)).2)
theorem m1_lt : ∀ {S : Nat}, S ≤ 120 → (-1 : Int32) - nI S < 0 := by
  have h : ∀ S : Nat, S < 121 → (-1 : Int32) - nI S < 0 := by decide +kernel
  exact fun {S} hS => h S (by omega)
theorem TW_cs {cI cJ : ClassId} {t : Nat → Nat} {f g h : Nat → Int32} {τ : Nat → Nat → Int32} {L S : Nat} {v : Int32} : TW cI cJ t f g h (CS τ L S v) = (TH t τ ++ (PW cI (sf t 1) f ++ (PW cI (sf t 12) g ++ PW cI (sf t 23) h))) ++ (TT cI (sf t 34) (CS τ L S v) ++ (SH cI cJ (sf t 36) τ ++ TF cI t τ)) := by
  rw [TW_s4]
  rfl
theorem TW_ck {cI cJ : ClassId} {t : Nat → Nat} {f g h : Nat → Int32} {τ : Nat → Nat → Int32} {k s e v : Int32} : TW cI cJ t f g h (CK τ k s e v) = (TH t τ ++ (PW cI (sf t 1) f ++ (PW cI (sf t 12) g ++ PW cI (sf t 23) h))) ++ (TT cI (sf t 34) (CK τ k s e v) ++ (SH cI cJ (sf t 36) τ ++ TF cI t τ)) := by
  rw [TW_s4]
  rfl
set_option maxRecDepth 100000 in
set_option maxHeartbeats 4000000 in
theorem c_X2_isWord (l : Launch) (D : va_G) (cI cJ : ClassId) (o : Nat → Nat) (τ : Nat → Nat → Int32) (mt ka : Nat) (kk vv : Nat → Nat) (v5 : Int32) (L : Nat) (S9 : Nat) (hL : τ 0 1 = nI L) (hL120 : L ≤ 120) (hS9 : S9 ≤ L) (i : Nat) (hi : i < 13) : RY mt ka kk vv l yX2_isWord cX2_isWord 3 (some .boolean) 4 D cI cJ (TT cI o (CS τ L S9 v5)) [.ref (o 0), .ref (kk i)] (.int (bI (wd (τ 1) L S9 (csT i) = true))) := by
  have hte := tE_le (b := τ 1) (L := L) (s := S9) hS9
  have htv := tV_lt (b := τ 1) (L := L) (s := S9)
  have htk := tK_lt (b := τ 1) (L := L) (s := S9)
  have hL7 := lenT_lt i hi
  have hLc := lenT_cs i hi
  refine RY.of (by decide) (Nat.le_of_ble_eq_true rfl) (fun p e s m below meth c ls S hr hlk hK hP hZ hl => ?_)
  obtain ⟨hx, hb, hml, hown, hU⟩ := id S
  have hl : lv_has ls 3 [(0, .ref (o 0)), (1, .ref (kk i))] := hl
  refine lv_aload_n hx hb dX2_isWord_0 rfl (lv_at hl 0 rfl) ?_
  refine g22_token S hK hP dX2_isWord_1 ?_
  refine lv_iconst (v := nI 1) hx hb dX2_isWord_4 (by decide) ?_
  refine q_icmp_neN (tgt := 24) (a := tK (τ 1) L S9) (b := 1) hx hb dX2_isWord_5 (by decide) (by omega) (by omega) (fun c_5 => ?_) (fun c_5 => ?_)
  · refine lv_iconst (v := nI 0) hx hb dX2_isWord_24 (by decide) ?_
    exact RO.zret S hr hlk (bI_f (fun q5 => c_5 (wd_iff.mp q5).1)) dX2_isWord_25
  · refine lv_aload_n hx hb dX2_isWord_8 rfl (lv_at hl 0 rfl) ?_
    refine g22_end S hK hP dX2_isWord_9 ?_
    refine lv_aload_n hx hb dX2_isWord_12 rfl (lv_at hl 0 rfl) ?_
    refine g22_start S hK hP dX2_isWord_13 ?_
    refine q_isubN (a := tE (τ 1) L S9) (b := S9) hx hb dX2_isWord_16 (by omega) ?_
    refine lv_aload_n hx hb dX2_isWord_17 rfl (lv_at hl 1 rfl) ?_
    refine RY.callK (hi) hZ va_S.rf S kk_X2_110 rfl (c_J0_length l D cI cJ mt ka kk vv i (hi)) hK va_P_nil ⟨Nat.le_of_ble_eq_true rfl, Nat.le_of_ble_eq_true rfl⟩ hl.1 rfl rfl (Nat.le_of_ble_eq_true rfl) (Nat.zero_le _) (Nat.zero_le _) dX2_isWord_18 ?_
    refine q_icmp_eqN (tgt := 26) (a := (tE (τ 1) L S9) - S9) (b := lenT.getD i 0) hx hb dX2_isWord_21 (by decide) (by omega) (by omega) (fun c_21 => ?_) (fun c_21 => ?_)
    · refine lv_iconst (v := nI 0) hx hb dX2_isWord_26 (by decide) ?_
      refine lv_istore_n (lv' := [(2, .int (nI 0)), (0, .ref (o 0)), (1, .ref (kk i))]) hx hb dX2_isWord_27 rfl hl (by decide) rfl (fun ls hl => ?_)
      have L_28 : ∀ (n9 : Nat) (j : Nat) (ls : Array Slot), lenT.getD i 0 - j < n9 → (j ≤ lenT.getD i 0) → (∀ t9, t9 < j → τ 1 (S9 + t9) = nI ((csT i).getD t9 0)) → lv_has ls 3 [(0, .ref (o 0)), (1, .ref (kk i)), (2, .int (nI j))] → W p l e (rmd 4) s m ([.ref (o 0), .ref (kk i)] : List Value).toArray below meth c s.heap [] 0 0 (ZR below ([.ref (o 0), .ref (kk i)] : List Value).toArray s (.int (bI (wd (τ 1) L S9 (csT i) = true)))) (F0 m 28 ls []) := by
        intro n9
        induction n9 with
        | zero => intro j ls hmeas; exact absurd hmeas (Nat.not_lt_zero _)
        | succ n9 ih_28 =>
          intro j ls hmeas hj hM hl
          refine lv_iload_n hx hb dX2_isWord_28 rfl (lv_at hl 2 rfl) ?_
          refine lv_aload_n hx hb dX2_isWord_29 rfl (lv_at hl 1 rfl) ?_
          refine RY.callK (hi) hZ va_S.rf S kk_X2_110 rfl (c_J0_length l D cI cJ mt ka kk vv i (hi)) hK va_P_nil ⟨Nat.le_of_ble_eq_true rfl, Nat.le_of_ble_eq_true rfl⟩ hl.1 rfl rfl (Nat.le_of_ble_eq_true rfl) (Nat.zero_le _) (Nat.zero_le _) dX2_isWord_30 ?_
          refine q_icmp_geN (tgt := 63) (a := j) (b := lenT.getD i 0) hx hb dX2_isWord_33 (by decide) (by omega) (by omega) (fun c_33 => ?_) (fun c_33 => ?_)
          · refine lv_iconst (v := nI 1) hx hb dX2_isWord_63 (by decide) ?_
            exact RO.zret S hr hlk (bI_t (wd_iff.mpr ⟨by omega, by omega, fun t9 ht9 => hM t9 (by omega)⟩)) dX2_isWord_64
          · refine lv_aload_n hx hb dX2_isWord_36 rfl (lv_at hl 0 rfl) ?_
            refine g22_bytes S hK hP dX2_isWord_37 ?_
            refine lv_aload_n hx hb dX2_isWord_40 rfl (lv_at hl 0 rfl) ?_
            refine g22_start S hK hP dX2_isWord_41 ?_
            refine lv_iload_n hx hb dX2_isWord_44 rfl (lv_at hl 2 rfl) ?_
            refine q_iaddN (a := S9) (b := j) hx hb dX2_isWord_45 ?_
            refine l2_bytes S hK hP (j := S9 + j) (by omega) dX2_isWord_46 ?_
            refine q_eqi (y := τ 1 (S9 + j)) (rfl) ?_
            refine lv_aload_n hx hb dX2_isWord_47 rfl (lv_at hl 1 rfl) ?_
            refine lv_iload_n hx hb dX2_isWord_48 rfl (lv_at hl 2 rfl) ?_
            refine RY.callK (hi) hZ va_S.rf S kk_X2_114 rfl (c_J0_charAt l D cI cJ mt ka kk vv i j (hi) (by omega)) hK va_P_nil ⟨Nat.le_of_ble_eq_true rfl, Nat.le_of_ble_eq_true rfl⟩ hl.1 rfl rfl (Nat.le_of_ble_eq_true rfl) (Nat.zero_le _) (Nat.zero_le _) dX2_isWord_49 ?_
            refine lv_icmp_eq (tgt := 57) hx hb dX2_isWord_52 (by decide) (fun c_52 => ?_) (fun c_52 => ?_)
            · refine lv_iinc (v := nI (j + 1)) (lv' := [(2, .int (nI (j + 1))), (0, .ref (o 0)), (1, .ref (kk i))]) hx hb dX2_isWord_57 hl (k := 2) rfl (q_inc _) (by decide) rfl (fun ls hl => ?_)
              refine lv_goto (tgt := 28) hx hb dX2_isWord_60 (by decide) ?_
              exact ih_28 (j + 1) ls (by omega) (by omega) (fun t9 h9 => by
        by_cases e9 : t9 = j
        · rw [e9]; exact c_52
        · exact hM t9 (by omega)) (lv_sub hl [1, 2, 0] rfl)
            · refine lv_iconst (v := nI 0) hx hb dX2_isWord_55 (by decide) ?_
              exact RO.zret S hr hlk (bI_f (fun q5 => c_52 ((wd_iff.mp q5).2.2 j (by omega)))) dX2_isWord_56
      exact L_28 ((lenT.getD i 0 - 0) + 1) 0 ls (Nat.lt_succ_self _) (Nat.zero_le _) (fun t9 h9 => absurd h9 (Nat.not_lt_zero _)) (lv_sub hl [1, 2, 0] rfl)
    · refine lv_iconst (v := nI 0) hx hb dX2_isWord_24 (by decide) ?_
      exact RO.zret S hr hlk (bI_f (fun q5 => c_21 (by have h9 := (wd_iff.mp q5).2.1; omega))) dX2_isWord_25
set_option maxRecDepth 100000 in
set_option maxHeartbeats 4000000 in
theorem c_X2_nameOfKind_0 (l : Launch) (D : va_G) (cI cJ : ClassId) (o : Nat → Nat) (τ : Nat → Nat → Int32) (mt ka : Nat) (kk vv : Nat → Nat) : RY mt ka kk vv l yX2_nameOfKind cX2_nameOfKind 1 (some (.object "java/lang/String")) 0 D cI cJ (TT cI o τ) [.int (nI 0)] (.ref (kk (lkT 0))) := by
  refine RY.of (by decide) (Nat.le_of_ble_eq_true rfl) (fun p e s m below meth c ls S hr hlk hK hP hZ hl => ?_)
  obtain ⟨hx, hb, hml, hown, hU⟩ := id S
  have hl : lv_has ls 1 [(0, .int (nI 0))] := hl
  refine lv_iload_n hx hb dX2_nameOfKind_0 rfl (lv_at hl 0 rfl) ?_
  refine lv_tableOut (tgt := 58) hx hb dX2_nameOfKind_1 (Or.inl (by decide)) (by decide) ?_
  refine va_ldcS hx hb hown (show vk_R RX2 108 "cask" (kk 12) s from hZ.2.2.2.2.1 12 (by decide)) dX2_nameOfKind_58 ?_
  exact RO.sret S hr ⟨_, rfl⟩ hlk rfl dX2_nameOfKind_60
set_option maxRecDepth 100000 in
set_option maxHeartbeats 4000000 in
theorem c_X2_nameOfKind_1 (l : Launch) (D : va_G) (cI cJ : ClassId) (o : Nat → Nat) (τ : Nat → Nat → Int32) (mt ka : Nat) (kk vv : Nat → Nat) : RY mt ka kk vv l yX2_nameOfKind cX2_nameOfKind 1 (some (.object "java/lang/String")) 0 D cI cJ (TT cI o τ) [.int (nI 1)] (.ref (kk (lkT 1))) := by
  refine RY.of (by decide) (Nat.le_of_ble_eq_true rfl) (fun p e s m below meth c ls S hr hlk hK hP hZ hl => ?_)
  obtain ⟨hx, hb, hml, hown, hU⟩ := id S
  have hl : lv_has ls 1 [(0, .int (nI 1))] := hl
  refine lv_iload_n hx hb dX2_nameOfKind_0 rfl (lv_at hl 0 rfl) ?_
  refine lv_tableIn (tgt := 40) hx hb dX2_nameOfKind_1 (by decide) (by decide) rfl (by decide) ?_
  refine va_ldcS hx hb hown (show vk_R RX2 96 "crack" (kk 6) s from hZ.2.2.2.2.1 6 (by decide)) dX2_nameOfKind_40 ?_
  exact RO.sret S hr ⟨_, rfl⟩ hlk rfl dX2_nameOfKind_42
set_option maxRecDepth 100000 in
set_option maxHeartbeats 4000000 in
theorem c_X2_nameOfKind_2 (l : Launch) (D : va_G) (cI cJ : ClassId) (o : Nat → Nat) (τ : Nat → Nat → Int32) (mt ka : Nat) (kk vv : Nat → Nat) : RY mt ka kk vv l yX2_nameOfKind cX2_nameOfKind 1 (some (.object "java/lang/String")) 0 D cI cJ (TT cI o τ) [.int (nI 2)] (.ref (kk (lkT 2))) := by
  refine RY.of (by decide) (Nat.le_of_ble_eq_true rfl) (fun p e s m below meth c ls S hr hlk hK hP hZ hl => ?_)
  obtain ⟨hx, hb, hml, hown, hU⟩ := id S
  have hl : lv_has ls 1 [(0, .int (nI 2))] := hl
  refine lv_iload_n hx hb dX2_nameOfKind_0 rfl (lv_at hl 0 rfl) ?_
  refine lv_tableIn (tgt := 43) hx hb dX2_nameOfKind_1 (by decide) (by decide) rfl (by decide) ?_
  refine va_ldcS hx hb hown (show vk_R RX2 98 "roll" (kk 7) s from hZ.2.2.2.2.1 7 (by decide)) dX2_nameOfKind_43 ?_
  exact RO.sret S hr ⟨_, rfl⟩ hlk rfl dX2_nameOfKind_45
set_option maxRecDepth 100000 in
set_option maxHeartbeats 4000000 in
theorem c_X2_nameOfKind_3 (l : Launch) (D : va_G) (cI cJ : ClassId) (o : Nat → Nat) (τ : Nat → Nat → Int32) (mt ka : Nat) (kk vv : Nat → Nat) : RY mt ka kk vv l yX2_nameOfKind cX2_nameOfKind 1 (some (.object "java/lang/String")) 0 D cI cJ (TT cI o τ) [.int (nI 3)] (.ref (kk (lkT 3))) := by
  refine RY.of (by decide) (Nat.le_of_ble_eq_true rfl) (fun p e s m below meth c ls S hr hlk hK hP hZ hl => ?_)
  obtain ⟨hx, hb, hml, hown, hU⟩ := id S
  have hl : lv_has ls 1 [(0, .int (nI 3))] := hl
  refine lv_iload_n hx hb dX2_nameOfKind_0 rfl (lv_at hl 0 rfl) ?_
  refine lv_tableIn (tgt := 46) hx hb dX2_nameOfKind_1 (by decide) (by decide) rfl (by decide) ?_
  refine va_ldcS hx hb hown (show vk_R RX2 100 "mellow" (kk 8) s from hZ.2.2.2.2.1 8 (by decide)) dX2_nameOfKind_46 ?_
  exact RO.sret S hr ⟨_, rfl⟩ hlk rfl dX2_nameOfKind_48
set_option maxRecDepth 100000 in
set_option maxHeartbeats 4000000 in
theorem c_X2_nameOfKind_4 (l : Launch) (D : va_G) (cI cJ : ClassId) (o : Nat → Nat) (τ : Nat → Nat → Int32) (mt ka : Nat) (kk vv : Nat → Nat) : RY mt ka kk vv l yX2_nameOfKind cX2_nameOfKind 1 (some (.object "java/lang/String")) 0 D cI cJ (TT cI o τ) [.int (nI 4)] (.ref (kk (lkT 4))) := by
  refine RY.of (by decide) (Nat.le_of_ble_eq_true rfl) (fun p e s m below meth c ls S hr hlk hK hP hZ hl => ?_)
  obtain ⟨hx, hb, hml, hown, hU⟩ := id S
  have hl : lv_has ls 1 [(0, .int (nI 4))] := hl
  refine lv_iload_n hx hb dX2_nameOfKind_0 rfl (lv_at hl 0 rfl) ?_
  refine lv_tableIn (tgt := 49) hx hb dX2_nameOfKind_1 (by decide) (by decide) rfl (by decide) ?_
  refine va_ldcS hx hb hown (show vk_R RX2 102 "echo" (kk 9) s from hZ.2.2.2.2.1 9 (by decide)) dX2_nameOfKind_49 ?_
  exact RO.sret S hr ⟨_, rfl⟩ hlk rfl dX2_nameOfKind_51
set_option maxRecDepth 100000 in
set_option maxHeartbeats 4000000 in
theorem c_X2_nameOfKind_5 (l : Launch) (D : va_G) (cI cJ : ClassId) (o : Nat → Nat) (τ : Nat → Nat → Int32) (mt ka : Nat) (kk vv : Nat → Nat) : RY mt ka kk vv l yX2_nameOfKind cX2_nameOfKind 1 (some (.object "java/lang/String")) 0 D cI cJ (TT cI o τ) [.int (nI 5)] (.ref (kk (lkT 5))) := by
  refine RY.of (by decide) (Nat.le_of_ble_eq_true rfl) (fun p e s m below meth c ls S hr hlk hK hP hZ hl => ?_)
  obtain ⟨hx, hb, hml, hown, hU⟩ := id S
  have hl : lv_has ls 1 [(0, .int (nI 5))] := hl
  refine lv_iload_n hx hb dX2_nameOfKind_0 rfl (lv_at hl 0 rfl) ?_
  refine lv_tableIn (tgt := 52) hx hb dX2_nameOfKind_1 (by decide) (by decide) rfl (by decide) ?_
  refine va_ldcS hx hb hown (show vk_R RX2 104 "heat" (kk 10) s from hZ.2.2.2.2.1 10 (by decide)) dX2_nameOfKind_52 ?_
  exact RO.sret S hr ⟨_, rfl⟩ hlk rfl dX2_nameOfKind_54
set_option maxRecDepth 100000 in
set_option maxHeartbeats 4000000 in
theorem c_X2_nameOfKind_6 (l : Launch) (D : va_G) (cI cJ : ClassId) (o : Nat → Nat) (τ : Nat → Nat → Int32) (mt ka : Nat) (kk vv : Nat → Nat) : RY mt ka kk vv l yX2_nameOfKind cX2_nameOfKind 1 (some (.object "java/lang/String")) 0 D cI cJ (TT cI o τ) [.int (nI 6)] (.ref (kk (lkT 6))) := by
  refine RY.of (by decide) (Nat.le_of_ble_eq_true rfl) (fun p e s m below meth c ls S hr hlk hK hP hZ hl => ?_)
  obtain ⟨hx, hb, hml, hown, hU⟩ := id S
  have hl : lv_has ls 1 [(0, .int (nI 6))] := hl
  refine lv_iload_n hx hb dX2_nameOfKind_0 rfl (lv_at hl 0 rfl) ?_
  refine lv_tableIn (tgt := 55) hx hb dX2_nameOfKind_1 (by decide) (by decide) rfl (by decide) ?_
  refine va_ldcS hx hb hown (show vk_R RX2 106 "forged" (kk 11) s from hZ.2.2.2.2.1 11 (by decide)) dX2_nameOfKind_55 ?_
  exact RO.sret S hr ⟨_, rfl⟩ hlk rfl dX2_nameOfKind_57
theorem c_X2_nameOfKind (l : Launch) (D : va_G) (cI cJ : ClassId) (o : Nat → Nat) (τ : Nat → Nat → Int32) (mt ka : Nat) (kk vv : Nat → Nat) (k7 : Nat) (hk7 : k7 < 7) : RY mt ka kk vv l yX2_nameOfKind cX2_nameOfKind 1 (some (.object "java/lang/String")) 0 D cI cJ (TT cI o τ) [.int (nI k7)] (.ref (kk (lkT k7))) := by
  match k7, hk7 with
  | 0, _ => exact c_X2_nameOfKind_0 l D cI cJ o τ mt ka kk vv
  | 1, _ => exact c_X2_nameOfKind_1 l D cI cJ o τ mt ka kk vv
  | 2, _ => exact c_X2_nameOfKind_2 l D cI cJ o τ mt ka kk vv
  | 3, _ => exact c_X2_nameOfKind_3 l D cI cJ o τ mt ka kk vv
  | 4, _ => exact c_X2_nameOfKind_4 l D cI cJ o τ mt ka kk vv
  | 5, _ => exact c_X2_nameOfKind_5 l D cI cJ o τ mt ka kk vv
  | 6, _ => exact c_X2_nameOfKind_6 l D cI cJ o τ mt ka kk vv
set_option maxRecDepth 100000 in
set_option maxHeartbeats 4000000 in
theorem c_X2_kindOfWord (l : Launch) (D : va_G) (cI cJ : ClassId) (o : Nat → Nat) (τ : Nat → Nat → Int32) (mt ka : Nat) (kk vv : Nat → Nat) (v5 : Int32) (L : Nat) (S9 : Nat) (hL : τ 0 1 = nI L) (hL120 : L ≤ 120) (hS9 : S9 ≤ L) : RY mt ka kk vv l yX2_kindOfWord cX2_kindOfWord 2 (some .int) 5 D cI cJ (TT cI o (CS τ L S9 v5)) [.ref (o 0)] (.int (oI (kdO (τ 1) L S9))) := by
  refine RY.of (by decide) (Nat.le_of_ble_eq_true rfl) (fun p e s m below meth c ls S hr hlk hK hP hZ hl => ?_)
  obtain ⟨hx, hb, hml, hown, hU⟩ := id S
  have hl : lv_has ls 2 [(0, .ref (o 0))] := hl
  refine lv_iconst (v := nI 0) hx hb dX2_kindOfWord_0 (by decide) ?_
  refine lv_istore_n (lv' := [(1, .int (nI 0)), (0, .ref (o 0))]) hx hb dX2_kindOfWord_1 rfl hl (by decide) rfl (fun ls hl => ?_)
  have L_2 : ∀ (n9 : Nat) (j : Nat) (ls : Array Slot), 7 - j < n9 → (j ≤ 7) → (fst1 (fun k9 => wd (τ 1) L S9 (wK k9)) (7 - j) j = kdO (τ 1) L S9) → lv_has ls 2 [(0, .ref (o 0)), (1, .int (nI j))] → W p l e (rmd 5) s m ([.ref (o 0)] : List Value).toArray below meth c s.heap [] 0 0 (ZR below ([.ref (o 0)] : List Value).toArray s (.int (oI (kdO (τ 1) L S9)))) (F0 m 2 ls []) := by
    intro n9
    induction n9 with
    | zero => intro j ls hmeas; exact absurd hmeas (Nat.not_lt_zero _)
    | succ n9 ih_2 =>
      intro j ls hmeas hj hF hl
      refine lv_iload_n hx hb dX2_kindOfWord_2 rfl (lv_at hl 1 rfl) ?_
      refine lv_bipush (v := nI 7) hx hb dX2_kindOfWord_3 (by decide) ?_
      refine q_icmp_geN (tgt := 27) (a := j) (b := 7) hx hb dX2_kindOfWord_5 (by decide) (by omega) (by omega) (fun c_5 => ?_) (fun c_5 => ?_)
      · refine lv_iconst (v := (-1)) hx hb dX2_kindOfWord_27 (by decide) ?_
        exact RO.iret S hr hlk (congrArg Value.int (by rw [← hF, show 7 - j = 0 by omega]; rfl)) dX2_kindOfWord_28
      · refine lv_aload_n hx hb dX2_kindOfWord_8 rfl (lv_at hl 0 rfl) ?_
        refine lv_iload_n hx hb dX2_kindOfWord_9 rfl (lv_at hl 1 rfl) ?_
        refine RY.callS hZ va_S.rf S ks_X2_92 (c_X2_nameOfKind l D cI cJ o (CS τ L S9 v5) mt ka kk vv j (by omega)) hK hP ⟨Nat.le_of_ble_eq_true rfl, Nat.le_of_ble_eq_true rfl⟩ hl.1 rfl rfl (Nat.le_of_ble_eq_true rfl) (Nat.zero_le _) (Nat.zero_le _) dX2_kindOfWord_10 ?_
        refine RY.callV hZ va_S.rf S kv_X2_40 (c_X2_isWord l D cI cJ o τ mt ka kk vv v5 L S9 hL hL120 hS9 (lkT j) (lkT_lt j (by omega))) hK hP rfl ⟨Nat.le_of_ble_eq_true rfl, Nat.le_of_ble_eq_true rfl⟩ hl.1 rfl rfl (Nat.le_of_ble_eq_true rfl) (Nat.zero_le _) (Nat.zero_le _) dX2_kindOfWord_13 ?_
        refine q_if_eqB (tgt := 21) hx hb dX2_kindOfWord_16 (by decide) (fun c_16 => ?_) (fun c_16 => ?_)
        · refine lv_iinc (v := nI (j + 1)) (lv' := [(1, .int (nI (j + 1))), (0, .ref (o 0))]) hx hb dX2_kindOfWord_21 hl (k := 1) rfl (q_inc _) (by decide) rfl (fun ls hl => ?_)
          refine lv_goto (tgt := 2) hx hb dX2_kindOfWord_24 (by decide) ?_
          exact ih_2 (j + 1) ls (by omega) (by omega) (by rw [← hF, show 7 - j = (7 - (j + 1)) + 1 by omega, fst1_go (show ¬ wd (τ 1) L S9 (wK j) = true from by rw [← csT_lk j (by omega)]; exact c_16)]) (lv_sub hl [1, 0] rfl)
        · refine lv_iload_n hx hb dX2_kindOfWord_19 rfl (lv_at hl 1 rfl) ?_
          exact RO.iret S hr hlk (congrArg Value.int (by rw [← hF, show 7 - j = (7 - j - 1) + 1 by omega, fst1_hit (show wd (τ 1) L S9 (wK j) = true from by rw [← csT_lk j (by omega)]; exact c_16)]; rfl)) dX2_kindOfWord_20
  exact L_2 ((7 - 0) + 1) 0 ls (Nat.lt_succ_self _) (by omega) (rfl) (lv_sub hl [1, 0] rfl)

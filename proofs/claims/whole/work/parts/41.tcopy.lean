theorem hrun_ok {fr cn sz : Nat} (h : fr + cn ≤ sz) (hs : sz ≤ 40) : 0 ≤ nI fr ∧ 0 ≤ nI cn ∧ nI fr ≤ nI sz ∧ nI cn ≤ nI sz - nI fr := by
  refine ⟨nI_pos' (by omega), nI_pos' (by omega), nI_le (by omega) (by omega), ?_⟩
  rw [Int32.le_iff_toInt_le, pk_sub_toInt (by omega) (by omega), nI_toInt (by omega)]
  omega
section
variable {cI cJ : ClassId} {t o : Nat → Nat} {f g h : Nat → Int32} {τ : Nat → Nat → Int32}
theorem TW_row {sh : Nat} (hs : sh < 4) : (TW cI cJ t f g h τ)[40 + sh]? = some (sf t 36 (4 + sh), .inl (cI, 40, .inl (pv (τ 4) (40 * sh) 40))) := by
  rw [TW_s5]
  have e : 40 + sh = (TH t τ ++ (PW cI (sf t 1) f ++ (PW cI (sf t 12) g ++ (PW cI (sf t 23) h ++ TT cI (sf t 34) τ)))).length + (4 + sh) := by
    rw [show (TH t τ ++ (PW cI (sf t 1) f ++ (PW cI (sf t 12) g ++ (PW cI (sf t 23) h ++ TT cI (sf t 34) τ)))).length = 36 from rfl]
    omega
  rw [e]
  exact get_seg (SH_row hs)
theorem cpy_pv {u : Nat → Int32} {a b fr to cn : Nat} (h1 : fr + cn ≤ 40) (h2 : to + cn ≤ 40) : va_cpy (pv u a 40) (pv u b 40) fr to cn = pv (cpF u (a + fr) (b + to) cn) b 40 := by
  funext i
  unfold va_cpy pv cpF
  by_cases c : to ≤ i ∧ i < to + cn
  · rw [if_pos c, if_pos (by omega), if_pos (by omega), if_pos (by omega), show a + fr + (b + i - (b + to)) = a + (fr + (i - to)) by omega]
  · rw [if_neg c]
    by_cases c2 : i < 40
    · rw [if_pos c2, if_pos c2, if_neg (by omega)]
    · rw [if_neg c2, if_neg c2]
theorem pv_cpF_out {u : Nat → Int32} {A B cn b : Nat} (h : b + 40 ≤ B ∨ B + cn ≤ b) : pv (cpF u A B cn) b 40 = pv u b 40 := by
  funext i
  unfold pv cpF
  by_cases c2 : i < 40
  · rw [if_pos c2, if_pos c2, if_neg (by omega)]
  · rw [if_neg c2, if_neg c2]
theorem SH_cpy {sh th fr to cn : Nat} (hs : sh < 4) (ht : th < 4) (h1 : fr + cn ≤ 40) (h2 : to + cn ≤ 40) : (SH cI cJ o τ).set (4 + th) (o (4 + th), .inl (cI, 40, .inl (va_cpy (pv (τ 4) (40 * sh) 40) (pv (τ 4) (40 * th) 40) fr to cn))) = SH cI cJ o (va_up τ 4 (cpF (τ 4) (40 * sh + fr) (40 * th + to) cn)) := by
  rw [cpy_pv h1 h2]
  have e : ∀ b, b ≠ 40 * th → b % 40 = 0 → pv (cpF (τ 4) (40 * sh + fr) (40 * th + to) cn) b 40 = pv (τ 4) b 40 := fun b hb hm => pv_cpF_out (by omega)
  match th, ht with
  | 0, _ =>
    unfold SH
    rw [show (va_up τ 4 (cpF (τ 4) (40 * sh + fr) (40 * 0 + to) cn)) 4 = cpF (τ 4) (40 * sh + fr) (40 * 0 + to) cn from rfl, e 40 (by omega) (by decide), e 80 (by omega) (by decide), e 120 (by omega) (by decide)]
    rfl
  | 1, _ =>
    unfold SH
    rw [show (va_up τ 4 (cpF (τ 4) (40 * sh + fr) (40 * 1 + to) cn)) 4 = cpF (τ 4) (40 * sh + fr) (40 * 1 + to) cn from rfl, e 0 (by omega) (by decide), e 80 (by omega) (by decide), e 120 (by omega) (by decide)]
    rfl
  | 2, _ =>
    unfold SH
    rw [show (va_up τ 4 (cpF (τ 4) (40 * sh + fr) (40 * 2 + to) cn)) 4 = cpF (τ 4) (40 * sh + fr) (40 * 2 + to) cn from rfl, e 0 (by omega) (by decide), e 40 (by omega) (by decide), e 120 (by omega) (by decide)]
    rfl
  | 3, _ =>
    unfold SH
    rw [show (va_up τ 4 (cpF (τ 4) (40 * sh + fr) (40 * 3 + to) cn)) 4 = cpF (τ 4) (40 * sh + fr) (40 * 3 + to) cn from rfl, e 0 (by omega) (by decide), e 40 (by omega) (by decide), e 80 (by omega) (by decide)]
    rfl
theorem TW_cpy {sh th fr to cn : Nat} (hs : sh < 4) (ht : th < 4) (h1 : fr + cn ≤ 40) (h2 : to + cn ≤ 40) : (TW cI cJ t f g h τ).set (40 + th) (sf t 36 (4 + th), .inl (cI, 40, .inl (va_cpy (pv (τ 4) (40 * sh) 40) (pv (τ 4) (40 * th) 40) fr to cn))) = TW cI cJ t f g h (va_up τ 4 (cpF (τ 4) (40 * sh + fr) (40 * th + to) cn)) := by
  rw [TW_s5]
  have e : 40 + th = (TH t τ ++ (PW cI (sf t 1) f ++ (PW cI (sf t 12) g ++ (PW cI (sf t 23) h ++ TT cI (sf t 34) τ)))).length + (4 + th) := by
    rw [show (TH t τ ++ (PW cI (sf t 1) f ++ (PW cI (sf t 12) g ++ (PW cI (sf t 23) h ++ TT cI (sf t 34) τ)))).length = 36 from rfl]
    omega
  rw [e, set_seg (show 4 + th < (SH cI cJ (sf t 36) τ).length from by rw [show (SH cI cJ (sf t 36) τ).length = 8 from rfl]; omega), SH_cpy hs ht h1 h2]
  exact (TW_s5 (cI := cI) (cJ := cJ) (t := t) (f := f) (g := g) (h := h) (τ := va_up τ 4 (cpF (τ 4) (40 * sh + fr) (40 * th + to) cn))).symm
end
set_option maxRecDepth 100000 in
set_option maxHeartbeats 4000000 in
theorem c_X3_copy_bad (l : Launch) (D : va_G) (cI cJ : ClassId) (t : Nat → Nat) (f g h : Nat → Int32) (τ : Nat → Nat → Int32) (x : Int32) (y : Int32) (z : Int32) (u : Int32) (v : Int32) (hb0 : ¬ ((nI 0 ≤ x ∧ x ≤ nI 3) ∧ (nI 0 ≤ z ∧ z ≤ nI 3))) : WR l yX3_copy cX3_copy 6 (some .int) 1 D cI cJ (TW cI cJ t f g h τ) [.ref (t 0), .int x, .int y, .int z, .int u, .int v] (some (.int (-1000001))) (TW cI cJ t f g h (va_up τ 9 (cFi (τ 9) 0))) := by
  refine WR.of (by decide) (Nat.le_of_ble_eq_true rfl) (fun p e s m below meth c ls A S hr hlk hK hP hD hS hA hl => ?_)
  obtain ⟨hx, hb, hml, hown, hU⟩ := id S
  have hl : lv_has ls 6 [(0, .ref (t 0)), (1, .int x), (2, .int y), (3, .int z), (4, .int u), (5, .int v)] := hl
  refine lv_iload_n hx hb dX3_copy_0 rfl (lv_at hl 1 rfl) ?_
  refine lv_iconst (v := nI 3) hx hb dX3_copy_1 (by decide) ?_
  refine RO.callS S ks_X3_44 (c_X3_isWithin l D cI cJ t f g h τ x (nI 3)) hK hP ⟨Nat.le_of_ble_eq_true rfl, Nat.le_of_ble_eq_true rfl⟩ hl.1 rfl rfl (Nat.le_of_ble_eq_true rfl) (Nat.zero_le _) (Nat.zero_le _) dX3_copy_2 ?_
  refine q_if_eqB (tgt := 16) hx hb dX3_copy_5 (by decide) (fun c_5 => ?_) (fun c_5 => ?_)
  · refine lv_aload_n hx hb dX3_copy_16 rfl (lv_at hl 0 rfl) ?_
    refine lv_iconst (v := nI 0) hx hb dX3_copy_17 (by decide) ?_
    refine WR.callV (w1 := TW cI cJ t f g h (va_up τ 9 (cFi (τ 9) 0))) S kv_X3_48 (c_X3_fd0 l D cI cJ t f g h τ) hK hP hD hS hA ([]) ([]) (List.append_nil _).symm (List.append_nil _).symm TW_fst rfl ⟨Nat.le_of_ble_eq_true rfl, Nat.le_of_ble_eq_true rfl⟩ hl.1 rfl rfl (Nat.le_of_ble_eq_true rfl) (Nat.zero_le _) (Nat.zero_le _) dX3_copy_18 (fun H locs hP hD hS => ?_)
    exact WR.iret S hr hlk hP hS (rfl) rfl dX3_copy_21
  · refine lv_iload_n hx hb dX3_copy_8 rfl (lv_at hl 3 rfl) ?_
    refine lv_iconst (v := nI 3) hx hb dX3_copy_9 (by decide) ?_
    refine RO.callS S ks_X3_44 (c_X3_isWithin l D cI cJ t f g h τ z (nI 3)) hK hP ⟨Nat.le_of_ble_eq_true rfl, Nat.le_of_ble_eq_true rfl⟩ hl.1 rfl rfl (Nat.le_of_ble_eq_true rfl) (Nat.zero_le _) (Nat.zero_le _) dX3_copy_10 ?_
    refine q_if_neB (tgt := 22) hx hb dX3_copy_13 (by decide) (fun c_13 => ?_) (fun c_13 => ?_)
    · exact absurd (⟨c_5, c_13⟩) hb0
    · refine lv_aload_n hx hb dX3_copy_16 rfl (lv_at hl 0 rfl) ?_
      refine lv_iconst (v := nI 0) hx hb dX3_copy_17 (by decide) ?_
      refine WR.callV (w1 := TW cI cJ t f g h (va_up τ 9 (cFi (τ 9) 0))) S kv_X3_48 (c_X3_fd0 l D cI cJ t f g h τ) hK hP hD hS hA ([]) ([]) (List.append_nil _).symm (List.append_nil _).symm TW_fst rfl ⟨Nat.le_of_ble_eq_true rfl, Nat.le_of_ble_eq_true rfl⟩ hl.1 rfl rfl (Nat.le_of_ble_eq_true rfl) (Nat.zero_le _) (Nat.zero_le _) dX3_copy_18 (fun H locs hP hD hS => ?_)
      exact WR.iret S hr hlk hP hS (rfl) rfl dX3_copy_21
set_option maxRecDepth 100000 in
set_option maxHeartbeats 4000000 in
theorem c_X3_copy_miss (l : Launch) (D : va_G) (cI cJ : ClassId) (t : Nat → Nat) (f g h : Nat → Int32) (τ : Nat → Nat → Int32) (sh : Nat) (hsh : sh < 4) (th : Nat) (hth : th < 4) (y : Int32) (u : Int32) (v : Int32) (hb0 : ¬ (¬ τ 2 sh = 0 ∧ ¬ τ 2 th = 0)) : WR l yX3_copy cX3_copy 6 (some .int) 1 D cI cJ (TW cI cJ t f g h τ) [.ref (t 0), .int (nI sh), .int y, .int (nI th), .int u, .int v] (some (.int (-1000006))) (TW cI cJ t f g h (va_up τ 9 (cFi (τ 9) 5))) := by
  refine WR.of (by decide) (Nat.le_of_ble_eq_true rfl) (fun p e s m below meth c ls A S hr hlk hK hP hD hS hA hl => ?_)
  obtain ⟨hx, hb, hml, hown, hU⟩ := id S
  have hl : lv_has ls 6 [(0, .ref (t 0)), (1, .int (nI sh)), (2, .int y), (3, .int (nI th)), (4, .int u), (5, .int v)] := hl
  refine lv_iload_n hx hb dX3_copy_0 rfl (lv_at hl 1 rfl) ?_
  refine lv_iconst (v := nI 3) hx hb dX3_copy_1 (by decide) ?_
  refine RO.callS S ks_X3_44 (c_X3_isWithin l D cI cJ t f g h τ (nI sh) (nI 3)) hK hP ⟨Nat.le_of_ble_eq_true rfl, Nat.le_of_ble_eq_true rfl⟩ hl.1 rfl rfl (Nat.le_of_ble_eq_true rfl) (Nat.zero_le _) (Nat.zero_le _) dX3_copy_2 ?_
  refine q_if_eqB (tgt := 16) hx hb dX3_copy_5 (by decide) (fun h => absurd (⟨nI_le (by omega) (by omega), nI_le (by omega) (by omega)⟩) h) (fun _ => ?_)
  refine lv_iload_n hx hb dX3_copy_8 rfl (lv_at hl 3 rfl) ?_
  refine lv_iconst (v := nI 3) hx hb dX3_copy_9 (by decide) ?_
  refine RO.callS S ks_X3_44 (c_X3_isWithin l D cI cJ t f g h τ (nI th) (nI 3)) hK hP ⟨Nat.le_of_ble_eq_true rfl, Nat.le_of_ble_eq_true rfl⟩ hl.1 rfl rfl (Nat.le_of_ble_eq_true rfl) (Nat.zero_le _) (Nat.zero_le _) dX3_copy_10 ?_
  refine q_if_neB (tgt := 22) hx hb dX3_copy_13 (by decide) (fun _ => ?_) (fun h => absurd (⟨nI_le (by omega) (by omega), nI_le (by omega) (by omega)⟩) h)
  refine lv_aload_n hx hb dX3_copy_22 rfl (lv_at hl 0 rfl) ?_
  refine g3_sheets S hK hP dX3_copy_23 ?_
  refine lv_iload_n hx hb dX3_copy_26 rfl (lv_at hl 1 rfl) ?_
  refine RO.callV S kv_X3_204 (c_X1_isMissing l D cI cJ (sf t 36) τ sh (by omega)) hK (TW_sheets hP) rfl ⟨Nat.le_of_ble_eq_true rfl, Nat.le_of_ble_eq_true rfl⟩ hl.1 rfl rfl (Nat.le_of_ble_eq_true rfl) (Nat.zero_le _) (Nat.zero_le _) dX3_copy_27 ?_
  refine q_if_neB (tgt := 44) hx hb dX3_copy_30 (by decide) (fun c_30 => ?_) (fun c_30 => ?_)
  · refine lv_aload_n hx hb dX3_copy_44 rfl (lv_at hl 0 rfl) ?_
    refine lv_iconst (v := nI 5) hx hb dX3_copy_45 (by decide) ?_
    refine WR.callV (w1 := TW cI cJ t f g h (va_up τ 9 (cFi (τ 9) 5))) S kv_X3_48 (c_X3_fd5 l D cI cJ t f g h τ) hK hP hD hS hA ([]) ([]) (List.append_nil _).symm (List.append_nil _).symm TW_fst rfl ⟨Nat.le_of_ble_eq_true rfl, Nat.le_of_ble_eq_true rfl⟩ hl.1 rfl rfl (Nat.le_of_ble_eq_true rfl) (Nat.zero_le _) (Nat.zero_le _) dX3_copy_46 (fun H locs hP hD hS => ?_)
    exact WR.iret S hr hlk hP hS (rfl) rfl dX3_copy_49
  · refine lv_aload_n hx hb dX3_copy_33 rfl (lv_at hl 0 rfl) ?_
    refine g3_sheets S hK hP dX3_copy_34 ?_
    refine lv_iload_n hx hb dX3_copy_37 rfl (lv_at hl 3 rfl) ?_
    refine RO.callV S kv_X3_204 (c_X1_isMissing l D cI cJ (sf t 36) τ th (by omega)) hK (TW_sheets hP) rfl ⟨Nat.le_of_ble_eq_true rfl, Nat.le_of_ble_eq_true rfl⟩ hl.1 rfl rfl (Nat.le_of_ble_eq_true rfl) (Nat.zero_le _) (Nat.zero_le _) dX3_copy_38 ?_
    refine q_if_eqB (tgt := 50) hx hb dX3_copy_41 (by decide) (fun c_41 => ?_) (fun c_41 => ?_)
    · exact absurd (⟨c_30, c_41⟩) hb0
    · refine lv_aload_n hx hb dX3_copy_44 rfl (lv_at hl 0 rfl) ?_
      refine lv_iconst (v := nI 5) hx hb dX3_copy_45 (by decide) ?_
      refine WR.callV (w1 := TW cI cJ t f g h (va_up τ 9 (cFi (τ 9) 5))) S kv_X3_48 (c_X3_fd5 l D cI cJ t f g h τ) hK hP hD hS hA ([]) ([]) (List.append_nil _).symm (List.append_nil _).symm TW_fst rfl ⟨Nat.le_of_ble_eq_true rfl, Nat.le_of_ble_eq_true rfl⟩ hl.1 rfl rfl (Nat.le_of_ble_eq_true rfl) (Nat.zero_le _) (Nat.zero_le _) dX3_copy_46 (fun H locs hP hD hS => ?_)
      exact WR.iret S hr hlk hP hS (rfl) rfl dX3_copy_49
set_option maxRecDepth 100000 in
set_option maxHeartbeats 4000000 in
theorem c_X3_copy_kind (l : Launch) (D : va_G) (cI cJ : ClassId) (t : Nat → Nat) (f g h : Nat → Int32) (τ : Nat → Nat → Int32) (sh : Nat) (hsh : sh < 4) (th : Nat) (hth : th < 4) (y : Int32) (u : Int32) (v : Int32) (hw1 : ¬ τ 2 sh = 0) (hw2 : ¬ τ 2 th = 0) (hne : ¬ τ 2 sh = τ 2 th) : WR l yX3_copy cX3_copy 6 (some .int) 1 D cI cJ (TW cI cJ t f g h τ) [.ref (t 0), .int (nI sh), .int y, .int (nI th), .int u, .int v] (some (.int (-1000003))) (TW cI cJ t f g h (va_up τ 9 (cFi (τ 9) 2))) := by
  refine WR.of (by decide) (Nat.le_of_ble_eq_true rfl) (fun p e s m below meth c ls A S hr hlk hK hP hD hS hA hl => ?_)
  obtain ⟨hx, hb, hml, hown, hU⟩ := id S
  have hl : lv_has ls 6 [(0, .ref (t 0)), (1, .int (nI sh)), (2, .int y), (3, .int (nI th)), (4, .int u), (5, .int v)] := hl
  refine lv_iload_n hx hb dX3_copy_0 rfl (lv_at hl 1 rfl) ?_
  refine lv_iconst (v := nI 3) hx hb dX3_copy_1 (by decide) ?_
  refine RO.callS S ks_X3_44 (c_X3_isWithin l D cI cJ t f g h τ (nI sh) (nI 3)) hK hP ⟨Nat.le_of_ble_eq_true rfl, Nat.le_of_ble_eq_true rfl⟩ hl.1 rfl rfl (Nat.le_of_ble_eq_true rfl) (Nat.zero_le _) (Nat.zero_le _) dX3_copy_2 ?_
  refine q_if_eqB (tgt := 16) hx hb dX3_copy_5 (by decide) (fun h => absurd (⟨nI_le (by omega) (by omega), nI_le (by omega) (by omega)⟩) h) (fun _ => ?_)
  refine lv_iload_n hx hb dX3_copy_8 rfl (lv_at hl 3 rfl) ?_
  refine lv_iconst (v := nI 3) hx hb dX3_copy_9 (by decide) ?_
  refine RO.callS S ks_X3_44 (c_X3_isWithin l D cI cJ t f g h τ (nI th) (nI 3)) hK hP ⟨Nat.le_of_ble_eq_true rfl, Nat.le_of_ble_eq_true rfl⟩ hl.1 rfl rfl (Nat.le_of_ble_eq_true rfl) (Nat.zero_le _) (Nat.zero_le _) dX3_copy_10 ?_
  refine q_if_neB (tgt := 22) hx hb dX3_copy_13 (by decide) (fun _ => ?_) (fun h => absurd (⟨nI_le (by omega) (by omega), nI_le (by omega) (by omega)⟩) h)
  refine lv_aload_n hx hb dX3_copy_22 rfl (lv_at hl 0 rfl) ?_
  refine g3_sheets S hK hP dX3_copy_23 ?_
  refine lv_iload_n hx hb dX3_copy_26 rfl (lv_at hl 1 rfl) ?_
  refine RO.callV S kv_X3_204 (c_X1_isMissing l D cI cJ (sf t 36) τ sh (by omega)) hK (TW_sheets hP) rfl ⟨Nat.le_of_ble_eq_true rfl, Nat.le_of_ble_eq_true rfl⟩ hl.1 rfl rfl (Nat.le_of_ble_eq_true rfl) (Nat.zero_le _) (Nat.zero_le _) dX3_copy_27 ?_
  refine q_if_neB (tgt := 44) hx hb dX3_copy_30 (by decide) (fun h => absurd h (hw1)) (fun _ => ?_)
  refine lv_aload_n hx hb dX3_copy_33 rfl (lv_at hl 0 rfl) ?_
  refine g3_sheets S hK hP dX3_copy_34 ?_
  refine lv_iload_n hx hb dX3_copy_37 rfl (lv_at hl 3 rfl) ?_
  refine RO.callV S kv_X3_204 (c_X1_isMissing l D cI cJ (sf t 36) τ th (by omega)) hK (TW_sheets hP) rfl ⟨Nat.le_of_ble_eq_true rfl, Nat.le_of_ble_eq_true rfl⟩ hl.1 rfl rfl (Nat.le_of_ble_eq_true rfl) (Nat.zero_le _) (Nat.zero_le _) dX3_copy_38 ?_
  refine q_if_eqB (tgt := 50) hx hb dX3_copy_41 (by decide) (fun _ => ?_) (fun h => absurd h (hw2))
  refine lv_aload_n hx hb dX3_copy_50 rfl (lv_at hl 0 rfl) ?_
  refine g3_sheets S hK hP dX3_copy_51 ?_
  refine g31_widths S hK (TW_sheets hP) dX3_copy_54 ?_
  refine lv_iload_n hx hb dX3_copy_57 rfl (lv_at hl 1 rfl) ?_
  refine l1_widths S hK (TW_sheets hP) (j := sh) (by omega) dX3_copy_58 ?_
  refine lv_aload_n hx hb dX3_copy_59 rfl (lv_at hl 0 rfl) ?_
  refine g3_sheets S hK hP dX3_copy_60 ?_
  refine g31_widths S hK (TW_sheets hP) dX3_copy_63 ?_
  refine lv_iload_n hx hb dX3_copy_66 rfl (lv_at hl 3 rfl) ?_
  refine l1_widths S hK (TW_sheets hP) (j := th) (by omega) dX3_copy_67 ?_
  refine lv_icmp_eq (tgt := 77) hx hb dX3_copy_68 (by decide) (fun h => absurd h (hne)) (fun _ => ?_)
  refine lv_aload_n hx hb dX3_copy_71 rfl (lv_at hl 0 rfl) ?_
  refine lv_iconst (v := nI 2) hx hb dX3_copy_72 (by decide) ?_
  refine WR.callV (w1 := TW cI cJ t f g h (va_up τ 9 (cFi (τ 9) 2))) S kv_X3_48 (c_X3_fd2 l D cI cJ t f g h τ) hK hP hD hS hA ([]) ([]) (List.append_nil _).symm (List.append_nil _).symm TW_fst rfl ⟨Nat.le_of_ble_eq_true rfl, Nat.le_of_ble_eq_true rfl⟩ hl.1 rfl rfl (Nat.le_of_ble_eq_true rfl) (Nat.zero_le _) (Nat.zero_le _) dX3_copy_73 (fun H locs hP hD hS => ?_)
  exact WR.iret S hr hlk hP hS (rfl) rfl dX3_copy_76
set_option maxRecDepth 100000 in
set_option maxHeartbeats 4000000 in
theorem c_X3_copy_rng (l : Launch) (D : va_G) (cI cJ : ClassId) (t : Nat → Nat) (f g h : Nat → Int32) (τ : Nat → Nat → Int32) (sh : Nat) (hsh : sh < 4) (th : Nat) (hth : th < 4) (y : Int32) (u : Int32) (v : Int32) (hw1 : ¬ τ 2 sh = 0) (hw2 : ¬ τ 2 th = 0) (heq : τ 2 sh = τ 2 th) (s1 : Nat) (hm : τ 3 sh = nI s1) (h40 : s1 ≤ 40) (s2 : Nat) (hm2 : τ 3 th = nI s2) (h402 : s2 ≤ 40) (hb0 : ¬ (0 ≤ y ∧ 0 ≤ u ∧ 0 ≤ v ∧ v ≤ nI s1 - y ∧ v ≤ nI s2 - u)) : WR l yX3_copy cX3_copy 6 (some .int) 1 D cI cJ (TW cI cJ t f g h τ) [.ref (t 0), .int (nI sh), .int y, .int (nI th), .int u, .int v] (some (.int (-1000001))) (TW cI cJ t f g h (va_up τ 9 (cFi (τ 9) 0))) := by
  refine WR.of (by decide) (Nat.le_of_ble_eq_true rfl) (fun p e s m below meth c ls A S hr hlk hK hP hD hS hA hl => ?_)
  obtain ⟨hx, hb, hml, hown, hU⟩ := id S
  have hl : lv_has ls 6 [(0, .ref (t 0)), (1, .int (nI sh)), (2, .int y), (3, .int (nI th)), (4, .int u), (5, .int v)] := hl
  refine lv_iload_n hx hb dX3_copy_0 rfl (lv_at hl 1 rfl) ?_
  refine lv_iconst (v := nI 3) hx hb dX3_copy_1 (by decide) ?_
  refine RO.callS S ks_X3_44 (c_X3_isWithin l D cI cJ t f g h τ (nI sh) (nI 3)) hK hP ⟨Nat.le_of_ble_eq_true rfl, Nat.le_of_ble_eq_true rfl⟩ hl.1 rfl rfl (Nat.le_of_ble_eq_true rfl) (Nat.zero_le _) (Nat.zero_le _) dX3_copy_2 ?_
  refine q_if_eqB (tgt := 16) hx hb dX3_copy_5 (by decide) (fun h => absurd (⟨nI_le (by omega) (by omega), nI_le (by omega) (by omega)⟩) h) (fun _ => ?_)
  refine lv_iload_n hx hb dX3_copy_8 rfl (lv_at hl 3 rfl) ?_
  refine lv_iconst (v := nI 3) hx hb dX3_copy_9 (by decide) ?_
  refine RO.callS S ks_X3_44 (c_X3_isWithin l D cI cJ t f g h τ (nI th) (nI 3)) hK hP ⟨Nat.le_of_ble_eq_true rfl, Nat.le_of_ble_eq_true rfl⟩ hl.1 rfl rfl (Nat.le_of_ble_eq_true rfl) (Nat.zero_le _) (Nat.zero_le _) dX3_copy_10 ?_
  refine q_if_neB (tgt := 22) hx hb dX3_copy_13 (by decide) (fun _ => ?_) (fun h => absurd (⟨nI_le (by omega) (by omega), nI_le (by omega) (by omega)⟩) h)
  refine lv_aload_n hx hb dX3_copy_22 rfl (lv_at hl 0 rfl) ?_
  refine g3_sheets S hK hP dX3_copy_23 ?_
  refine lv_iload_n hx hb dX3_copy_26 rfl (lv_at hl 1 rfl) ?_
  refine RO.callV S kv_X3_204 (c_X1_isMissing l D cI cJ (sf t 36) τ sh (by omega)) hK (TW_sheets hP) rfl ⟨Nat.le_of_ble_eq_true rfl, Nat.le_of_ble_eq_true rfl⟩ hl.1 rfl rfl (Nat.le_of_ble_eq_true rfl) (Nat.zero_le _) (Nat.zero_le _) dX3_copy_27 ?_
  refine q_if_neB (tgt := 44) hx hb dX3_copy_30 (by decide) (fun h => absurd h (hw1)) (fun _ => ?_)
  refine lv_aload_n hx hb dX3_copy_33 rfl (lv_at hl 0 rfl) ?_
  refine g3_sheets S hK hP dX3_copy_34 ?_
  refine lv_iload_n hx hb dX3_copy_37 rfl (lv_at hl 3 rfl) ?_
  refine RO.callV S kv_X3_204 (c_X1_isMissing l D cI cJ (sf t 36) τ th (by omega)) hK (TW_sheets hP) rfl ⟨Nat.le_of_ble_eq_true rfl, Nat.le_of_ble_eq_true rfl⟩ hl.1 rfl rfl (Nat.le_of_ble_eq_true rfl) (Nat.zero_le _) (Nat.zero_le _) dX3_copy_38 ?_
  refine q_if_eqB (tgt := 50) hx hb dX3_copy_41 (by decide) (fun _ => ?_) (fun h => absurd h (hw2))
  refine lv_aload_n hx hb dX3_copy_50 rfl (lv_at hl 0 rfl) ?_
  refine g3_sheets S hK hP dX3_copy_51 ?_
  refine g31_widths S hK (TW_sheets hP) dX3_copy_54 ?_
  refine lv_iload_n hx hb dX3_copy_57 rfl (lv_at hl 1 rfl) ?_
  refine l1_widths S hK (TW_sheets hP) (j := sh) (by omega) dX3_copy_58 ?_
  refine lv_aload_n hx hb dX3_copy_59 rfl (lv_at hl 0 rfl) ?_
  refine g3_sheets S hK hP dX3_copy_60 ?_
  refine g31_widths S hK (TW_sheets hP) dX3_copy_63 ?_
  refine lv_iload_n hx hb dX3_copy_66 rfl (lv_at hl 3 rfl) ?_
  refine l1_widths S hK (TW_sheets hP) (j := th) (by omega) dX3_copy_67 ?_
  refine lv_icmp_eq (tgt := 77) hx hb dX3_copy_68 (by decide) (fun _ => ?_) (fun h => absurd h (fun h => h heq))
  refine lv_aload_n hx hb dX3_copy_77 rfl (lv_at hl 0 rfl) ?_
  refine g3_sheets S hK hP dX3_copy_78 ?_
  refine lv_iload_n hx hb dX3_copy_81 rfl (lv_at hl 1 rfl) ?_
  refine lv_iload_n hx hb dX3_copy_82 rfl (lv_at hl 2 rfl) ?_
  refine lv_iload hx hb dX3_copy_83 (lv_at hl 5 rfl) ?_
  refine RO.callV S kv_X3_210 (c_X1_hasRun l D cI cJ (sf t 36) τ sh (by omega) y v s1 (hm)) hK (TW_sheets hP) rfl ⟨Nat.le_of_ble_eq_true rfl, Nat.le_of_ble_eq_true rfl⟩ hl.1 rfl rfl (Nat.le_of_ble_eq_true rfl) (Nat.zero_le _) (Nat.zero_le _) dX3_copy_85 ?_
  refine q_if_eqB (tgt := 106) hx hb dX3_copy_88 (by decide) (fun c_88 => ?_) (fun c_88 => ?_)
  · refine lv_aload_n hx hb dX3_copy_106 rfl (lv_at hl 0 rfl) ?_
    refine lv_iconst (v := nI 0) hx hb dX3_copy_107 (by decide) ?_
    refine WR.callV (w1 := TW cI cJ t f g h (va_up τ 9 (cFi (τ 9) 0))) S kv_X3_48 (c_X3_fd0 l D cI cJ t f g h τ) hK hP hD hS hA ([]) ([]) (List.append_nil _).symm (List.append_nil _).symm TW_fst rfl ⟨Nat.le_of_ble_eq_true rfl, Nat.le_of_ble_eq_true rfl⟩ hl.1 rfl rfl (Nat.le_of_ble_eq_true rfl) (Nat.zero_le _) (Nat.zero_le _) dX3_copy_108 (fun H locs hP hD hS => ?_)
    exact WR.iret S hr hlk hP hS (rfl) rfl dX3_copy_111
  · refine lv_aload_n hx hb dX3_copy_91 rfl (lv_at hl 0 rfl) ?_
    refine g3_sheets S hK hP dX3_copy_92 ?_
    refine lv_iload_n hx hb dX3_copy_95 rfl (lv_at hl 3 rfl) ?_
    refine lv_iload hx hb dX3_copy_96 (lv_at hl 4 rfl) ?_
    refine lv_iload hx hb dX3_copy_98 (lv_at hl 5 rfl) ?_
    refine RO.callV S kv_X3_210 (c_X1_hasRun l D cI cJ (sf t 36) τ th (by omega) u v s2 (hm2)) hK (TW_sheets hP) rfl ⟨Nat.le_of_ble_eq_true rfl, Nat.le_of_ble_eq_true rfl⟩ hl.1 rfl rfl (Nat.le_of_ble_eq_true rfl) (Nat.zero_le _) (Nat.zero_le _) dX3_copy_100 ?_
    refine q_if_neB (tgt := 112) hx hb dX3_copy_103 (by decide) (fun c_103 => ?_) (fun c_103 => ?_)
    · exact absurd (⟨c_88.1, c_103.1, c_88.2.1, c_88.2.2.2, c_103.2.2.2⟩) hb0
    · refine lv_aload_n hx hb dX3_copy_106 rfl (lv_at hl 0 rfl) ?_
      refine lv_iconst (v := nI 0) hx hb dX3_copy_107 (by decide) ?_
      refine WR.callV (w1 := TW cI cJ t f g h (va_up τ 9 (cFi (τ 9) 0))) S kv_X3_48 (c_X3_fd0 l D cI cJ t f g h τ) hK hP hD hS hA ([]) ([]) (List.append_nil _).symm (List.append_nil _).symm TW_fst rfl ⟨Nat.le_of_ble_eq_true rfl, Nat.le_of_ble_eq_true rfl⟩ hl.1 rfl rfl (Nat.le_of_ble_eq_true rfl) (Nat.zero_le _) (Nat.zero_le _) dX3_copy_108 (fun H locs hP hD hS => ?_)
      exact WR.iret S hr hlk hP hS (rfl) rfl dX3_copy_111
set_option maxRecDepth 100000 in
set_option maxHeartbeats 4000000 in
theorem c_X3_copy_ok (l : Launch) (D : va_G) (cI cJ : ClassId) (t : Nat → Nat) (f g h : Nat → Int32) (τ : Nat → Nat → Int32) (sh : Nat) (hsh : sh < 4) (th : Nat) (hth : th < 4) (fr : Nat) (to : Nat) (cn : Nat) (hw1 : ¬ τ 2 sh = 0) (hw2 : ¬ τ 2 th = 0) (heq : τ 2 sh = τ 2 th) (s1 : Nat) (hm : τ 3 sh = nI s1) (h40 : s1 ≤ 40) (s2 : Nat) (hm2 : τ 3 th = nI s2) (h402 : s2 ≤ 40) (hf1 : fr + cn ≤ s1) (hf2 : to + cn ≤ s2) : WR l yX3_copy cX3_copy 6 (some .int) 2 D cI cJ (TW cI cJ t f g h τ) [.ref (t 0), .int (nI sh), .int (nI fr), .int (nI th), .int (nI to), .int (nI cn)] (some (.int (nI cn))) (TW cI cJ t f g h (va_up τ 4 (cpF (τ 4) (40 * sh + fr) (40 * th + to) cn))) := by
  refine WR.of (by decide) (Nat.le_of_ble_eq_true rfl) (fun p e s m below meth c ls A S hr hlk hK hP hD hS hA hl => ?_)
  obtain ⟨hx, hb, hml, hown, hU⟩ := id S
  have hl : lv_has ls 6 [(0, .ref (t 0)), (1, .int (nI sh)), (2, .int (nI fr)), (3, .int (nI th)), (4, .int (nI to)), (5, .int (nI cn))] := hl
  refine lv_iload_n hx hb dX3_copy_0 rfl (lv_at hl 1 rfl) ?_
  refine lv_iconst (v := nI 3) hx hb dX3_copy_1 (by decide) ?_
  refine RO.callS S ks_X3_44 (c_X3_isWithin l D cI cJ t f g h τ (nI sh) (nI 3)) hK hP ⟨Nat.le_of_ble_eq_true rfl, Nat.le_of_ble_eq_true rfl⟩ hl.1 rfl rfl (Nat.le_of_ble_eq_true rfl) (Nat.zero_le _) (Nat.zero_le _) dX3_copy_2 ?_
  refine q_if_eqB (tgt := 16) hx hb dX3_copy_5 (by decide) (fun h => absurd (⟨nI_le (by omega) (by omega), nI_le (by omega) (by omega)⟩) h) (fun _ => ?_)
  refine lv_iload_n hx hb dX3_copy_8 rfl (lv_at hl 3 rfl) ?_
  refine lv_iconst (v := nI 3) hx hb dX3_copy_9 (by decide) ?_
  refine RO.callS S ks_X3_44 (c_X3_isWithin l D cI cJ t f g h τ (nI th) (nI 3)) hK hP ⟨Nat.le_of_ble_eq_true rfl, Nat.le_of_ble_eq_true rfl⟩ hl.1 rfl rfl (Nat.le_of_ble_eq_true rfl) (Nat.zero_le _) (Nat.zero_le _) dX3_copy_10 ?_
  refine q_if_neB (tgt := 22) hx hb dX3_copy_13 (by decide) (fun _ => ?_) (fun h => absurd (⟨nI_le (by omega) (by omega), nI_le (by omega) (by omega)⟩) h)
  refine lv_aload_n hx hb dX3_copy_22 rfl (lv_at hl 0 rfl) ?_
  refine g3_sheets S hK hP dX3_copy_23 ?_
  refine lv_iload_n hx hb dX3_copy_26 rfl (lv_at hl 1 rfl) ?_
  refine RO.callV S kv_X3_204 (c_X1_isMissing l D cI cJ (sf t 36) τ sh (by omega)) hK (TW_sheets hP) rfl ⟨Nat.le_of_ble_eq_true rfl, Nat.le_of_ble_eq_true rfl⟩ hl.1 rfl rfl (Nat.le_of_ble_eq_true rfl) (Nat.zero_le _) (Nat.zero_le _) dX3_copy_27 ?_
  refine q_if_neB (tgt := 44) hx hb dX3_copy_30 (by decide) (fun h => absurd h (hw1)) (fun _ => ?_)
  refine lv_aload_n hx hb dX3_copy_33 rfl (lv_at hl 0 rfl) ?_
  refine g3_sheets S hK hP dX3_copy_34 ?_
  refine lv_iload_n hx hb dX3_copy_37 rfl (lv_at hl 3 rfl) ?_
  refine RO.callV S kv_X3_204 (c_X1_isMissing l D cI cJ (sf t 36) τ th (by omega)) hK (TW_sheets hP) rfl ⟨Nat.le_of_ble_eq_true rfl, Nat.le_of_ble_eq_true rfl⟩ hl.1 rfl rfl (Nat.le_of_ble_eq_true rfl) (Nat.zero_le _) (Nat.zero_le _) dX3_copy_38 ?_
  refine q_if_eqB (tgt := 50) hx hb dX3_copy_41 (by decide) (fun _ => ?_) (fun h => absurd h (hw2))
  refine lv_aload_n hx hb dX3_copy_50 rfl (lv_at hl 0 rfl) ?_
  refine g3_sheets S hK hP dX3_copy_51 ?_
  refine g31_widths S hK (TW_sheets hP) dX3_copy_54 ?_
  refine lv_iload_n hx hb dX3_copy_57 rfl (lv_at hl 1 rfl) ?_
  refine l1_widths S hK (TW_sheets hP) (j := sh) (by omega) dX3_copy_58 ?_
  refine lv_aload_n hx hb dX3_copy_59 rfl (lv_at hl 0 rfl) ?_
  refine g3_sheets S hK hP dX3_copy_60 ?_
  refine g31_widths S hK (TW_sheets hP) dX3_copy_63 ?_
  refine lv_iload_n hx hb dX3_copy_66 rfl (lv_at hl 3 rfl) ?_
  refine l1_widths S hK (TW_sheets hP) (j := th) (by omega) dX3_copy_67 ?_
  refine lv_icmp_eq (tgt := 77) hx hb dX3_copy_68 (by decide) (fun _ => ?_) (fun h => absurd h (fun h => h heq))
  refine lv_aload_n hx hb dX3_copy_77 rfl (lv_at hl 0 rfl) ?_
  refine g3_sheets S hK hP dX3_copy_78 ?_
  refine lv_iload_n hx hb dX3_copy_81 rfl (lv_at hl 1 rfl) ?_
  refine lv_iload_n hx hb dX3_copy_82 rfl (lv_at hl 2 rfl) ?_
  refine lv_iload hx hb dX3_copy_83 (lv_at hl 5 rfl) ?_
  refine RO.callV S kv_X3_210 (c_X1_hasRun l D cI cJ (sf t 36) τ sh (by omega) (nI fr) (nI cn) s1 (hm)) hK (TW_sheets hP) rfl ⟨Nat.le_of_ble_eq_true rfl, Nat.le_of_ble_eq_true rfl⟩ hl.1 rfl rfl (Nat.le_of_ble_eq_true rfl) (Nat.zero_le _) (Nat.zero_le _) dX3_copy_85 ?_
  refine q_if_eqB (tgt := 106) hx hb dX3_copy_88 (by decide) (fun h => absurd (hrun_ok (by omega) (by omega)) h) (fun _ => ?_)
  refine lv_aload_n hx hb dX3_copy_91 rfl (lv_at hl 0 rfl) ?_
  refine g3_sheets S hK hP dX3_copy_92 ?_
  refine lv_iload_n hx hb dX3_copy_95 rfl (lv_at hl 3 rfl) ?_
  refine lv_iload hx hb dX3_copy_96 (lv_at hl 4 rfl) ?_
  refine lv_iload hx hb dX3_copy_98 (lv_at hl 5 rfl) ?_
  refine RO.callV S kv_X3_210 (c_X1_hasRun l D cI cJ (sf t 36) τ th (by omega) (nI to) (nI cn) s2 (hm2)) hK (TW_sheets hP) rfl ⟨Nat.le_of_ble_eq_true rfl, Nat.le_of_ble_eq_true rfl⟩ hl.1 rfl rfl (Nat.le_of_ble_eq_true rfl) (Nat.zero_le _) (Nat.zero_le _) dX3_copy_100 ?_
  refine q_if_neB (tgt := 112) hx hb dX3_copy_103 (by decide) (fun _ => ?_) (fun h => absurd (hrun_ok (by omega) (by omega)) h)
  refine lv_aload_n hx hb dX3_copy_112 rfl (lv_at hl 0 rfl) ?_
  refine g3_sheets S hK hP dX3_copy_113 ?_
  refine g31_rows S hK (TW_sheets hP) dX3_copy_116 ?_
  refine lv_iload_n hx hb dX3_copy_119 rfl (lv_at hl 1 rfl) ?_
  refine l1_rows S hK (TW_sheets hP) (j := sh) (by omega) dX3_copy_120 ?_
  refine lv_iload_n hx hb dX3_copy_121 rfl (lv_at hl 2 rfl) ?_
  refine lv_aload_n hx hb dX3_copy_122 rfl (lv_at hl 0 rfl) ?_
  refine g3_sheets S hK hP dX3_copy_123 ?_
  refine g31_rows S hK (TW_sheets hP) dX3_copy_126 ?_
  refine lv_iload_n hx hb dX3_copy_129 rfl (lv_at hl 3 rfl) ?_
  refine l1_rows S hK (TW_sheets hP) (j := th) (by omega) dX3_copy_130 ?_
  refine lv_iload hx hb dX3_copy_131 (lv_at hl 4 rfl) ?_
  refine lv_iload hx hb dX3_copy_133 (lv_at hl 5 rfl) ?_
  refine q_cpy (ws1 := TW cI cJ t f g h (va_up τ 4 (cpF (τ 4) (40 * sh + fr) (40 * th + to) cn))) (n := cn) (x := fr) (y := to) S hK hP hD hS hl.1 mL_X3_217 (40 + sh) (40 + th) (TW_row hsh) (TW_row hth) (by omega) (by omega) (by decide) (by decide) (Nat.le_of_ble_eq_true rfl) (Nat.le_of_ble_eq_true rfl) dX3_copy_135 (TW_cpy hsh hth (by omega) (by omega)) (fun H locs hP hD hS => ?_)
  refine lv_iload hx hb dX3_copy_138 (lv_at hl 5 rfl) ?_
  exact WR.iret S hr hlk hP hS (rfl) rfl dX3_copy_140

theorem min_sz6 {sz : Nat} (h : sz ≤ 40) : (if nI 6 < nI sz then nI 6 else nI sz) = nI (min sz 6) := by
  by_cases c : 6 < sz
  · rw [if_pos (nI_lt c (by omega)), Nat.min_eq_right (by omega)]
  · rw [if_neg (fun q => c ((nI_ltI (by omega) (by omega)).mp q)), Nat.min_eq_left (by omega)]
theorem fcD_a {T : Nat → Bool} : ∀ {j : Nat}, j ≤ 101 → (fcD T j).1 + sCt T (101 - j) = sCt T 101
  | 0, _ => Nat.zero_add _
  | j + 1, h => by
    have ih := fcD_a (T := T) (j := j) (by omega)
    rw [show 101 - j = (100 - j) + 1 by omega] at ih
    rw [show 101 - (j + 1) = 100 - j by omega]
    by_cases c : T (100 - j) = true
    · rw [fcD_1 c]
      rw [sCt_1 c] at ih
      show (fcD T j).1 + 1 + _ = _
      omega
    · rw [fcD_0 c]
      rw [sCt_0 c] at ih
      exact ih
theorem fcD_b {T : Nat → Bool} : ∀ {j : Nat}, j ≤ 101 → fst1 T j (101 - j) = (fcD T j).2
  | 0, _ => rfl
  | j + 1, h => by
    have ih := fcD_b (T := T) (j := j) (by omega)
    rw [show 101 - (j + 1) = 100 - j by omega]
    by_cases c : T (100 - j) = true
    · rw [fcD_1 c, fst1_hit c]
    · rw [fcD_0 c, fst1_go c, show 100 - j + 1 = 101 - j by omega, ih]
theorem fcD_fst {T : Nat → Bool} : (fcD T 101).1 = sCt T 101 := by
  have h := fcD_a (T := T) (j := 101) (by decide)
  exact h
theorem fcD_snd {T : Nat → Bool} : fst1 T 101 0 = (fcD T 101).2 := fcD_b (j := 101) (by decide)
set_option maxRecDepth 100000 in
set_option maxHeartbeats 4000000 in
theorem c_X3_load_bad (l : Launch) (D : va_G) (cI cJ : ClassId) (t : Nat → Nat) (f g h : Nat → Int32) (τ : Nat → Nat → Int32) (x : Int32) (hs0 : ¬ (nI 0 ≤ x ∧ x ≤ nI 3)) : WR l yX3_load cX3_load 5 (some .int) 2 D cI cJ (TW cI cJ t f g h τ) [.ref (t 0), .int x] (some (.int (-1000001))) (TW cI cJ t f g h (va_up τ 9 (cFi (τ 9) 0))) := by
  refine WR.of (by decide) (Nat.le_of_ble_eq_true rfl) (fun p e s m below meth c ls A S hr hlk hK hP hD hS hA hl => ?_)
  obtain ⟨hx, hb, hml, hown, hU⟩ := id S
  have hl : lv_has ls 5 [(0, .ref (t 0)), (1, .int x)] := hl
  refine lv_aload_n hx hb dX3_load_0 rfl (lv_at hl 0 rfl) ?_
  refine lv_iload_n hx hb dX3_load_1 rfl (lv_at hl 1 rfl) ?_
  refine RO.callV S kv_X3_198 (c_X3_wrongSheet_bad l D cI cJ t f g h τ x hs0) hK hP rfl ⟨Nat.le_of_ble_eq_true rfl, Nat.le_of_ble_eq_true rfl⟩ hl.1 rfl rfl (Nat.le_of_ble_eq_true rfl) (Nat.zero_le _) (Nat.zero_le _) dX3_load_2 ?_
  refine lv_istore_n (lv' := [(2, .int (nI 0)), (0, .ref (t 0)), (1, .int x)]) hx hb dX3_load_5 rfl hl (by decide) rfl (fun ls hl => ?_)
  refine lv_iload_n hx hb dX3_load_6 rfl (lv_at hl 0 rfl) ?_
  refine q_if_ltN (tgt := 16) (a := 0) hx hb dX3_load_7 (by decide) (by omega) ?_
  refine lv_aload_n hx hb dX3_load_10 rfl (lv_at hl 1 rfl) ?_
  refine lv_iload_n hx hb dX3_load_11 rfl (lv_at hl 0 rfl) ?_
  refine WR.callV (w1 := TW cI cJ t f g h (va_up τ 9 (cFi (τ 9) 0))) S kv_X3_48 (c_X3_fd0 l D cI cJ t f g h τ) hK hP hD hS hA ([]) ([]) (List.append_nil _).symm (List.append_nil _).symm TW_fst rfl ⟨Nat.le_of_ble_eq_true rfl, Nat.le_of_ble_eq_true rfl⟩ hl.1 rfl rfl (Nat.le_of_ble_eq_true rfl) (Nat.zero_le _) (Nat.zero_le _) dX3_load_12 (fun H locs hP hD hS => ?_)
  exact WR.iret S hr hlk hP hS (rfl) rfl dX3_load_15
set_option maxRecDepth 100000 in
set_option maxHeartbeats 4000000 in
theorem c_X3_load_miss (l : Launch) (D : va_G) (cI cJ : ClassId) (t : Nat → Nat) (f g h : Nat → Int32) (τ : Nat → Nat → Int32) (sh : Nat) (hsh : sh < 4) (hms : τ 2 sh = 0) : WR l yX3_load cX3_load 5 (some .int) 2 D cI cJ (TW cI cJ t f g h τ) [.ref (t 0), .int (nI sh)] (some (.int (-1000006))) (TW cI cJ t f g h (va_up τ 9 (cFi (τ 9) 5))) := by
  refine WR.of (by decide) (Nat.le_of_ble_eq_true rfl) (fun p e s m below meth c ls A S hr hlk hK hP hD hS hA hl => ?_)
  obtain ⟨hx, hb, hml, hown, hU⟩ := id S
  have hl : lv_has ls 5 [(0, .ref (t 0)), (1, .int (nI sh))] := hl
  refine lv_aload_n hx hb dX3_load_0 rfl (lv_at hl 0 rfl) ?_
  refine lv_iload_n hx hb dX3_load_1 rfl (lv_at hl 1 rfl) ?_
  refine RO.callV S kv_X3_198 (c_X3_wrongSheet_miss l D cI cJ t f g h τ sh (by omega) hms) hK hP rfl ⟨Nat.le_of_ble_eq_true rfl, Nat.le_of_ble_eq_true rfl⟩ hl.1 rfl rfl (Nat.le_of_ble_eq_true rfl) (Nat.zero_le _) (Nat.zero_le _) dX3_load_2 ?_
  refine lv_istore_n (lv' := [(2, .int (nI 5)), (0, .ref (t 0)), (1, .int (nI sh))]) hx hb dX3_load_5 rfl hl (by decide) rfl (fun ls hl => ?_)
  refine lv_iload_n hx hb dX3_load_6 rfl (lv_at hl 0 rfl) ?_
  refine q_if_ltN (tgt := 16) (a := 5) hx hb dX3_load_7 (by decide) (by omega) ?_
  refine lv_aload_n hx hb dX3_load_10 rfl (lv_at hl 1 rfl) ?_
  refine lv_iload_n hx hb dX3_load_11 rfl (lv_at hl 0 rfl) ?_
  refine WR.callV (w1 := TW cI cJ t f g h (va_up τ 9 (cFi (τ 9) 5))) S kv_X3_48 (c_X3_fd5 l D cI cJ t f g h τ) hK hP hD hS hA ([]) ([]) (List.append_nil _).symm (List.append_nil _).symm TW_fst rfl ⟨Nat.le_of_ble_eq_true rfl, Nat.le_of_ble_eq_true rfl⟩ hl.1 rfl rfl (Nat.le_of_ble_eq_true rfl) (Nat.zero_le _) (Nat.zero_le _) dX3_load_12 (fun H locs hP hD hS => ?_)
  exact WR.iret S hr hlk hP hS (rfl) rfl dX3_load_15
set_option maxRecDepth 100000 in
set_option maxHeartbeats 4000000 in
theorem c_X3_load_ok (l : Launch) (D : va_G) (cI cJ : ClassId) (t : Nat → Nat) (f g h : Nat → Int32) (τ : Nat → Nat → Int32) (sh : Nat) (hsh : sh < 4) (hms : ¬ τ 2 sh = 0) (sz : Nat) (hm : τ 3 sh = nI sz) (hm40 : sz ≤ 40) : WR l yX3_load cX3_load 5 (some .int) 2 D cI cJ (TW cI cJ t f g h τ) [.ref (t 0), .int (nI sh)] (some (.int (nI ((ldR (shR (τ 4) sh) sz 6 0 f).1)))) (TW cI cJ t ((ldR (shR (τ 4) sh) sz 6 0 f).2) g h τ) := by
  have hmn1 := Nat.min_le_left sz 6
  have hmn2 := Nat.min_le_right sz 6
  refine WR.of (by decide) (Nat.le_of_ble_eq_true rfl) (fun p e s m below meth c ls A S hr hlk hK hP hD hS hA hl => ?_)
  obtain ⟨hx, hb, hml, hown, hU⟩ := id S
  have hl : lv_has ls 5 [(0, .ref (t 0)), (1, .int (nI sh))] := hl
  refine lv_aload_n hx hb dX3_load_0 rfl (lv_at hl 0 rfl) ?_
  refine lv_iload_n hx hb dX3_load_1 rfl (lv_at hl 1 rfl) ?_
  refine RO.callV S kv_X3_198 (c_X3_wrongSheet_ok l D cI cJ t f g h τ sh (by omega) hms) hK hP rfl ⟨Nat.le_of_ble_eq_true rfl, Nat.le_of_ble_eq_true rfl⟩ hl.1 rfl rfl (Nat.le_of_ble_eq_true rfl) (Nat.zero_le _) (Nat.zero_le _) dX3_load_2 ?_
  refine lv_istore_n (lv' := [(2, .int (-1)), (0, .ref (t 0)), (1, .int (nI sh))]) hx hb dX3_load_5 rfl hl (by decide) rfl (fun ls hl => ?_)
  refine lv_iload_n hx hb dX3_load_6 rfl (lv_at hl 0 rfl) ?_
  refine lv_if_lt (tgt := 16) hx hb dX3_load_7 (by decide) (fun _ => ?_) (fun h => absurd (by decide) h)
  refine lv_aload_n hx hb dX3_load_16 rfl (lv_at hl 1 rfl) ?_
  refine g3_sheets S hK hP dX3_load_17 ?_
  refine g31_sizes S hK (TW_sheets hP) dX3_load_20 ?_
  refine lv_iload_n hx hb dX3_load_23 rfl (lv_at hl 2 rfl) ?_
  refine l1_sizes S hK (TW_sheets hP) (j := sh) (by omega) dX3_load_24 ?_
  refine q_eqi (y := nI sz) (hm) ?_
  refine lv_bipush (v := nI 6) hx hb dX3_load_25 (by decide) ?_
  refine q_min hx hb (by rw [hml]; exact hl.1.symm) hown hU mL_X3_223 (Nat.le_of_ble_eq_true rfl) (Nat.le_of_ble_eq_true rfl) (Nat.zero_le _) (Nat.zero_le _) dX3_load_27 ?_
  refine q_eqi (y := nI (min sz 6)) (min_sz6 hm40) ?_
  refine lv_istore_n (lv' := [(3, .int (nI (min sz 6))), (2, .int (-1)), (0, .ref (t 0)), (1, .int (nI sh))]) hx hb dX3_load_30 rfl hl (by decide) rfl (fun ls hl => ?_)
  refine lv_iconst (v := nI 0) hx hb dX3_load_31 (by decide) ?_
  refine lv_istore (lv' := [(4, .int (nI 0)), (3, .int (nI (min sz 6))), (2, .int (-1)), (0, .ref (t 0)), (1, .int (nI sh))]) hx hb dX3_load_32 hl (by decide) rfl (fun ls hl => ?_)
  have L_34 : ∀ (n9 : Nat) (k : Nat) (gg : Nat → Int32) (H : Heap) (locs : List Loc) (ls : Array Slot), 6 - k < n9 → (k ≤ min sz 6) → (ldR (shR (τ 4) sh) sz (6 - k) k gg = ldR (shR (τ 4) sh) sz 6 0 f) → va_P D vwCl (TW cI cJ t gg g h τ) H → va_D A (TW cI cJ t gg g h τ) → va_S A s.heap H locs → lv_has ls 5 [(0, .ref (t 0)), (1, .int (nI sh)), (3, .int (nI (min sz 6))), (4, .int (nI k))] → W p l e (rmd 2) s m ([.ref (t 0), .int (nI sh)] : List Value).toArray below meth c H locs 0 0 (ZW below ([.ref (t 0), .int (nI sh)] : List Value).toArray s D (some (.int (nI ((ldR (shR (τ 4) sh) sz 6 0 f).1)))) (TW cI cJ t ((ldR (shR (τ 4) sh) sz 6 0 f).2) g h τ) A) (F0 m 34 ls []) := by
    intro n9
    induction n9 with
    | zero => intro k gg H locs ls hmeas; exact absurd hmeas (Nat.not_lt_zero _)
    | succ n9 ih_34 =>
      intro k gg H locs ls hmeas hk hR hP hD hS hl
      refine lv_iload hx hb dX3_load_34 (lv_at hl 3 rfl) ?_
      refine lv_iload_n hx hb dX3_load_36 rfl (lv_at hl 2 rfl) ?_
      refine q_icmp_geN (tgt := 91) (a := k) (b := min sz 6) hx hb dX3_load_37 (by decide) (by omega) (by omega) (fun c_37 => ?_) (fun c_37 => ?_)
      · have hE : ldR (shR (τ 4) sh) sz 6 0 f = (k, gg) := by rw [← hR]; exact ldR_0 (u := shR (τ 4) sh) (fun q => absurd (Nat.lt_min.mpr ⟨q.1, q.2.1⟩) (by omega))
        refine lv_iload_n hx hb dX3_load_91 rfl (lv_at hl 2 rfl) ?_
        exact WR.iret S hr hlk hP hS (by rw [hE]) (congrArg (fun z => some (Value.int z)) (by rw [hE]; exact congrArg nI (show k = min sz 6 by omega))) dX3_load_92
      · refine lv_aload_n hx hb dX3_load_40 rfl (lv_at hl 0 rfl) ?_
        refine g3_sheets S hK hP dX3_load_41 ?_
        refine g31_rows S hK (TW_sheets hP) dX3_load_44 ?_
        refine lv_iload_n hx hb dX3_load_47 rfl (lv_at hl 1 rfl) ?_
        refine l1_rows S hK (TW_sheets hP) (j := sh) (by omega) dX3_load_48 ?_
        refine lv_iload hx hb dX3_load_49 (lv_at hl 3 rfl) ?_
        refine l1_row S hK (TW_sheets hP) (sh := sh) (i := k) (by omega) (by omega) dX3_load_51 ?_
        refine lv_bipush (v := nI 99) hx hb dX3_load_52 (by decide) ?_
        refine RO.callS S ks_X3_44 (c_X3_isWithin l D cI cJ t gg g h τ (τ 4 (40 * sh + k)) (nI 99)) hK hP ⟨Nat.le_of_ble_eq_true rfl, Nat.le_of_ble_eq_true rfl⟩ hl.1 rfl rfl (Nat.le_of_ble_eq_true rfl) (Nat.zero_le _) (Nat.zero_le _) dX3_load_54 ?_
        refine q_if_neB (tgt := 63) hx hb dX3_load_57 (by decide) (fun c_57 => ?_) (fun c_57 => ?_)
        · refine lv_aload_n hx hb dX3_load_63 rfl (lv_at hl 0 rfl) ?_
          refine g3_live S hK hP dX3_load_64 ?_
          refine g30_list S hK (TW_live hP) dX3_load_67 ?_
          refine lv_iload hx hb dX3_load_70 (lv_at hl 3 rfl) ?_
          refine lv_aload_n hx hb dX3_load_72 rfl (lv_at hl 0 rfl) ?_
          refine g3_sheets S hK hP dX3_load_73 ?_
          refine g31_rows S hK (TW_sheets hP) dX3_load_76 ?_
          refine lv_iload_n hx hb dX3_load_79 rfl (lv_at hl 1 rfl) ?_
          refine l1_rows S hK (TW_sheets hP) (j := sh) (by omega) dX3_load_80 ?_
          refine lv_iload hx hb dX3_load_81 (lv_at hl 3 rfl) ?_
          refine l1_row S hK (TW_sheets hP) (sh := sh) (i := k) (by omega) (by omega) dX3_load_83 ?_
          refine ss_list (w1 := TW cI cJ t (upd gg (10 + k) (τ 4 (40 * sh + k))) g h τ) S hK hP hD hS TW_s1 (j := k) (by omega) TW_s1 dX3_load_84 (fun H locs hP hD hS => ?_)
          refine lv_iinc (v := nI (k + 1)) (lv' := [(4, .int (nI (k + 1))), (0, .ref (t 0)), (1, .int (nI sh)), (3, .int (nI (min sz 6)))]) hx hb dX3_load_85 hl (k := 3) rfl (q_inc _) (by decide) rfl (fun ls hl => ?_)
          refine lv_goto (tgt := 34) hx hb dX3_load_88 (by decide) ?_
          exact ih_34 (k + 1) (upd gg (10 + k) (τ 4 (40 * sh + k))) _ _ ls (by omega) (by omega) (by rw [← hR, show 6 - k = (6 - (k + 1)) + 1 by omega]; exact (ldR_1 (u := shR (τ 4) sh) (k := k) (sz := sz) ⟨by omega, by omega, c_57⟩).symm) hP hD hS (lv_sub hl [1, 2, 3, 0] rfl)
        · have hE : ldR (shR (τ 4) sh) sz 6 0 f = (k, gg) := by rw [← hR]; exact ldR_0 (u := shR (τ 4) sh) (fun q => c_57 q.2.2)
          refine lv_iload hx hb dX3_load_60 (lv_at hl 3 rfl) ?_
          exact WR.iret S hr hlk hP hS (by rw [hE]) (congrArg (fun z => some (Value.int z)) (by rw [hE])) dX3_load_62
  exact L_34 ((6 - 0) + 1) 0 f _ _ ls (Nat.lt_succ_self _) (by omega) (rfl) hP hD hS (lv_sub hl [3, 4, 1, 0] rfl)
set_option maxRecDepth 100000 in
set_option maxHeartbeats 4000000 in
theorem c_X3_judge_bad (l : Launch) (D : va_G) (cI cJ : ClassId) (t : Nat → Nat) (f g h : Nat → Int32) (τ : Nat → Nat → Int32) (x : Int32) (hs0 : ¬ (nI 0 ≤ x ∧ x ≤ nI 3)) : WR l yX3_judge cX3_judge 4 (some .int) 2 D cI cJ (TW cI cJ t f g h τ) [.ref (t 0), .int x] (some (.int (-1000001))) (TW cI cJ t f g h (va_up τ 9 (cFi (τ 9) 0))) := by
  refine WR.of (by decide) (Nat.le_of_ble_eq_true rfl) (fun p e s m below meth c ls A S hr hlk hK hP hD hS hA hl => ?_)
  obtain ⟨hx, hb, hml, hown, hU⟩ := id S
  have hl : lv_has ls 4 [(0, .ref (t 0)), (1, .int x)] := hl
  refine lv_aload_n hx hb dX3_judge_0 rfl (lv_at hl 0 rfl) ?_
  refine lv_iload_n hx hb dX3_judge_1 rfl (lv_at hl 1 rfl) ?_
  refine RO.callV S kv_X3_198 (c_X3_wrongSheet_bad l D cI cJ t f g h τ x hs0) hK hP rfl ⟨Nat.le_of_ble_eq_true rfl, Nat.le_of_ble_eq_true rfl⟩ hl.1 rfl rfl (Nat.le_of_ble_eq_true rfl) (Nat.zero_le _) (Nat.zero_le _) dX3_judge_2 ?_
  refine lv_istore_n (lv' := [(2, .int (nI 0)), (0, .ref (t 0)), (1, .int x)]) hx hb dX3_judge_5 rfl hl (by decide) rfl (fun ls hl => ?_)
  refine lv_iload_n hx hb dX3_judge_6 rfl (lv_at hl 0 rfl) ?_
  refine q_if_ltN (tgt := 16) (a := 0) hx hb dX3_judge_7 (by decide) (by omega) ?_
  refine lv_aload_n hx hb dX3_judge_10 rfl (lv_at hl 1 rfl) ?_
  refine lv_iload_n hx hb dX3_judge_11 rfl (lv_at hl 0 rfl) ?_
  refine WR.callV (w1 := TW cI cJ t f g h (va_up τ 9 (cFi (τ 9) 0))) S kv_X3_48 (c_X3_fd0 l D cI cJ t f g h τ) hK hP hD hS hA ([]) ([]) (List.append_nil _).symm (List.append_nil _).symm TW_fst rfl ⟨Nat.le_of_ble_eq_true rfl, Nat.le_of_ble_eq_true rfl⟩ hl.1 rfl rfl (Nat.le_of_ble_eq_true rfl) (Nat.zero_le _) (Nat.zero_le _) dX3_judge_12 (fun H locs hP hD hS => ?_)
  exact WR.iret S hr hlk hP hS (rfl) rfl dX3_judge_15
set_option maxRecDepth 100000 in
set_option maxHeartbeats 4000000 in
theorem c_X3_judge_miss (l : Launch) (D : va_G) (cI cJ : ClassId) (t : Nat → Nat) (f g h : Nat → Int32) (τ : Nat → Nat → Int32) (sh : Nat) (hsh : sh < 4) (hms : τ 2 sh = 0) : WR l yX3_judge cX3_judge 4 (some .int) 2 D cI cJ (TW cI cJ t f g h τ) [.ref (t 0), .int (nI sh)] (some (.int (-1000006))) (TW cI cJ t f g h (va_up τ 9 (cFi (τ 9) 5))) := by
  refine WR.of (by decide) (Nat.le_of_ble_eq_true rfl) (fun p e s m below meth c ls A S hr hlk hK hP hD hS hA hl => ?_)
  obtain ⟨hx, hb, hml, hown, hU⟩ := id S
  have hl : lv_has ls 4 [(0, .ref (t 0)), (1, .int (nI sh))] := hl
  refine lv_aload_n hx hb dX3_judge_0 rfl (lv_at hl 0 rfl) ?_
  refine lv_iload_n hx hb dX3_judge_1 rfl (lv_at hl 1 rfl) ?_
  refine RO.callV S kv_X3_198 (c_X3_wrongSheet_miss l D cI cJ t f g h τ sh (by omega) hms) hK hP rfl ⟨Nat.le_of_ble_eq_true rfl, Nat.le_of_ble_eq_true rfl⟩ hl.1 rfl rfl (Nat.le_of_ble_eq_true rfl) (Nat.zero_le _) (Nat.zero_le _) dX3_judge_2 ?_
  refine lv_istore_n (lv' := [(2, .int (nI 5)), (0, .ref (t 0)), (1, .int (nI sh))]) hx hb dX3_judge_5 rfl hl (by decide) rfl (fun ls hl => ?_)
  refine lv_iload_n hx hb dX3_judge_6 rfl (lv_at hl 0 rfl) ?_
  refine q_if_ltN (tgt := 16) (a := 5) hx hb dX3_judge_7 (by decide) (by omega) ?_
  refine lv_aload_n hx hb dX3_judge_10 rfl (lv_at hl 1 rfl) ?_
  refine lv_iload_n hx hb dX3_judge_11 rfl (lv_at hl 0 rfl) ?_
  refine WR.callV (w1 := TW cI cJ t f g h (va_up τ 9 (cFi (τ 9) 5))) S kv_X3_48 (c_X3_fd5 l D cI cJ t f g h τ) hK hP hD hS hA ([]) ([]) (List.append_nil _).symm (List.append_nil _).symm TW_fst rfl ⟨Nat.le_of_ble_eq_true rfl, Nat.le_of_ble_eq_true rfl⟩ hl.1 rfl rfl (Nat.le_of_ble_eq_true rfl) (Nat.zero_le _) (Nat.zero_le _) dX3_judge_12 (fun H locs hP hD hS => ?_)
  exact WR.iret S hr hlk hP hS (rfl) rfl dX3_judge_15
set_option maxRecDepth 100000 in
set_option maxHeartbeats 4000000 in
theorem c_X3_judge_ok (l : Launch) (D : va_G) (cI cJ : ClassId) (t : Nat → Nat) (f g h : Nat → Int32) (τ : Nat → Nat → Int32) (sh : Nat) (hsh : sh < 4) (hms : ¬ τ 2 sh = 0) (sz : Nat) (hm : τ 3 sh = nI sz) (hm40 : sz ≤ 40) (n : Nat) (hw : Wk f n) : WR l yX3_judge cX3_judge 4 (some .int) 2 D cI cJ (TW cI cJ t f g h τ) [.ref (t 0), .int (nI sh)] (some (.int (nI (jdA (oJd (shR (τ 4) sh) f n sz))))) (TW cI cJ t f g h τ) := by
  have h8 := hw.2.1
  refine WR.of (by decide) (Nat.le_of_ble_eq_true rfl) (fun p e s m below meth c ls A S hr hlk hK hP hD hS hA hl => ?_)
  obtain ⟨hx, hb, hml, hown, hU⟩ := id S
  have hl : lv_has ls 4 [(0, .ref (t 0)), (1, .int (nI sh))] := hl
  refine lv_aload_n hx hb dX3_judge_0 rfl (lv_at hl 0 rfl) ?_
  refine lv_iload_n hx hb dX3_judge_1 rfl (lv_at hl 1 rfl) ?_
  refine RO.callV S kv_X3_198 (c_X3_wrongSheet_ok l D cI cJ t f g h τ sh (by omega) hms) hK hP rfl ⟨Nat.le_of_ble_eq_true rfl, Nat.le_of_ble_eq_true rfl⟩ hl.1 rfl rfl (Nat.le_of_ble_eq_true rfl) (Nat.zero_le _) (Nat.zero_le _) dX3_judge_2 ?_
  refine lv_istore_n (lv' := [(2, .int (-1)), (0, .ref (t 0)), (1, .int (nI sh))]) hx hb dX3_judge_5 rfl hl (by decide) rfl (fun ls hl => ?_)
  refine lv_iload_n hx hb dX3_judge_6 rfl (lv_at hl 0 rfl) ?_
  refine lv_if_lt (tgt := 16) hx hb dX3_judge_7 (by decide) (fun _ => ?_) (fun h => absurd (by decide) h)
  refine lv_iconst (v := nI 0) hx hb dX3_judge_16 (by decide) ?_
  refine lv_istore_n (lv' := [(3, .int (nI 0)), (2, .int (-1)), (0, .ref (t 0)), (1, .int (nI sh))]) hx hb dX3_judge_17 rfl hl (by decide) rfl (fun ls hl => ?_)
  have L_18 : ∀ (n9 : Nat) (k : Nat) (H : Heap) (locs : List Loc) (ls : Array Slot), sz - k < n9 → (k ≤ sz) → (fst1 (fun q7 => decide (¬ (q7 < n ∧ (shR (τ 4) sh) q7 = fi f q7 2))) (sz - k) k = oJd (shR (τ 4) sh) f n sz) → va_P D vwCl (TW cI cJ t f g h τ) H → va_D A (TW cI cJ t f g h τ) → va_S A s.heap H locs → lv_has ls 4 [(0, .ref (t 0)), (1, .int (nI sh)), (3, .int (nI k))] → W p l e (rmd 2) s m ([.ref (t 0), .int (nI sh)] : List Value).toArray below meth c H locs 0 0 (ZW below ([.ref (t 0), .int (nI sh)] : List Value).toArray s D (some (.int (nI (jdA (oJd (shR (τ 4) sh) f n sz))))) (TW cI cJ t f g h τ) A) (F0 m 18 ls []) := by
    intro n9
    induction n9 with
    | zero => intro k H locs ls hmeas; exact absurd hmeas (Nat.not_lt_zero _)
    | succ n9 ih_18 =>
      intro k H locs ls hmeas hk hR hP hD hS hl
      refine lv_iload_n hx hb dX3_judge_18 rfl (lv_at hl 2 rfl) ?_
      refine lv_aload_n hx hb dX3_judge_19 rfl (lv_at hl 0 rfl) ?_
      refine g3_sheets S hK hP dX3_judge_20 ?_
      refine g31_sizes S hK (TW_sheets hP) dX3_judge_23 ?_
      refine lv_iload_n hx hb dX3_judge_26 rfl (lv_at hl 1 rfl) ?_
      refine l1_sizes S hK (TW_sheets hP) (j := sh) (by omega) dX3_judge_27 ?_
      refine q_eqi (y := nI sz) (hm) ?_
      refine q_icmp_geN (tgt := 72) (a := k) (b := sz) hx hb dX3_judge_28 (by decide) (by omega) (by omega) (fun c_28 => ?_) (fun c_28 => ?_)
      · have hE : oJd (shR (τ 4) sh) f n sz = none := by rw [← hR, show sz - k = 0 by omega]; rfl
        refine lv_iconst (v := nI 0) hx hb dX3_judge_72 (by decide) ?_
        exact WR.iret S hr hlk hP hS (rfl) (congrArg (fun z => some (Value.int z)) (by rw [hE]; rfl)) dX3_judge_73
      · refine lv_aload_n hx hb dX3_judge_31 rfl (lv_at hl 0 rfl) ?_
        refine lv_iload_n hx hb dX3_judge_32 rfl (lv_at hl 2 rfl) ?_
        refine RO.callV S kv_X3_72 (c_X3_isCask l D cI cJ t f g h τ (nI k) n (hw)) hK hP rfl ⟨Nat.le_of_ble_eq_true rfl, Nat.le_of_ble_eq_true rfl⟩ hl.1 rfl rfl (Nat.le_of_ble_eq_true rfl) (Nat.zero_le _) (Nat.zero_le _) dX3_judge_33 ?_
        refine q_if_eqB (tgt := 62) hx hb dX3_judge_36 (by decide) (fun c_36 => ?_) (fun c_36 => ?_)
        · have hE : oJd (shR (τ 4) sh) f n sz = some k := by rw [← hR, show sz - k = (sz - (k + 1)) + 1 by omega]; exact fst1_hit (p := fun q7 => decide (¬ (q7 < n ∧ (shR (τ 4) sh) q7 = fi f q7 2))) (by rw [decide_eq_true_eq]; exact fun q => c_36 ⟨nI_pos' (by omega), nI_lt q.1 (by omega)⟩)
          refine lv_iconst (v := nI 1) hx hb dX3_judge_62 (by decide) ?_
          refine lv_iload_n hx hb dX3_judge_63 rfl (lv_at hl 2 rfl) ?_
          refine q_iaddN (a := 1) (b := k) hx hb dX3_judge_64 ?_
          exact WR.iret S hr hlk hP hS (rfl) (congrArg (fun z => some (Value.int z)) (by rw [hE]; rfl)) dX3_judge_65
        · have hkn : k < n := (nI_ltI (by omega) (by omega)).mp c_36.2
          refine lv_aload_n hx hb dX3_judge_39 rfl (lv_at hl 0 rfl) ?_
          refine g3_sheets S hK hP dX3_judge_40 ?_
          refine g31_rows S hK (TW_sheets hP) dX3_judge_43 ?_
          refine lv_iload_n hx hb dX3_judge_46 rfl (lv_at hl 1 rfl) ?_
          refine l1_rows S hK (TW_sheets hP) (j := sh) (by omega) dX3_judge_47 ?_
          refine lv_iload_n hx hb dX3_judge_48 rfl (lv_at hl 2 rfl) ?_
          refine l1_row S hK (TW_sheets hP) (sh := sh) (i := k) (by omega) (by omega) dX3_judge_49 ?_
          refine lv_aload_n hx hb dX3_judge_50 rfl (lv_at hl 0 rfl) ?_
          refine g3_live S hK hP dX3_judge_51 ?_
          refine g30_peal S hK (TW_live hP) dX3_judge_54 ?_
          refine lv_iload_n hx hb dX3_judge_57 rfl (lv_at hl 2 rfl) ?_
          refine l0_peal S hK (TW_live hP) (j := k) (by omega) dX3_judge_58 ?_
          refine lv_icmp_eq (tgt := 66) hx hb dX3_judge_59 (by decide) (fun c_59 => ?_) (fun c_59 => ?_)
          · refine lv_iinc (v := nI (k + 1)) (lv' := [(3, .int (nI (k + 1))), (0, .ref (t 0)), (1, .int (nI sh))]) hx hb dX3_judge_66 hl (k := 2) rfl (q_inc _) (by decide) rfl (fun ls hl => ?_)
            refine lv_goto (tgt := 18) hx hb dX3_judge_69 (by decide) ?_
            exact ih_18 (k + 1) _ _ ls (by omega) (by omega) (by rw [← hR, show sz - k = (sz - (k + 1)) + 1 by omega]; exact (fst1_go (p := fun q7 => decide (¬ (q7 < n ∧ (shR (τ 4) sh) q7 = fi f q7 2))) (by rw [decide_eq_true_eq]; exact fun q => q ⟨hkn, c_59⟩)).symm) hP hD hS (lv_sub hl [1, 2, 0] rfl)
          · have hE : oJd (shR (τ 4) sh) f n sz = some k := by rw [← hR, show sz - k = (sz - (k + 1)) + 1 by omega]; exact fst1_hit (p := fun q7 => decide (¬ (q7 < n ∧ (shR (τ 4) sh) q7 = fi f q7 2))) (by rw [decide_eq_true_eq]; exact fun q => c_59 q.2)
            refine lv_iconst (v := nI 1) hx hb dX3_judge_62 (by decide) ?_
            refine lv_iload_n hx hb dX3_judge_63 rfl (lv_at hl 2 rfl) ?_
            refine q_iaddN (a := 1) (b := k) hx hb dX3_judge_64 ?_
            exact WR.iret S hr hlk hP hS (rfl) (congrArg (fun z => some (Value.int z)) (by rw [hE]; rfl)) dX3_judge_65
  exact L_18 ((sz - 0) + 1) 0 _ _ ls (Nat.lt_succ_self _) (Nat.zero_le _) (rfl) hP hD hS (lv_sub hl [2, 3, 0] rfl)
set_option maxRecDepth 100000 in
set_option maxHeartbeats 4000000 in
theorem c_X3_isToldWithPeal (l : Launch) (D : va_G) (cI cJ : ClassId) (t : Nat → Nat) (f g h : Nat → Int32) (τ : Nat → Nat → Int32) (sh : Nat) (hsh : sh < 4) (k : Nat) (q : Nat) (hq : q ≤ 100) (sz : Nat) (hm : τ 3 sh = nI sz) (hm40 : sz ≤ 40) (n : Nat) (hw : Wk f n) (d : Nat) (hd : f 1 = nI d) (hp : Pk f n) (hs : Sk f) (hk : k < n) (hd2 : d + 100 ≤ 99999) : WE l yX3_isToldWithPeal cX3_isToldWithPeal 5 (some .boolean) 6 D cI cJ (TW cI cJ t f g h τ) [.ref (t 0), .int (nI sh), .int (nI k), .int (nI q)] (some (.int (bI (sTd (shR (τ 4) sh) 3 (fu f k 2 (nI q)) n sz = true)))) (fun g9 => TW cI cJ t f g9 h τ) := by
  have h8 := hw.2.1
  have hpG : Pk (fu f k 2 (nI q)) n := hp.fu ⟨q, by omega, rfl⟩
  have hsG : Sk (fu f k 2 (nI q)) := hs.fu
  have hdG : (fu f k 2 (nI q)) 1 = nI d := (upd_ne (by omega)).trans hd
  refine WE.of (by decide) (Nat.le_of_ble_eq_true rfl) (fun p e s m below meth c ls A S hr hlk hK hP hD hS hA hl => ?_)
  obtain ⟨hx, hb, hml, hown, hU⟩ := id S
  have hl : lv_has ls 5 [(0, .ref (t 0)), (1, .int (nI sh)), (2, .int (nI k)), (3, .int (nI q))] := hl
  refine lv_aload_n hx hb dX3_isToldWithPeal_0 rfl (lv_at hl 0 rfl) ?_
  refine g3_trial S hK hP dX3_isToldWithPeal_1 ?_
  refine lv_aload_n hx hb dX3_isToldWithPeal_4 rfl (lv_at hl 0 rfl) ?_
  refine g3_live S hK hP dX3_isToldWithPeal_5 ?_
  refine WR.callVq 11 (w1 := TW cI cJ t f f h τ) S kv_X3_125 (c_X0_takeFrom_2_1 l D cI cJ (sf t 1) (sf t 12) (sf t 23) f g h) hK hP hD hS hA _ _ TW_s123 TW_s123 PW3_fst rfl ⟨Nat.le_of_ble_eq_true rfl, Nat.le_of_ble_eq_true rfl⟩ hl.1 rfl rfl (Nat.le_of_ble_eq_true rfl) (Nat.zero_le _) (Nat.zero_le _) dX3_isToldWithPeal_8 (fun H locs hP hD hS => ?_)
  refine W.eq (g2 := F0 m 11 ls []) rfl ?_
  refine lv_aload_n hx hb dX3_isToldWithPeal_11 rfl (lv_at hl 0 rfl) ?_
  refine g3_trial S hK hP dX3_isToldWithPeal_12 ?_
  refine g30_peal S hK (TW_trial hP) dX3_isToldWithPeal_15 ?_
  refine lv_iload_n hx hb dX3_isToldWithPeal_18 rfl (lv_at hl 2 rfl) ?_
  refine lv_iload_n hx hb dX3_isToldWithPeal_19 rfl (lv_at hl 3 rfl) ?_
  refine ss_peal (w1 := TW cI cJ t f (fu f k 2 (nI q)) h τ) S hK hP hD hS TW_s2 (j := k) (by omega) TW_s2 dX3_isToldWithPeal_20 (fun H locs hP hD hS => ?_)
  refine lv_iconst (v := nI 0) hx hb dX3_isToldWithPeal_21 (by decide) ?_
  refine lv_istore (lv' := [(4, .int (nI 0)), (0, .ref (t 0)), (1, .int (nI sh)), (2, .int (nI k)), (3, .int (nI q))]) hx hb dX3_isToldWithPeal_22 hl (by decide) rfl (fun ls hl => ?_)
  have L_24 : ∀ (n9 : Nat) (i : Nat) (H : Heap) (locs : List Loc) (ls : Array Slot), sz - i < n9 → (i ≤ sz) → (sTd (shR (τ 4) sh) 3 (fu f k 2 (nI q)) n i = true) → va_P D vwCl (TW cI cJ t f (sGo (fu f k 2 (nI q)) n (i - 1)) h τ) H → va_D A (TW cI cJ t f (sGo (fu f k 2 (nI q)) n (i - 1)) h τ) → va_S A s.heap H locs → lv_has ls 5 [(0, .ref (t 0)), (1, .int (nI sh)), (2, .int (nI k)), (4, .int (nI i))] → W p l e (rmd 6) s m ([.ref (t 0), .int (nI sh), .int (nI k), .int (nI q)] : List Value).toArray below meth c H locs 0 0 (ZE below ([.ref (t 0), .int (nI sh), .int (nI k), .int (nI q)] : List Value).toArray s D (some (.int (bI (sTd (shR (τ 4) sh) 3 (fu f k 2 (nI q)) n sz = true)))) (fun g9 => TW cI cJ t f g9 h τ) A) (F0 m 24 ls []) := by
    intro n9
    induction n9 with
    | zero => intro i H locs ls hmeas; exact absurd hmeas (Nat.not_lt_zero _)
    | succ n9 ih_24 =>
      intro i H locs ls hmeas hi hT hP hD hS hl
      refine lv_iload hx hb dX3_isToldWithPeal_24 (lv_at hl 3 rfl) ?_
      refine lv_aload_n hx hb dX3_isToldWithPeal_26 rfl (lv_at hl 0 rfl) ?_
      refine g3_sheets S hK hP dX3_isToldWithPeal_27 ?_
      refine g31_sizes S hK (TW_sheets hP) dX3_isToldWithPeal_30 ?_
      refine lv_iload_n hx hb dX3_isToldWithPeal_33 rfl (lv_at hl 1 rfl) ?_
      refine l1_sizes S hK (TW_sheets hP) (j := sh) (by omega) dX3_isToldWithPeal_34 ?_
      refine q_eqi (y := nI sz) (hm) ?_
      refine q_icmp_geN (tgt := 79) (a := i) (b := sz) hx hb dX3_isToldWithPeal_35 (by decide) (by omega) (by omega) (fun c_35 => ?_) (fun c_35 => ?_)
      · refine lv_iconst (v := nI 1) hx hb dX3_isToldWithPeal_79 (by decide) ?_
        exact WE.zret S hr hlk hP hS (g := sGo (fu f k 2 (nI q)) n (i - 1)) (rfl) (bI_t (by rw [← show i = sz by omega]; exact hT)) dX3_isToldWithPeal_80
      · refine lv_iload hx hb dX3_isToldWithPeal_38 (lv_at hl 3 rfl) ?_
        refine q_if_leN (tgt := 51) (a := i) hx hb dX3_isToldWithPeal_40 (by decide) (by omega) (fun c_40 => ?_) (fun c_40 => ?_)
        · have e9 : sGo (fu f k 2 (nI q)) n (i - 1) = sGo (fu f k 2 (nI q)) n i := by rw [show i - 1 = i by omega]
          rw [e9] at hP hD
          refine lv_aload_n hx hb dX3_isToldWithPeal_51 rfl (lv_at hl 0 rfl) ?_
          refine g3_sheets S hK hP dX3_isToldWithPeal_52 ?_
          refine lv_iload_n hx hb dX3_isToldWithPeal_55 rfl (lv_at hl 1 rfl) ?_
          refine lv_iload hx hb dX3_isToldWithPeal_56 (lv_at hl 3 rfl) ?_
          refine lv_aload_n hx hb dX3_isToldWithPeal_58 rfl (lv_at hl 0 rfl) ?_
          refine g3_trial S hK hP dX3_isToldWithPeal_59 ?_
          refine g30_claps S hK (TW_trial hP) dX3_isToldWithPeal_62 ?_
          refine RO.callV S kv_X3_238 (c_X1_tells l D cI cJ (sf t 36) τ sh (by omega) i (by omega) ((sGo (fu f k 2 (nI q)) n i) 3)) hK (TW_sheets hP) rfl ⟨Nat.le_of_ble_eq_true rfl, Nat.le_of_ble_eq_true rfl⟩ hl.1 rfl rfl (Nat.le_of_ble_eq_true rfl) (Nat.zero_le _) (Nat.zero_le _) dX3_isToldWithPeal_65 ?_
          refine q_if_neB (tgt := 73) hx hb dX3_isToldWithPeal_68 (by decide) (fun c_68 => ?_) (fun c_68 => ?_)
          · refine lv_iinc (v := nI (i + 1)) (lv' := [(4, .int (nI (i + 1))), (0, .ref (t 0)), (1, .int (nI sh)), (2, .int (nI k))]) hx hb dX3_isToldWithPeal_73 hl (k := 3) rfl (q_inc _) (by decide) rfl (fun ls hl => ?_)
            refine lv_goto (tgt := 24) hx hb dX3_isToldWithPeal_76 (by decide) ?_
            exact ih_24 (i + 1) _ _ ls (by omega) (by omega) (by rw [sTd, hT, Bool.true_and]; exact decide_eq_true (p := shR (τ 4) sh i = -1 ∨ shR (τ 4) sh i = (sGo (fu f k 2 (nI q)) n i) (3)) c_68) hP hD hS (lv_sub hl [1, 2, 3, 0] rfl)
          · refine lv_iconst (v := nI 0) hx hb dX3_isToldWithPeal_71 (by decide) ?_
            exact WE.zret S hr hlk hP hS (g := sGo (fu f k 2 (nI q)) n i) (rfl) (bI_f (fun q5 => by
    have h0 : sTd (shR (τ 4) sh) 3 (fu f k 2 (nI q)) n (i + 1) = false := by rw [sTd, hT, Bool.true_and]; exact decide_eq_false (p := shR (τ 4) sh i = -1 ∨ shR (τ 4) sh i = (sGo (fu f k 2 (nI q)) n i) (3)) c_68
    have h1 := sTd_f h0 (m := sz - (i + 1))
    rw [show i + 1 + (sz - (i + 1)) = sz by omega, q5] at h1
    cases h1)) dX3_isToldWithPeal_72
        · refine lv_aload_n hx hb dX3_isToldWithPeal_43 rfl (lv_at hl 0 rfl) ?_
          refine g3_trial S hK hP dX3_isToldWithPeal_44 ?_
          refine lv_iconst (v := nI 1) hx hb dX3_isToldWithPeal_47 (by decide) ?_
          refine WR.callV (w1 := TW cI cJ t f (sGo (sGo (fu f k 2 (nI q)) n (i - 1)) n 1) h τ) S kv_X3_100 (c_X0_passDays l D cI cJ (sf t 12) (sGo (fu f k 2 (nI q)) n (i - 1)) 1 n (((hw).fuw (k := k) (w := 2) (by decide) (by decide)).kl (sGo_kl h8)) (d + (i - 1)) (sGo_1 h8 hdG) (by omega) (Pk.go h8 hpG hsG hdG (by omega)) (hsG.kl (sGo_kl h8))) hK hP hD hS hA (_) (_) TW_s2 TW_s2 PW_fst rfl ⟨Nat.le_of_ble_eq_true rfl, Nat.le_of_ble_eq_true rfl⟩ hl.1 rfl rfl (Nat.le_of_ble_eq_true rfl) (Nat.zero_le _) (Nat.zero_le _) dX3_isToldWithPeal_48 (fun H locs hP hD hS => ?_)
          refine W.eq (g2 := F0 m 51 ls []) rfl ?_
          have e9 : sGo (sGo (fu f k 2 (nI q)) n (i - 1)) n 1 = sGo (fu f k 2 (nI q)) n i := by rw [← sGo_add, show i - 1 + 1 = i by omega]
          rw [e9] at hP hD
          refine lv_aload_n hx hb dX3_isToldWithPeal_51 rfl (lv_at hl 0 rfl) ?_
          refine g3_sheets S hK hP dX3_isToldWithPeal_52 ?_
          refine lv_iload_n hx hb dX3_isToldWithPeal_55 rfl (lv_at hl 1 rfl) ?_
          refine lv_iload hx hb dX3_isToldWithPeal_56 (lv_at hl 3 rfl) ?_
          refine lv_aload_n hx hb dX3_isToldWithPeal_58 rfl (lv_at hl 0 rfl) ?_
          refine g3_trial S hK hP dX3_isToldWithPeal_59 ?_
          refine g30_claps S hK (TW_trial hP) dX3_isToldWithPeal_62 ?_
          refine RO.callV S kv_X3_238 (c_X1_tells l D cI cJ (sf t 36) τ sh (by omega) i (by omega) ((sGo (fu f k 2 (nI q)) n i) 3)) hK (TW_sheets hP) rfl ⟨Nat.le_of_ble_eq_true rfl, Nat.le_of_ble_eq_true rfl⟩ hl.1 rfl rfl (Nat.le_of_ble_eq_true rfl) (Nat.zero_le _) (Nat.zero_le _) dX3_isToldWithPeal_65 ?_
          refine q_if_neB (tgt := 73) hx hb dX3_isToldWithPeal_68 (by decide) (fun c_68 => ?_) (fun c_68 => ?_)
          · refine lv_iinc (v := nI (i + 1)) (lv' := [(4, .int (nI (i + 1))), (0, .ref (t 0)), (1, .int (nI sh)), (2, .int (nI k))]) hx hb dX3_isToldWithPeal_73 hl (k := 3) rfl (q_inc _) (by decide) rfl (fun ls hl => ?_)
            refine lv_goto (tgt := 24) hx hb dX3_isToldWithPeal_76 (by decide) ?_
            exact ih_24 (i + 1) _ _ ls (by omega) (by omega) (by rw [sTd, hT, Bool.true_and]; exact decide_eq_true (p := shR (τ 4) sh i = -1 ∨ shR (τ 4) sh i = (sGo (fu f k 2 (nI q)) n i) (3)) c_68) hP hD hS (lv_sub hl [1, 2, 3, 0] rfl)
          · refine lv_iconst (v := nI 0) hx hb dX3_isToldWithPeal_71 (by decide) ?_
            exact WE.zret S hr hlk hP hS (g := sGo (fu f k 2 (nI q)) n i) (rfl) (bI_f (fun q5 => by
    have h0 : sTd (shR (τ 4) sh) 3 (fu f k 2 (nI q)) n (i + 1) = false := by rw [sTd, hT, Bool.true_and]; exact decide_eq_false (p := shR (τ 4) sh i = -1 ∨ shR (τ 4) sh i = (sGo (fu f k 2 (nI q)) n i) (3)) c_68
    have h1 := sTd_f h0 (m := sz - (i + 1))
    rw [show i + 1 + (sz - (i + 1)) = sz by omega, q5] at h1
    cases h1)) dX3_isToldWithPeal_72
  exact L_24 ((sz - 0) + 1) 0 _ _ ls (Nat.lt_succ_self _) (Nat.zero_le _) (rfl) hP hD hS (lv_sub hl [1, 2, 3, 0] rfl)
set_option maxRecDepth 100000 in
set_option maxHeartbeats 4000000 in
theorem c_X3_isToldAsKind (l : Launch) (D : va_G) (cI cJ : ClassId) (t : Nat → Nat) (f g h : Nat → Int32) (τ : Nat → Nat → Int32) (sh : Nat) (hsh : sh < 4) (k : Nat) (q : Nat) (hq : q ≤ 6) (sz : Nat) (hm : τ 3 sh = nI sz) (hm40 : sz ≤ 40) (n : Nat) (hw : Wk f n) (d : Nat) (hd : f 1 = nI d) (hp : Pk f n) (hs : Sk f) (hk : k < n) (hd2 : d + 100 ≤ 99999) : WE l yX3_isToldAsKind cX3_isToldAsKind 5 (some .boolean) 6 D cI cJ (TW cI cJ t f g h τ) [.ref (t 0), .int (nI sh), .int (nI k), .int (nI q)] (some (.int (bI (sTd (shR (τ 4) sh) (16 + 7 * k + 2) (fu f k 0 (nI q)) n sz = true)))) (fun g9 => TW cI cJ t f g9 h τ) := by
  have h8 := hw.2.1
  have hpG : Pk (fu f k 0 (nI q)) n := hp.fw (by decide) (by decide)
  have hsG : Sk (fu f k 0 (nI q)) := hs.fu
  have hdG : (fu f k 0 (nI q)) 1 = nI d := (upd_ne (by omega)).trans hd
  refine WE.of (by decide) (Nat.le_of_ble_eq_true rfl) (fun p e s m below meth c ls A S hr hlk hK hP hD hS hA hl => ?_)
  obtain ⟨hx, hb, hml, hown, hU⟩ := id S
  have hl : lv_has ls 5 [(0, .ref (t 0)), (1, .int (nI sh)), (2, .int (nI k)), (3, .int (nI q))] := hl
  refine lv_aload_n hx hb dX3_isToldAsKind_0 rfl (lv_at hl 0 rfl) ?_
  refine g3_trial S hK hP dX3_isToldAsKind_1 ?_
  refine lv_aload_n hx hb dX3_isToldAsKind_4 rfl (lv_at hl 0 rfl) ?_
  refine g3_live S hK hP dX3_isToldAsKind_5 ?_
  refine WR.callVq 11 (w1 := TW cI cJ t f f h τ) S kv_X3_125 (c_X0_takeFrom_2_1 l D cI cJ (sf t 1) (sf t 12) (sf t 23) f g h) hK hP hD hS hA _ _ TW_s123 TW_s123 PW3_fst rfl ⟨Nat.le_of_ble_eq_true rfl, Nat.le_of_ble_eq_true rfl⟩ hl.1 rfl rfl (Nat.le_of_ble_eq_true rfl) (Nat.zero_le _) (Nat.zero_le _) dX3_isToldAsKind_8 (fun H locs hP hD hS => ?_)
  refine W.eq (g2 := F0 m 11 ls []) rfl ?_
  refine lv_aload_n hx hb dX3_isToldAsKind_11 rfl (lv_at hl 0 rfl) ?_
  refine g3_trial S hK hP dX3_isToldAsKind_12 ?_
  refine g30_kind S hK (TW_trial hP) dX3_isToldAsKind_15 ?_
  refine lv_iload_n hx hb dX3_isToldAsKind_18 rfl (lv_at hl 2 rfl) ?_
  refine lv_iload_n hx hb dX3_isToldAsKind_19 rfl (lv_at hl 3 rfl) ?_
  refine ss_kind (w1 := TW cI cJ t f (fu f k 0 (nI q)) h τ) S hK hP hD hS TW_s2 (j := k) (by omega) TW_s2 dX3_isToldAsKind_20 (fun H locs hP hD hS => ?_)
  refine lv_iconst (v := nI 0) hx hb dX3_isToldAsKind_21 (by decide) ?_
  refine lv_istore (lv' := [(4, .int (nI 0)), (0, .ref (t 0)), (1, .int (nI sh)), (2, .int (nI k)), (3, .int (nI q))]) hx hb dX3_isToldAsKind_22 hl (by decide) rfl (fun ls hl => ?_)
  have L_24 : ∀ (n9 : Nat) (i : Nat) (H : Heap) (locs : List Loc) (ls : Array Slot), sz - i < n9 → (i ≤ sz) → (sTd (shR (τ 4) sh) (16 + 7 * k + 2) (fu f k 0 (nI q)) n i = true) → va_P D vwCl (TW cI cJ t f (sGo (fu f k 0 (nI q)) n (i - 1)) h τ) H → va_D A (TW cI cJ t f (sGo (fu f k 0 (nI q)) n (i - 1)) h τ) → va_S A s.heap H locs → lv_has ls 5 [(0, .ref (t 0)), (1, .int (nI sh)), (2, .int (nI k)), (4, .int (nI i))] → W p l e (rmd 6) s m ([.ref (t 0), .int (nI sh), .int (nI k), .int (nI q)] : List Value).toArray below meth c H locs 0 0 (ZE below ([.ref (t 0), .int (nI sh), .int (nI k), .int (nI q)] : List Value).toArray s D (some (.int (bI (sTd (shR (τ 4) sh) (16 + 7 * k + 2) (fu f k 0 (nI q)) n sz = true)))) (fun g9 => TW cI cJ t f g9 h τ) A) (F0 m 24 ls []) := by
    intro n9
    induction n9 with
    | zero => intro i H locs ls hmeas; exact absurd hmeas (Nat.not_lt_zero _)
    | succ n9 ih_24 =>
      intro i H locs ls hmeas hi hT hP hD hS hl
      refine lv_iload hx hb dX3_isToldAsKind_24 (lv_at hl 3 rfl) ?_
      refine lv_aload_n hx hb dX3_isToldAsKind_26 rfl (lv_at hl 0 rfl) ?_
      refine g3_sheets S hK hP dX3_isToldAsKind_27 ?_
      refine g31_sizes S hK (TW_sheets hP) dX3_isToldAsKind_30 ?_
      refine lv_iload_n hx hb dX3_isToldAsKind_33 rfl (lv_at hl 1 rfl) ?_
      refine l1_sizes S hK (TW_sheets hP) (j := sh) (by omega) dX3_isToldAsKind_34 ?_
      refine q_eqi (y := nI sz) (hm) ?_
      refine q_icmp_geN (tgt := 81) (a := i) (b := sz) hx hb dX3_isToldAsKind_35 (by decide) (by omega) (by omega) (fun c_35 => ?_) (fun c_35 => ?_)
      · refine lv_iconst (v := nI 1) hx hb dX3_isToldAsKind_81 (by decide) ?_
        exact WE.zret S hr hlk hP hS (g := sGo (fu f k 0 (nI q)) n (i - 1)) (rfl) (bI_t (by rw [← show i = sz by omega]; exact hT)) dX3_isToldAsKind_82
      · refine lv_iload hx hb dX3_isToldAsKind_38 (lv_at hl 3 rfl) ?_
        refine q_if_leN (tgt := 51) (a := i) hx hb dX3_isToldAsKind_40 (by decide) (by omega) (fun c_40 => ?_) (fun c_40 => ?_)
        · have e9 : sGo (fu f k 0 (nI q)) n (i - 1) = sGo (fu f k 0 (nI q)) n i := by rw [show i - 1 = i by omega]
          rw [e9] at hP hD
          refine lv_aload_n hx hb dX3_isToldAsKind_51 rfl (lv_at hl 0 rfl) ?_
          refine g3_sheets S hK hP dX3_isToldAsKind_52 ?_
          refine lv_iload_n hx hb dX3_isToldAsKind_55 rfl (lv_at hl 1 rfl) ?_
          refine lv_iload hx hb dX3_isToldAsKind_56 (lv_at hl 3 rfl) ?_
          refine lv_aload_n hx hb dX3_isToldAsKind_58 rfl (lv_at hl 0 rfl) ?_
          refine g3_trial S hK hP dX3_isToldAsKind_59 ?_
          refine g30_peal S hK (TW_trial hP) dX3_isToldAsKind_62 ?_
          refine lv_iload_n hx hb dX3_isToldAsKind_65 rfl (lv_at hl 2 rfl) ?_
          refine l0_peal S hK (TW_trial hP) (j := k) (by omega) dX3_isToldAsKind_66 ?_
          refine RO.callV S kv_X3_238 (c_X1_tells l D cI cJ (sf t 36) τ sh (by omega) i (by omega) (fi (sGo (fu f k 0 (nI q)) n i) k 2)) hK (TW_sheets hP) rfl ⟨Nat.le_of_ble_eq_true rfl, Nat.le_of_ble_eq_true rfl⟩ hl.1 rfl rfl (Nat.le_of_ble_eq_true rfl) (Nat.zero_le _) (Nat.zero_le _) dX3_isToldAsKind_67 ?_
          refine q_if_neB (tgt := 75) hx hb dX3_isToldAsKind_70 (by decide) (fun c_70 => ?_) (fun c_70 => ?_)
          · refine lv_iinc (v := nI (i + 1)) (lv' := [(4, .int (nI (i + 1))), (0, .ref (t 0)), (1, .int (nI sh)), (2, .int (nI k))]) hx hb dX3_isToldAsKind_75 hl (k := 3) rfl (q_inc _) (by decide) rfl (fun ls hl => ?_)
            refine lv_goto (tgt := 24) hx hb dX3_isToldAsKind_78 (by decide) ?_
            exact ih_24 (i + 1) _ _ ls (by omega) (by omega) (by rw [sTd, hT, Bool.true_and]; exact decide_eq_true (p := shR (τ 4) sh i = -1 ∨ shR (τ 4) sh i = (sGo (fu f k 0 (nI q)) n i) ((16 + 7 * k + 2))) c_70) hP hD hS (lv_sub hl [1, 2, 3, 0] rfl)
          · refine lv_iconst (v := nI 0) hx hb dX3_isToldAsKind_73 (by decide) ?_
            exact WE.zret S hr hlk hP hS (g := sGo (fu f k 0 (nI q)) n i) (rfl) (bI_f (fun q5 => by
    have h0 : sTd (shR (τ 4) sh) (16 + 7 * k + 2) (fu f k 0 (nI q)) n (i + 1) = false := by rw [sTd, hT, Bool.true_and]; exact decide_eq_false (p := shR (τ 4) sh i = -1 ∨ shR (τ 4) sh i = (sGo (fu f k 0 (nI q)) n i) ((16 + 7 * k + 2))) c_70
    have h1 := sTd_f h0 (m := sz - (i + 1))
    rw [show i + 1 + (sz - (i + 1)) = sz by omega, q5] at h1
    cases h1)) dX3_isToldAsKind_74
        · refine lv_aload_n hx hb dX3_isToldAsKind_43 rfl (lv_at hl 0 rfl) ?_
          refine g3_trial S hK hP dX3_isToldAsKind_44 ?_
          refine lv_iconst (v := nI 1) hx hb dX3_isToldAsKind_47 (by decide) ?_
          refine WR.callV (w1 := TW cI cJ t f (sGo (sGo (fu f k 0 (nI q)) n (i - 1)) n 1) h τ) S kv_X3_100 (c_X0_passDays l D cI cJ (sf t 12) (sGo (fu f k 0 (nI q)) n (i - 1)) 1 n (((hw).fuw (k := k) (w := 0) (by decide) (by decide)).kl (sGo_kl h8)) (d + (i - 1)) (sGo_1 h8 hdG) (by omega) (Pk.go h8 hpG hsG hdG (by omega)) (hsG.kl (sGo_kl h8))) hK hP hD hS hA (_) (_) TW_s2 TW_s2 PW_fst rfl ⟨Nat.le_of_ble_eq_true rfl, Nat.le_of_ble_eq_true rfl⟩ hl.1 rfl rfl (Nat.le_of_ble_eq_true rfl) (Nat.zero_le _) (Nat.zero_le _) dX3_isToldAsKind_48 (fun H locs hP hD hS => ?_)
          refine W.eq (g2 := F0 m 51 ls []) rfl ?_
          have e9 : sGo (sGo (fu f k 0 (nI q)) n (i - 1)) n 1 = sGo (fu f k 0 (nI q)) n i := by rw [← sGo_add, show i - 1 + 1 = i by omega]
          rw [e9] at hP hD
          refine lv_aload_n hx hb dX3_isToldAsKind_51 rfl (lv_at hl 0 rfl) ?_
          refine g3_sheets S hK hP dX3_isToldAsKind_52 ?_
          refine lv_iload_n hx hb dX3_isToldAsKind_55 rfl (lv_at hl 1 rfl) ?_
          refine lv_iload hx hb dX3_isToldAsKind_56 (lv_at hl 3 rfl) ?_
          refine lv_aload_n hx hb dX3_isToldAsKind_58 rfl (lv_at hl 0 rfl) ?_
          refine g3_trial S hK hP dX3_isToldAsKind_59 ?_
          refine g30_peal S hK (TW_trial hP) dX3_isToldAsKind_62 ?_
          refine lv_iload_n hx hb dX3_isToldAsKind_65 rfl (lv_at hl 2 rfl) ?_
          refine l0_peal S hK (TW_trial hP) (j := k) (by omega) dX3_isToldAsKind_66 ?_
          refine RO.callV S kv_X3_238 (c_X1_tells l D cI cJ (sf t 36) τ sh (by omega) i (by omega) (fi (sGo (fu f k 0 (nI q)) n i) k 2)) hK (TW_sheets hP) rfl ⟨Nat.le_of_ble_eq_true rfl, Nat.le_of_ble_eq_true rfl⟩ hl.1 rfl rfl (Nat.le_of_ble_eq_true rfl) (Nat.zero_le _) (Nat.zero_le _) dX3_isToldAsKind_67 ?_
          refine q_if_neB (tgt := 75) hx hb dX3_isToldAsKind_70 (by decide) (fun c_70 => ?_) (fun c_70 => ?_)
          · refine lv_iinc (v := nI (i + 1)) (lv' := [(4, .int (nI (i + 1))), (0, .ref (t 0)), (1, .int (nI sh)), (2, .int (nI k))]) hx hb dX3_isToldAsKind_75 hl (k := 3) rfl (q_inc _) (by decide) rfl (fun ls hl => ?_)
            refine lv_goto (tgt := 24) hx hb dX3_isToldAsKind_78 (by decide) ?_
            exact ih_24 (i + 1) _ _ ls (by omega) (by omega) (by rw [sTd, hT, Bool.true_and]; exact decide_eq_true (p := shR (τ 4) sh i = -1 ∨ shR (τ 4) sh i = (sGo (fu f k 0 (nI q)) n i) ((16 + 7 * k + 2))) c_70) hP hD hS (lv_sub hl [1, 2, 3, 0] rfl)
          · refine lv_iconst (v := nI 0) hx hb dX3_isToldAsKind_73 (by decide) ?_
            exact WE.zret S hr hlk hP hS (g := sGo (fu f k 0 (nI q)) n i) (rfl) (bI_f (fun q5 => by
    have h0 : sTd (shR (τ 4) sh) (16 + 7 * k + 2) (fu f k 0 (nI q)) n (i + 1) = false := by rw [sTd, hT, Bool.true_and]; exact decide_eq_false (p := shR (τ 4) sh i = -1 ∨ shR (τ 4) sh i = (sGo (fu f k 0 (nI q)) n i) ((16 + 7 * k + 2))) c_70
    have h1 := sTd_f h0 (m := sz - (i + 1))
    rw [show i + 1 + (sz - (i + 1)) = sz by omega, q5] at h1
    cases h1)) dX3_isToldAsKind_74
  exact L_24 ((sz - 0) + 1) 0 _ _ ls (Nat.lt_succ_self _) (Nat.zero_le _) (rfl) hP hD hS (lv_sub hl [1, 2, 3, 0] rfl)
set_option maxRecDepth 100000 in
set_option maxHeartbeats 4000000 in
theorem c_X3_fits_bad (l : Launch) (D : va_G) (cI cJ : ClassId) (t : Nat → Nat) (f g h : Nat → Int32) (τ : Nat → Nat → Int32) (x : Int32) (y : Int32) (hs0 : ¬ (nI 0 ≤ x ∧ x ≤ nI 3)) : WR l yX3_fits cX3_fits 6 (some .int) 3 D cI cJ (TW cI cJ t f g h τ) [.ref (t 0), .int x, .int y] (some (.int (-1000001))) (TW cI cJ t f g h (va_up τ 9 (cFi (τ 9) 0))) := by
  refine WR.of (by decide) (Nat.le_of_ble_eq_true rfl) (fun p e s m below meth c ls A S hr hlk hK hP hD hS hA hl => ?_)
  obtain ⟨hx, hb, hml, hown, hU⟩ := id S
  have hl : lv_has ls 6 [(0, .ref (t 0)), (1, .int x), (2, .int y)] := hl
  refine lv_aload_n hx hb dX3_fits_0 rfl (lv_at hl 0 rfl) ?_
  refine lv_iload_n hx hb dX3_fits_1 rfl (lv_at hl 1 rfl) ?_
  refine lv_iload_n hx hb dX3_fits_2 rfl (lv_at hl 2 rfl) ?_
  refine RO.callV S kv_X3_153 (c_X3_wrongTelling_bad l D cI cJ t f g h τ x y hs0) hK hP rfl ⟨Nat.le_of_ble_eq_true rfl, Nat.le_of_ble_eq_true rfl⟩ hl.1 rfl rfl (Nat.le_of_ble_eq_true rfl) (Nat.zero_le _) (Nat.zero_le _) dX3_fits_3 ?_
  refine lv_istore_n (lv' := [(3, .int (nI 0)), (0, .ref (t 0)), (1, .int x), (2, .int y)]) hx hb dX3_fits_6 rfl hl (by decide) rfl (fun ls hl => ?_)
  refine lv_iload_n hx hb dX3_fits_7 rfl (lv_at hl 0 rfl) ?_
  refine q_if_ltN (tgt := 17) (a := 0) hx hb dX3_fits_8 (by decide) (by omega) ?_
  refine lv_aload_n hx hb dX3_fits_11 rfl (lv_at hl 1 rfl) ?_
  refine lv_iload_n hx hb dX3_fits_12 rfl (lv_at hl 0 rfl) ?_
  refine WR.callV (w1 := TW cI cJ t f g h (va_up τ 9 (cFi (τ 9) 0))) S kv_X3_48 (c_X3_fd0 l D cI cJ t f g h τ) hK hP hD hS hA ([]) ([]) (List.append_nil _).symm (List.append_nil _).symm TW_fst rfl ⟨Nat.le_of_ble_eq_true rfl, Nat.le_of_ble_eq_true rfl⟩ hl.1 rfl rfl (Nat.le_of_ble_eq_true rfl) (Nat.zero_le _) (Nat.zero_le _) dX3_fits_13 (fun H locs hP hD hS => ?_)
  exact WR.iret S hr hlk hP hS (rfl) rfl dX3_fits_16
set_option maxRecDepth 100000 in
set_option maxHeartbeats 4000000 in
theorem c_X3_fits_miss (l : Launch) (D : va_G) (cI cJ : ClassId) (t : Nat → Nat) (f g h : Nat → Int32) (τ : Nat → Nat → Int32) (sh : Nat) (hsh : sh < 4) (y : Int32) (hms : τ 2 sh = 0) : WR l yX3_fits cX3_fits 6 (some .int) 3 D cI cJ (TW cI cJ t f g h τ) [.ref (t 0), .int (nI sh), .int y] (some (.int (-1000006))) (TW cI cJ t f g h (va_up τ 9 (cFi (τ 9) 5))) := by
  refine WR.of (by decide) (Nat.le_of_ble_eq_true rfl) (fun p e s m below meth c ls A S hr hlk hK hP hD hS hA hl => ?_)
  obtain ⟨hx, hb, hml, hown, hU⟩ := id S
  have hl : lv_has ls 6 [(0, .ref (t 0)), (1, .int (nI sh)), (2, .int y)] := hl
  refine lv_aload_n hx hb dX3_fits_0 rfl (lv_at hl 0 rfl) ?_
  refine lv_iload_n hx hb dX3_fits_1 rfl (lv_at hl 1 rfl) ?_
  refine lv_iload_n hx hb dX3_fits_2 rfl (lv_at hl 2 rfl) ?_
  refine RO.callV S kv_X3_153 (c_X3_wrongTelling_miss l D cI cJ t f g h τ sh (by omega) y hms) hK hP rfl ⟨Nat.le_of_ble_eq_true rfl, Nat.le_of_ble_eq_true rfl⟩ hl.1 rfl rfl (Nat.le_of_ble_eq_true rfl) (Nat.zero_le _) (Nat.zero_le _) dX3_fits_3 ?_
  refine lv_istore_n (lv' := [(3, .int (nI 5)), (0, .ref (t 0)), (1, .int (nI sh)), (2, .int y)]) hx hb dX3_fits_6 rfl hl (by decide) rfl (fun ls hl => ?_)
  refine lv_iload_n hx hb dX3_fits_7 rfl (lv_at hl 0 rfl) ?_
  refine q_if_ltN (tgt := 17) (a := 5) hx hb dX3_fits_8 (by decide) (by omega) ?_
  refine lv_aload_n hx hb dX3_fits_11 rfl (lv_at hl 1 rfl) ?_
  refine lv_iload_n hx hb dX3_fits_12 rfl (lv_at hl 0 rfl) ?_
  refine WR.callV (w1 := TW cI cJ t f g h (va_up τ 9 (cFi (τ 9) 5))) S kv_X3_48 (c_X3_fd5 l D cI cJ t f g h τ) hK hP hD hS hA ([]) ([]) (List.append_nil _).symm (List.append_nil _).symm TW_fst rfl ⟨Nat.le_of_ble_eq_true rfl, Nat.le_of_ble_eq_true rfl⟩ hl.1 rfl rfl (Nat.le_of_ble_eq_true rfl) (Nat.zero_le _) (Nat.zero_le _) dX3_fits_13 (fun H locs hP hD hS => ?_)
  exact WR.iret S hr hlk hP hS (rfl) rfl dX3_fits_16
set_option maxRecDepth 100000 in
set_option maxHeartbeats 4000000 in
theorem c_X3_fits_badc (l : Launch) (D : va_G) (cI cJ : ClassId) (t : Nat → Nat) (f g h : Nat → Int32) (τ : Nat → Nat → Int32) (sh : Nat) (hsh : sh < 4) (y : Int32) (hms : ¬ τ 2 sh = 0) (n : Nat) (hw : Wk f n) (hb0 : ¬ (0 ≤ y ∧ y < nI n)) : WR l yX3_fits cX3_fits 6 (some .int) 3 D cI cJ (TW cI cJ t f g h τ) [.ref (t 0), .int (nI sh), .int y] (some (.int (-1000001))) (TW cI cJ t f g h (va_up τ 9 (cFi (τ 9) 0))) := by
  refine WR.of (by decide) (Nat.le_of_ble_eq_true rfl) (fun p e s m below meth c ls A S hr hlk hK hP hD hS hA hl => ?_)
  obtain ⟨hx, hb, hml, hown, hU⟩ := id S
  have hl : lv_has ls 6 [(0, .ref (t 0)), (1, .int (nI sh)), (2, .int y)] := hl
  refine lv_aload_n hx hb dX3_fits_0 rfl (lv_at hl 0 rfl) ?_
  refine lv_iload_n hx hb dX3_fits_1 rfl (lv_at hl 1 rfl) ?_
  refine lv_iload_n hx hb dX3_fits_2 rfl (lv_at hl 2 rfl) ?_
  refine RO.callV S kv_X3_153 (c_X3_wrongTelling_badc l D cI cJ t f g h τ sh (by omega) y hms n hw hb0) hK hP rfl ⟨Nat.le_of_ble_eq_true rfl, Nat.le_of_ble_eq_true rfl⟩ hl.1 rfl rfl (Nat.le_of_ble_eq_true rfl) (Nat.zero_le _) (Nat.zero_le _) dX3_fits_3 ?_
  refine lv_istore_n (lv' := [(3, .int (nI 0)), (0, .ref (t 0)), (1, .int (nI sh)), (2, .int y)]) hx hb dX3_fits_6 rfl hl (by decide) rfl (fun ls hl => ?_)
  refine lv_iload_n hx hb dX3_fits_7 rfl (lv_at hl 0 rfl) ?_
  refine q_if_ltN (tgt := 17) (a := 0) hx hb dX3_fits_8 (by decide) (by omega) ?_
  refine lv_aload_n hx hb dX3_fits_11 rfl (lv_at hl 1 rfl) ?_
  refine lv_iload_n hx hb dX3_fits_12 rfl (lv_at hl 0 rfl) ?_
  refine WR.callV (w1 := TW cI cJ t f g h (va_up τ 9 (cFi (τ 9) 0))) S kv_X3_48 (c_X3_fd0 l D cI cJ t f g h τ) hK hP hD hS hA ([]) ([]) (List.append_nil _).symm (List.append_nil _).symm TW_fst rfl ⟨Nat.le_of_ble_eq_true rfl, Nat.le_of_ble_eq_true rfl⟩ hl.1 rfl rfl (Nat.le_of_ble_eq_true rfl) (Nat.zero_le _) (Nat.zero_le _) dX3_fits_13 (fun H locs hP hD hS => ?_)
  exact WR.iret S hr hlk hP hS (rfl) rfl dX3_fits_16
set_option maxRecDepth 100000 in
set_option maxHeartbeats 4000000 in
theorem c_X3_pealed_bad (l : Launch) (D : va_G) (cI cJ : ClassId) (t : Nat → Nat) (f g h : Nat → Int32) (τ : Nat → Nat → Int32) (x : Int32) (y : Int32) (hs0 : ¬ (nI 0 ≤ x ∧ x ≤ nI 3)) : WR l yX3_pealed cX3_pealed 5 (some .int) 3 D cI cJ (TW cI cJ t f g h τ) [.ref (t 0), .int x, .int y] (some (.int (-1000001))) (TW cI cJ t f g h (va_up τ 9 (cFi (τ 9) 0))) := by
  refine WR.of (by decide) (Nat.le_of_ble_eq_true rfl) (fun p e s m below meth c ls A S hr hlk hK hP hD hS hA hl => ?_)
  obtain ⟨hx, hb, hml, hown, hU⟩ := id S
  have hl : lv_has ls 5 [(0, .ref (t 0)), (1, .int x), (2, .int y)] := hl
  refine lv_aload_n hx hb dX3_pealed_0 rfl (lv_at hl 0 rfl) ?_
  refine lv_iload_n hx hb dX3_pealed_1 rfl (lv_at hl 1 rfl) ?_
  refine lv_iload_n hx hb dX3_pealed_2 rfl (lv_at hl 2 rfl) ?_
  refine RO.callV S kv_X3_153 (c_X3_wrongTelling_bad l D cI cJ t f g h τ x y hs0) hK hP rfl ⟨Nat.le_of_ble_eq_true rfl, Nat.le_of_ble_eq_true rfl⟩ hl.1 rfl rfl (Nat.le_of_ble_eq_true rfl) (Nat.zero_le _) (Nat.zero_le _) dX3_pealed_3 ?_
  refine lv_istore_n (lv' := [(3, .int (nI 0)), (0, .ref (t 0)), (1, .int x), (2, .int y)]) hx hb dX3_pealed_6 rfl hl (by decide) rfl (fun ls hl => ?_)
  refine lv_iload_n hx hb dX3_pealed_7 rfl (lv_at hl 0 rfl) ?_
  refine q_if_ltN (tgt := 17) (a := 0) hx hb dX3_pealed_8 (by decide) (by omega) ?_
  refine lv_aload_n hx hb dX3_pealed_11 rfl (lv_at hl 1 rfl) ?_
  refine lv_iload_n hx hb dX3_pealed_12 rfl (lv_at hl 0 rfl) ?_
  refine WR.callV (w1 := TW cI cJ t f g h (va_up τ 9 (cFi (τ 9) 0))) S kv_X3_48 (c_X3_fd0 l D cI cJ t f g h τ) hK hP hD hS hA ([]) ([]) (List.append_nil _).symm (List.append_nil _).symm TW_fst rfl ⟨Nat.le_of_ble_eq_true rfl, Nat.le_of_ble_eq_true rfl⟩ hl.1 rfl rfl (Nat.le_of_ble_eq_true rfl) (Nat.zero_le _) (Nat.zero_le _) dX3_pealed_13 (fun H locs hP hD hS => ?_)
  exact WR.iret S hr hlk hP hS (rfl) rfl dX3_pealed_16
set_option maxRecDepth 100000 in
set_option maxHeartbeats 4000000 in
theorem c_X3_pealed_miss (l : Launch) (D : va_G) (cI cJ : ClassId) (t : Nat → Nat) (f g h : Nat → Int32) (τ : Nat → Nat → Int32) (sh : Nat) (hsh : sh < 4) (y : Int32) (hms : τ 2 sh = 0) : WR l yX3_pealed cX3_pealed 5 (some .int) 3 D cI cJ (TW cI cJ t f g h τ) [.ref (t 0), .int (nI sh), .int y] (some (.int (-1000006))) (TW cI cJ t f g h (va_up τ 9 (cFi (τ 9) 5))) := by
  refine WR.of (by decide) (Nat.le_of_ble_eq_true rfl) (fun p e s m below meth c ls A S hr hlk hK hP hD hS hA hl => ?_)
  obtain ⟨hx, hb, hml, hown, hU⟩ := id S
  have hl : lv_has ls 5 [(0, .ref (t 0)), (1, .int (nI sh)), (2, .int y)] := hl
  refine lv_aload_n hx hb dX3_pealed_0 rfl (lv_at hl 0 rfl) ?_
  refine lv_iload_n hx hb dX3_pealed_1 rfl (lv_at hl 1 rfl) ?_
  refine lv_iload_n hx hb dX3_pealed_2 rfl (lv_at hl 2 rfl) ?_
  refine RO.callV S kv_X3_153 (c_X3_wrongTelling_miss l D cI cJ t f g h τ sh (by omega) y hms) hK hP rfl ⟨Nat.le_of_ble_eq_true rfl, Nat.le_of_ble_eq_true rfl⟩ hl.1 rfl rfl (Nat.le_of_ble_eq_true rfl) (Nat.zero_le _) (Nat.zero_le _) dX3_pealed_3 ?_
  refine lv_istore_n (lv' := [(3, .int (nI 5)), (0, .ref (t 0)), (1, .int (nI sh)), (2, .int y)]) hx hb dX3_pealed_6 rfl hl (by decide) rfl (fun ls hl => ?_)
  refine lv_iload_n hx hb dX3_pealed_7 rfl (lv_at hl 0 rfl) ?_
  refine q_if_ltN (tgt := 17) (a := 5) hx hb dX3_pealed_8 (by decide) (by omega) ?_
  refine lv_aload_n hx hb dX3_pealed_11 rfl (lv_at hl 1 rfl) ?_
  refine lv_iload_n hx hb dX3_pealed_12 rfl (lv_at hl 0 rfl) ?_
  refine WR.callV (w1 := TW cI cJ t f g h (va_up τ 9 (cFi (τ 9) 5))) S kv_X3_48 (c_X3_fd5 l D cI cJ t f g h τ) hK hP hD hS hA ([]) ([]) (List.append_nil _).symm (List.append_nil _).symm TW_fst rfl ⟨Nat.le_of_ble_eq_true rfl, Nat.le_of_ble_eq_true rfl⟩ hl.1 rfl rfl (Nat.le_of_ble_eq_true rfl) (Nat.zero_le _) (Nat.zero_le _) dX3_pealed_13 (fun H locs hP hD hS => ?_)
  exact WR.iret S hr hlk hP hS (rfl) rfl dX3_pealed_16
set_option maxRecDepth 100000 in
set_option maxHeartbeats 4000000 in
theorem c_X3_pealed_badc (l : Launch) (D : va_G) (cI cJ : ClassId) (t : Nat → Nat) (f g h : Nat → Int32) (τ : Nat → Nat → Int32) (sh : Nat) (hsh : sh < 4) (y : Int32) (hms : ¬ τ 2 sh = 0) (n : Nat) (hw : Wk f n) (hb0 : ¬ (0 ≤ y ∧ y < nI n)) : WR l yX3_pealed cX3_pealed 5 (some .int) 3 D cI cJ (TW cI cJ t f g h τ) [.ref (t 0), .int (nI sh), .int y] (some (.int (-1000001))) (TW cI cJ t f g h (va_up τ 9 (cFi (τ 9) 0))) := by
  refine WR.of (by decide) (Nat.le_of_ble_eq_true rfl) (fun p e s m below meth c ls A S hr hlk hK hP hD hS hA hl => ?_)
  obtain ⟨hx, hb, hml, hown, hU⟩ := id S
  have hl : lv_has ls 5 [(0, .ref (t 0)), (1, .int (nI sh)), (2, .int y)] := hl
  refine lv_aload_n hx hb dX3_pealed_0 rfl (lv_at hl 0 rfl) ?_
  refine lv_iload_n hx hb dX3_pealed_1 rfl (lv_at hl 1 rfl) ?_
  refine lv_iload_n hx hb dX3_pealed_2 rfl (lv_at hl 2 rfl) ?_
  refine RO.callV S kv_X3_153 (c_X3_wrongTelling_badc l D cI cJ t f g h τ sh (by omega) y hms n hw hb0) hK hP rfl ⟨Nat.le_of_ble_eq_true rfl, Nat.le_of_ble_eq_true rfl⟩ hl.1 rfl rfl (Nat.le_of_ble_eq_true rfl) (Nat.zero_le _) (Nat.zero_le _) dX3_pealed_3 ?_
  refine lv_istore_n (lv' := [(3, .int (nI 0)), (0, .ref (t 0)), (1, .int (nI sh)), (2, .int y)]) hx hb dX3_pealed_6 rfl hl (by decide) rfl (fun ls hl => ?_)
  refine lv_iload_n hx hb dX3_pealed_7 rfl (lv_at hl 0 rfl) ?_
  refine q_if_ltN (tgt := 17) (a := 0) hx hb dX3_pealed_8 (by decide) (by omega) ?_
  refine lv_aload_n hx hb dX3_pealed_11 rfl (lv_at hl 1 rfl) ?_
  refine lv_iload_n hx hb dX3_pealed_12 rfl (lv_at hl 0 rfl) ?_
  refine WR.callV (w1 := TW cI cJ t f g h (va_up τ 9 (cFi (τ 9) 0))) S kv_X3_48 (c_X3_fd0 l D cI cJ t f g h τ) hK hP hD hS hA ([]) ([]) (List.append_nil _).symm (List.append_nil _).symm TW_fst rfl ⟨Nat.le_of_ble_eq_true rfl, Nat.le_of_ble_eq_true rfl⟩ hl.1 rfl rfl (Nat.le_of_ble_eq_true rfl) (Nat.zero_le _) (Nat.zero_le _) dX3_pealed_13 (fun H locs hP hD hS => ?_)
  exact WR.iret S hr hlk hP hS (rfl) rfl dX3_pealed_16
set_option maxRecDepth 100000 in
set_option maxHeartbeats 4000000 in
theorem c_X3_kinds_bad (l : Launch) (D : va_G) (cI cJ : ClassId) (t : Nat → Nat) (f g h : Nat → Int32) (τ : Nat → Nat → Int32) (x : Int32) (y : Int32) (hs0 : ¬ (nI 0 ≤ x ∧ x ≤ nI 3)) : WR l yX3_kinds cX3_kinds 6 (some .int) 3 D cI cJ (TW cI cJ t f g h τ) [.ref (t 0), .int x, .int y] (some (.int (-1000001))) (TW cI cJ t f g h (va_up τ 9 (cFi (τ 9) 0))) := by
  refine WR.of (by decide) (Nat.le_of_ble_eq_true rfl) (fun p e s m below meth c ls A S hr hlk hK hP hD hS hA hl => ?_)
  obtain ⟨hx, hb, hml, hown, hU⟩ := id S
  have hl : lv_has ls 6 [(0, .ref (t 0)), (1, .int x), (2, .int y)] := hl
  refine lv_aload_n hx hb dX3_kinds_0 rfl (lv_at hl 0 rfl) ?_
  refine lv_iload_n hx hb dX3_kinds_1 rfl (lv_at hl 1 rfl) ?_
  refine lv_iload_n hx hb dX3_kinds_2 rfl (lv_at hl 2 rfl) ?_
  refine RO.callV S kv_X3_153 (c_X3_wrongTelling_bad l D cI cJ t f g h τ x y hs0) hK hP rfl ⟨Nat.le_of_ble_eq_true rfl, Nat.le_of_ble_eq_true rfl⟩ hl.1 rfl rfl (Nat.le_of_ble_eq_true rfl) (Nat.zero_le _) (Nat.zero_le _) dX3_kinds_3 ?_
  refine lv_istore_n (lv' := [(3, .int (nI 0)), (0, .ref (t 0)), (1, .int x), (2, .int y)]) hx hb dX3_kinds_6 rfl hl (by decide) rfl (fun ls hl => ?_)
  refine lv_iload_n hx hb dX3_kinds_7 rfl (lv_at hl 0 rfl) ?_
  refine q_if_ltN (tgt := 17) (a := 0) hx hb dX3_kinds_8 (by decide) (by omega) ?_
  refine lv_aload_n hx hb dX3_kinds_11 rfl (lv_at hl 1 rfl) ?_
  refine lv_iload_n hx hb dX3_kinds_12 rfl (lv_at hl 0 rfl) ?_
  refine WR.callV (w1 := TW cI cJ t f g h (va_up τ 9 (cFi (τ 9) 0))) S kv_X3_48 (c_X3_fd0 l D cI cJ t f g h τ) hK hP hD hS hA ([]) ([]) (List.append_nil _).symm (List.append_nil _).symm TW_fst rfl ⟨Nat.le_of_ble_eq_true rfl, Nat.le_of_ble_eq_true rfl⟩ hl.1 rfl rfl (Nat.le_of_ble_eq_true rfl) (Nat.zero_le _) (Nat.zero_le _) dX3_kinds_13 (fun H locs hP hD hS => ?_)
  exact WR.iret S hr hlk hP hS (rfl) rfl dX3_kinds_16
set_option maxRecDepth 100000 in
set_option maxHeartbeats 4000000 in
theorem c_X3_kinds_miss (l : Launch) (D : va_G) (cI cJ : ClassId) (t : Nat → Nat) (f g h : Nat → Int32) (τ : Nat → Nat → Int32) (sh : Nat) (hsh : sh < 4) (y : Int32) (hms : τ 2 sh = 0) : WR l yX3_kinds cX3_kinds 6 (some .int) 3 D cI cJ (TW cI cJ t f g h τ) [.ref (t 0), .int (nI sh), .int y] (some (.int (-1000006))) (TW cI cJ t f g h (va_up τ 9 (cFi (τ 9) 5))) := by
  refine WR.of (by decide) (Nat.le_of_ble_eq_true rfl) (fun p e s m below meth c ls A S hr hlk hK hP hD hS hA hl => ?_)
  obtain ⟨hx, hb, hml, hown, hU⟩ := id S
  have hl : lv_has ls 6 [(0, .ref (t 0)), (1, .int (nI sh)), (2, .int y)] := hl
  refine lv_aload_n hx hb dX3_kinds_0 rfl (lv_at hl 0 rfl) ?_
  refine lv_iload_n hx hb dX3_kinds_1 rfl (lv_at hl 1 rfl) ?_
  refine lv_iload_n hx hb dX3_kinds_2 rfl (lv_at hl 2 rfl) ?_
  refine RO.callV S kv_X3_153 (c_X3_wrongTelling_miss l D cI cJ t f g h τ sh (by omega) y hms) hK hP rfl ⟨Nat.le_of_ble_eq_true rfl, Nat.le_of_ble_eq_true rfl⟩ hl.1 rfl rfl (Nat.le_of_ble_eq_true rfl) (Nat.zero_le _) (Nat.zero_le _) dX3_kinds_3 ?_
  refine lv_istore_n (lv' := [(3, .int (nI 5)), (0, .ref (t 0)), (1, .int (nI sh)), (2, .int y)]) hx hb dX3_kinds_6 rfl hl (by decide) rfl (fun ls hl => ?_)
  refine lv_iload_n hx hb dX3_kinds_7 rfl (lv_at hl 0 rfl) ?_
  refine q_if_ltN (tgt := 17) (a := 5) hx hb dX3_kinds_8 (by decide) (by omega) ?_
  refine lv_aload_n hx hb dX3_kinds_11 rfl (lv_at hl 1 rfl) ?_
  refine lv_iload_n hx hb dX3_kinds_12 rfl (lv_at hl 0 rfl) ?_
  refine WR.callV (w1 := TW cI cJ t f g h (va_up τ 9 (cFi (τ 9) 5))) S kv_X3_48 (c_X3_fd5 l D cI cJ t f g h τ) hK hP hD hS hA ([]) ([]) (List.append_nil _).symm (List.append_nil _).symm TW_fst rfl ⟨Nat.le_of_ble_eq_true rfl, Nat.le_of_ble_eq_true rfl⟩ hl.1 rfl rfl (Nat.le_of_ble_eq_true rfl) (Nat.zero_le _) (Nat.zero_le _) dX3_kinds_13 (fun H locs hP hD hS => ?_)
  exact WR.iret S hr hlk hP hS (rfl) rfl dX3_kinds_16
set_option maxRecDepth 100000 in
set_option maxHeartbeats 4000000 in
theorem c_X3_kinds_badc (l : Launch) (D : va_G) (cI cJ : ClassId) (t : Nat → Nat) (f g h : Nat → Int32) (τ : Nat → Nat → Int32) (sh : Nat) (hsh : sh < 4) (y : Int32) (hms : ¬ τ 2 sh = 0) (n : Nat) (hw : Wk f n) (hb0 : ¬ (0 ≤ y ∧ y < nI n)) : WR l yX3_kinds cX3_kinds 6 (some .int) 3 D cI cJ (TW cI cJ t f g h τ) [.ref (t 0), .int (nI sh), .int y] (some (.int (-1000001))) (TW cI cJ t f g h (va_up τ 9 (cFi (τ 9) 0))) := by
  refine WR.of (by decide) (Nat.le_of_ble_eq_true rfl) (fun p e s m below meth c ls A S hr hlk hK hP hD hS hA hl => ?_)
  obtain ⟨hx, hb, hml, hown, hU⟩ := id S
  have hl : lv_has ls 6 [(0, .ref (t 0)), (1, .int (nI sh)), (2, .int y)] := hl
  refine lv_aload_n hx hb dX3_kinds_0 rfl (lv_at hl 0 rfl) ?_
  refine lv_iload_n hx hb dX3_kinds_1 rfl (lv_at hl 1 rfl) ?_
  refine lv_iload_n hx hb dX3_kinds_2 rfl (lv_at hl 2 rfl) ?_
  refine RO.callV S kv_X3_153 (c_X3_wrongTelling_badc l D cI cJ t f g h τ sh (by omega) y hms n hw hb0) hK hP rfl ⟨Nat.le_of_ble_eq_true rfl, Nat.le_of_ble_eq_true rfl⟩ hl.1 rfl rfl (Nat.le_of_ble_eq_true rfl) (Nat.zero_le _) (Nat.zero_le _) dX3_kinds_3 ?_
  refine lv_istore_n (lv' := [(3, .int (nI 0)), (0, .ref (t 0)), (1, .int (nI sh)), (2, .int y)]) hx hb dX3_kinds_6 rfl hl (by decide) rfl (fun ls hl => ?_)
  refine lv_iload_n hx hb dX3_kinds_7 rfl (lv_at hl 0 rfl) ?_
  refine q_if_ltN (tgt := 17) (a := 0) hx hb dX3_kinds_8 (by decide) (by omega) ?_
  refine lv_aload_n hx hb dX3_kinds_11 rfl (lv_at hl 1 rfl) ?_
  refine lv_iload_n hx hb dX3_kinds_12 rfl (lv_at hl 0 rfl) ?_
  refine WR.callV (w1 := TW cI cJ t f g h (va_up τ 9 (cFi (τ 9) 0))) S kv_X3_48 (c_X3_fd0 l D cI cJ t f g h τ) hK hP hD hS hA ([]) ([]) (List.append_nil _).symm (List.append_nil _).symm TW_fst rfl ⟨Nat.le_of_ble_eq_true rfl, Nat.le_of_ble_eq_true rfl⟩ hl.1 rfl rfl (Nat.le_of_ble_eq_true rfl) (Nat.zero_le _) (Nat.zero_le _) dX3_kinds_13 (fun H locs hP hD hS => ?_)
  exact WR.iret S hr hlk hP hS (rfl) rfl dX3_kinds_16
set_option maxRecDepth 100000 in
set_option maxHeartbeats 4000000 in
theorem c_X3_fits_ok (l : Launch) (D : va_G) (cI cJ : ClassId) (t : Nat → Nat) (f g h : Nat → Int32) (τ : Nat → Nat → Int32) (sh : Nat) (hsh : sh < 4) (k : Nat) (hms : ¬ τ 2 sh = 0) (sz : Nat) (hm : τ 3 sh = nI sz) (hm40 : sz ≤ 40) (n : Nat) (hw : Wk f n) (d : Nat) (hd : f 1 = nI d) (hp : Pk f n) (hs : Sk f) (hk : k < n) (hd2 : d + 100 ≤ 99999) : WE l yX3_fits cX3_fits 6 (some .int) 7 D cI cJ (TW cI cJ t f g h τ) [.ref (t 0), .int (nI sh), .int (nI k)] (some (.int (nI ((fcD (fun q7 => sTd (shR (τ 4) sh) 3 (fu f k 2 (nI q7)) n sz) 101).1)))) (fun g9 => TW cI cJ t f g9 h τ) := by
  have h8 := hw.2.1
  refine WE.of (by decide) (Nat.le_of_ble_eq_true rfl) (fun p e s m below meth c ls A S hr hlk hK hP hD hS hA hl => ?_)
  obtain ⟨hx, hb, hml, hown, hU⟩ := id S
  have hl : lv_has ls 6 [(0, .ref (t 0)), (1, .int (nI sh)), (2, .int (nI k))] := hl
  refine lv_aload_n hx hb dX3_fits_0 rfl (lv_at hl 0 rfl) ?_
  refine lv_iload_n hx hb dX3_fits_1 rfl (lv_at hl 1 rfl) ?_
  refine lv_iload_n hx hb dX3_fits_2 rfl (lv_at hl 2 rfl) ?_
  refine RO.callV S kv_X3_153 (c_X3_wrongTelling_ok l D cI cJ t f g h τ sh (by omega) k hms n hw hk) hK hP rfl ⟨Nat.le_of_ble_eq_true rfl, Nat.le_of_ble_eq_true rfl⟩ hl.1 rfl rfl (Nat.le_of_ble_eq_true rfl) (Nat.zero_le _) (Nat.zero_le _) dX3_fits_3 ?_
  refine lv_istore_n (lv' := [(3, .int (-1)), (0, .ref (t 0)), (1, .int (nI sh)), (2, .int (nI k))]) hx hb dX3_fits_6 rfl hl (by decide) rfl (fun ls hl => ?_)
  refine lv_iload_n hx hb dX3_fits_7 rfl (lv_at hl 0 rfl) ?_
  refine lv_if_lt (tgt := 17) hx hb dX3_fits_8 (by decide) (fun _ => ?_) (fun h => absurd (by decide) h)
  refine lv_iconst (v := nI 0) hx hb dX3_fits_17 (by decide) ?_
  refine lv_istore (lv' := [(4, .int (nI 0)), (3, .int (-1)), (0, .ref (t 0)), (1, .int (nI sh)), (2, .int (nI k))]) hx hb dX3_fits_18 hl (by decide) rfl (fun ls hl => ?_)
  refine lv_iconst (v := nI 0) hx hb dX3_fits_20 (by decide) ?_
  refine lv_istore (lv' := [(5, .int (nI 0)), (4, .int (nI 0)), (3, .int (-1)), (0, .ref (t 0)), (1, .int (nI sh)), (2, .int (nI k))]) hx hb dX3_fits_21 hl (by decide) rfl (fun ls hl => ?_)
  have L_23 : ∀ (n9 : Nat) (j : Nat) (gg : Nat → Int32) (H : Heap) (locs : List Loc) (ls : Array Slot), 101 - j < n9 → (j ≤ 101) → va_P D vwCl (TW cI cJ t f gg h τ) H → va_D A (TW cI cJ t f gg h τ) → va_S A s.heap H locs → lv_has ls 6 [(0, .ref (t 0)), (1, .int (nI sh)), (2, .int (nI k)), (4, .int (nI (sCt (fun q7 => sTd (shR (τ 4) sh) 3 (fu f k 2 (nI q7)) n sz) j))), (5, .int (nI j))] → W p l e (rmd 7) s m ([.ref (t 0), .int (nI sh), .int (nI k)] : List Value).toArray below meth c H locs 0 0 (ZE below ([.ref (t 0), .int (nI sh), .int (nI k)] : List Value).toArray s D (some (.int (nI ((fcD (fun q7 => sTd (shR (τ 4) sh) 3 (fu f k 2 (nI q7)) n sz) 101).1)))) (fun g9 => TW cI cJ t f g9 h τ) A) (F0 m 23 ls []) := by
    intro n9
    induction n9 with
    | zero => intro j gg H locs ls hmeas; exact absurd hmeas (Nat.not_lt_zero _)
    | succ n9 ih_23 =>
      intro j gg H locs ls hmeas hj hP hD hS hl
      have hcl := sCt_le (p := fun q7 => sTd (shR (τ 4) sh) 3 (fu f k 2 (nI q7)) n sz) (j := j)
      refine lv_iload hx hb dX3_fits_23 (lv_at hl 4 rfl) ?_
      refine lv_bipush (v := nI 100) hx hb dX3_fits_25 (by decide) ?_
      refine q_icmp_gtN (tgt := 50) (a := j) (b := 100) hx hb dX3_fits_27 (by decide) (by omega) (by omega) (fun c_27 => ?_) (fun c_27 => ?_)
      · refine lv_iload hx hb dX3_fits_50 (lv_at hl 3 rfl) ?_
        exact WE.iret S hr hlk hP hS (g := gg) (rfl) (congrArg (fun z => some (Value.int z)) (by rw [show j = 101 by omega]; exact congrArg nI fcD_fst)) dX3_fits_52
      · refine lv_aload_n hx hb dX3_fits_30 rfl (lv_at hl 0 rfl) ?_
        refine lv_iload_n hx hb dX3_fits_31 rfl (lv_at hl 1 rfl) ?_
        refine lv_iload_n hx hb dX3_fits_32 rfl (lv_at hl 2 rfl) ?_
        refine lv_iload hx hb dX3_fits_33 (lv_at hl 4 rfl) ?_
        refine WE.callV (w1 := fun g9 => TW cI cJ t f g9 h τ) S kv_X3_156 (c_X3_isToldWithPeal l D cI cJ t f gg h τ sh (by omega) k j (by omega) sz (hm) (by omega) n (hw) d (hd) (hp) (hs) (by omega) (by omega)) hK hP hD hS hA [] [] (List.append_nil _).symm (fun _ => (List.append_nil _).symm) (fun _ => TW_fst) rfl ⟨Nat.le_of_ble_eq_true rfl, Nat.le_of_ble_eq_true rfl⟩ hl.1 rfl rfl (Nat.le_of_ble_eq_true rfl) (Nat.zero_le _) (Nat.zero_le _) dX3_fits_35 (fun g_1 H locs hP hD hS => ?_)
        refine q_if_eqB (tgt := 44) hx hb dX3_fits_38 (by decide) (fun c_38 => ?_) (fun c_38 => ?_)
        · refine lv_iinc (v := nI (j + 1)) (lv' := [(5, .int (nI (j + 1))), (0, .ref (t 0)), (1, .int (nI sh)), (2, .int (nI k)), (4, .int (nI (sCt (fun q7 => sTd (shR (τ 4) sh) 3 (fu f k 2 (nI q7)) n sz) j)))]) hx hb dX3_fits_44 hl (k := 4) rfl (q_inc _) (by decide) rfl (fun ls hl => ?_)
          refine lv_goto (tgt := 23) hx hb dX3_fits_47 (by decide) ?_
          exact ih_23 (j + 1) g_1 _ _ ls (by omega) (by omega) hP hD hS (by rw [show nI (sCt (fun q7 => sTd (shR (τ 4) sh) 3 (fu f k 2 (nI q7)) n sz) (j + 1)) = nI (sCt (fun q7 => sTd (shR (τ 4) sh) 3 (fu f k 2 (nI q7)) n sz) j) from congrArg nI (sCt_0 (p := fun q7 => sTd (shR (τ 4) sh) 3 (fu f k 2 (nI q7)) n sz) c_38)]; exact lv_sub hl [1, 2, 3, 4, 0] rfl)
        · refine lv_iinc (v := nI (sCt (fun q7 => sTd (shR (τ 4) sh) 3 (fu f k 2 (nI q7)) n sz) j + 1)) (lv' := [(4, .int (nI (sCt (fun q7 => sTd (shR (τ 4) sh) 3 (fu f k 2 (nI q7)) n sz) j + 1))), (0, .ref (t 0)), (1, .int (nI sh)), (2, .int (nI k)), (5, .int (nI j))]) hx hb dX3_fits_41 hl (k := 3) rfl (q_inc _) (by decide) rfl (fun ls hl => ?_)
          refine lv_iinc (v := nI (j + 1)) (lv' := [(5, .int (nI (j + 1))), (4, .int (nI (sCt (fun q7 => sTd (shR (τ 4) sh) 3 (fu f k 2 (nI q7)) n sz) j + 1))), (0, .ref (t 0)), (1, .int (nI sh)), (2, .int (nI k))]) hx hb dX3_fits_44 hl (k := 4) rfl (q_inc _) (by decide) rfl (fun ls hl => ?_)
          refine lv_goto (tgt := 23) hx hb dX3_fits_47 (by decide) ?_
          exact ih_23 (j + 1) g_1 _ _ ls (by omega) (by omega) hP hD hS (by rw [show nI (sCt (fun q7 => sTd (shR (τ 4) sh) 3 (fu f k 2 (nI q7)) n sz) (j + 1)) = nI (sCt (fun q7 => sTd (shR (τ 4) sh) 3 (fu f k 2 (nI q7)) n sz) j + 1) from congrArg nI (sCt_1 (p := fun q7 => sTd (shR (τ 4) sh) 3 (fu f k 2 (nI q7)) n sz) c_38)]; exact lv_sub hl [2, 3, 4, 1, 0] rfl)
  exact L_23 ((101 - 0) + 1) 0 g _ _ ls (Nat.lt_succ_self _) (by omega) hP hD hS (lv_sub hl [3, 4, 5, 1, 0] rfl)
set_option maxRecDepth 100000 in
set_option maxHeartbeats 4000000 in
theorem c_X3_pealed_ok (l : Launch) (D : va_G) (cI cJ : ClassId) (t : Nat → Nat) (f g h : Nat → Int32) (τ : Nat → Nat → Int32) (sh : Nat) (hsh : sh < 4) (k : Nat) (hms : ¬ τ 2 sh = 0) (sz : Nat) (hm : τ 3 sh = nI sz) (hm40 : sz ≤ 40) (n : Nat) (hw : Wk f n) (d : Nat) (hd : f 1 = nI d) (hp : Pk f n) (hs : Sk f) (hk : k < n) (hd2 : d + 100 ≤ 99999) : WE l yX3_pealed cX3_pealed 5 (some .int) 7 D cI cJ (TW cI cJ t f g h τ) [.ref (t 0), .int (nI sh), .int (nI k)] (some (.int (aN (fcD (fun q7 => sTd (shR (τ 4) sh) 3 (fu f k 2 (nI q7)) n sz) 101).2))) (fun g9 => TW cI cJ t f g9 h (tgN τ (fcD (fun q7 => sTd (shR (τ 4) sh) 3 (fu f k 2 (nI q7)) n sz) 101).2)) := by
  have h8 := hw.2.1
  refine WE.of (by decide) (Nat.le_of_ble_eq_true rfl) (fun p e s m below meth c ls A S hr hlk hK hP hD hS hA hl => ?_)
  obtain ⟨hx, hb, hml, hown, hU⟩ := id S
  have hl : lv_has ls 5 [(0, .ref (t 0)), (1, .int (nI sh)), (2, .int (nI k))] := hl
  refine lv_aload_n hx hb dX3_pealed_0 rfl (lv_at hl 0 rfl) ?_
  refine lv_iload_n hx hb dX3_pealed_1 rfl (lv_at hl 1 rfl) ?_
  refine lv_iload_n hx hb dX3_pealed_2 rfl (lv_at hl 2 rfl) ?_
  refine RO.callV S kv_X3_153 (c_X3_wrongTelling_ok l D cI cJ t f g h τ sh (by omega) k hms n hw hk) hK hP rfl ⟨Nat.le_of_ble_eq_true rfl, Nat.le_of_ble_eq_true rfl⟩ hl.1 rfl rfl (Nat.le_of_ble_eq_true rfl) (Nat.zero_le _) (Nat.zero_le _) dX3_pealed_3 ?_
  refine lv_istore_n (lv' := [(3, .int (-1)), (0, .ref (t 0)), (1, .int (nI sh)), (2, .int (nI k))]) hx hb dX3_pealed_6 rfl hl (by decide) rfl (fun ls hl => ?_)
  refine lv_iload_n hx hb dX3_pealed_7 rfl (lv_at hl 0 rfl) ?_
  refine lv_if_lt (tgt := 17) hx hb dX3_pealed_8 (by decide) (fun _ => ?_) (fun h => absurd (by decide) h)
  refine lv_iconst (v := nI 0) hx hb dX3_pealed_17 (by decide) ?_
  refine lv_istore (lv' := [(4, .int (nI 0)), (3, .int (-1)), (0, .ref (t 0)), (1, .int (nI sh)), (2, .int (nI k))]) hx hb dX3_pealed_18 hl (by decide) rfl (fun ls hl => ?_)
  have L_20 : ∀ (n9 : Nat) (j : Nat) (gg : Nat → Int32) (H : Heap) (locs : List Loc) (ls : Array Slot), 101 - j < n9 → (j ≤ 101) → (fst1 (fun q7 => sTd (shR (τ 4) sh) 3 (fu f k 2 (nI q7)) n sz) (101 - j) j = fst1 (fun q7 => sTd (shR (τ 4) sh) 3 (fu f k 2 (nI q7)) n sz) 101 0) → va_P D vwCl (TW cI cJ t f gg h τ) H → va_D A (TW cI cJ t f gg h τ) → va_S A s.heap H locs → lv_has ls 5 [(0, .ref (t 0)), (1, .int (nI sh)), (2, .int (nI k)), (4, .int (nI j))] → W p l e (rmd 7) s m ([.ref (t 0), .int (nI sh), .int (nI k)] : List Value).toArray below meth c H locs 0 0 (ZE below ([.ref (t 0), .int (nI sh), .int (nI k)] : List Value).toArray s D (some (.int (aN (fcD (fun q7 => sTd (shR (τ 4) sh) 3 (fu f k 2 (nI q7)) n sz) 101).2))) (fun g9 => TW cI cJ t f g9 h (tgN τ (fcD (fun q7 => sTd (shR (τ 4) sh) 3 (fu f k 2 (nI q7)) n sz) 101).2)) A) (F0 m 20 ls []) := by
    intro n9
    induction n9 with
    | zero => intro j gg H locs ls hmeas; exact absurd hmeas (Nat.not_lt_zero _)
    | succ n9 ih_20 =>
      intro j gg H locs ls hmeas hj hR hP hD hS hl
      refine lv_iload hx hb dX3_pealed_20 (lv_at hl 3 rfl) ?_
      refine lv_bipush (v := nI 100) hx hb dX3_pealed_22 (by decide) ?_
      refine q_icmp_gtN (tgt := 47) (a := j) (b := 100) hx hb dX3_pealed_24 (by decide) (by omega) (by omega) (fun c_24 => ?_) (fun c_24 => ?_)
      · have hE : (fcD (fun q7 => sTd (shR (τ 4) sh) 3 (fu f k 2 (nI q7)) n sz) 101).2 = none := by rw [← fcD_snd, ← hR, show 101 - j = 0 by omega]; rfl
        refine lv_aload_n hx hb dX3_pealed_47 rfl (lv_at hl 0 rfl) ?_
        refine lv_iconst (v := nI 3) hx hb dX3_pealed_48 (by decide) ?_
        refine WR.callV (w1 := TW cI cJ t f gg h (va_up τ 9 (cFi (τ 9) 3))) S kv_X3_48 (c_X3_fd3 l D cI cJ t f gg h τ) hK hP hD hS hA ([]) ([]) (List.append_nil _).symm (List.append_nil _).symm TW_fst rfl ⟨Nat.le_of_ble_eq_true rfl, Nat.le_of_ble_eq_true rfl⟩ hl.1 rfl rfl (Nat.le_of_ble_eq_true rfl) (Nat.zero_le _) (Nat.zero_le _) dX3_pealed_49 (fun H locs hP hD hS => ?_)
        exact WE.iret S hr hlk hP hS (g := gg) (by rw [hE]; rfl) (congrArg (fun z => some (Value.int z)) (by rw [hE]; rfl)) dX3_pealed_52
      · refine lv_aload_n hx hb dX3_pealed_27 rfl (lv_at hl 0 rfl) ?_
        refine lv_iload_n hx hb dX3_pealed_28 rfl (lv_at hl 1 rfl) ?_
        refine lv_iload_n hx hb dX3_pealed_29 rfl (lv_at hl 2 rfl) ?_
        refine lv_iload hx hb dX3_pealed_30 (lv_at hl 3 rfl) ?_
        refine WE.callV (w1 := fun g9 => TW cI cJ t f g9 h τ) S kv_X3_156 (c_X3_isToldWithPeal l D cI cJ t f gg h τ sh (by omega) k j (by omega) sz (hm) (by omega) n (hw) d (hd) (hp) (hs) (by omega) (by omega)) hK hP hD hS hA [] [] (List.append_nil _).symm (fun _ => (List.append_nil _).symm) (fun _ => TW_fst) rfl ⟨Nat.le_of_ble_eq_true rfl, Nat.le_of_ble_eq_true rfl⟩ hl.1 rfl rfl (Nat.le_of_ble_eq_true rfl) (Nat.zero_le _) (Nat.zero_le _) dX3_pealed_32 (fun g_1 H locs hP hD hS => ?_)
        refine q_if_eqB (tgt := 41) hx hb dX3_pealed_35 (by decide) (fun c_35 => ?_) (fun c_35 => ?_)
        · refine lv_iinc (v := nI (j + 1)) (lv' := [(4, .int (nI (j + 1))), (0, .ref (t 0)), (1, .int (nI sh)), (2, .int (nI k))]) hx hb dX3_pealed_41 hl (k := 3) rfl (q_inc _) (by decide) rfl (fun ls hl => ?_)
          refine lv_goto (tgt := 20) hx hb dX3_pealed_44 (by decide) ?_
          exact ih_20 (j + 1) g_1 _ _ ls (by omega) (by omega) (by rw [← hR, show 101 - j = (101 - (j + 1)) + 1 by omega, fst1_go (p := fun q7 => sTd (shR (τ 4) sh) 3 (fu f k 2 (nI q7)) n sz) c_35]) hP hD hS (lv_sub hl [1, 2, 3, 0] rfl)
        · have hE : (fcD (fun q7 => sTd (shR (τ 4) sh) 3 (fu f k 2 (nI q7)) n sz) 101).2 = some j := by rw [← fcD_snd, ← hR, show 101 - j = (101 - (j + 1)) + 1 by omega, fst1_hit (p := fun q7 => sTd (shR (τ 4) sh) 3 (fu f k 2 (nI q7)) n sz) c_35]
          refine lv_iload hx hb dX3_pealed_38 (lv_at hl 3 rfl) ?_
          exact WE.iret S hr hlk hP hS (g := g_1) (by rw [hE]; rfl) (congrArg (fun z => some (Value.int z)) (by rw [hE]; rfl)) dX3_pealed_40
  exact L_20 ((101 - 0) + 1) 0 g _ _ ls (Nat.lt_succ_self _) (by omega) (rfl) hP hD hS (lv_sub hl [2, 3, 4, 0] rfl)
set_option maxRecDepth 100000 in
set_option maxHeartbeats 4000000 in
theorem c_X3_kinds_ok (l : Launch) (D : va_G) (cI cJ : ClassId) (t : Nat → Nat) (f g h : Nat → Int32) (τ : Nat → Nat → Int32) (sh : Nat) (hsh : sh < 4) (k : Nat) (hms : ¬ τ 2 sh = 0) (sz : Nat) (hm : τ 3 sh = nI sz) (hm40 : sz ≤ 40) (n : Nat) (hw : Wk f n) (d : Nat) (hd : f 1 = nI d) (hp : Pk f n) (hs : Sk f) (hk : k < n) (hd2 : d + 100 ≤ 99999) : WE l yX3_kinds cX3_kinds 6 (some .int) 7 D cI cJ (TW cI cJ t f g h τ) [.ref (t 0), .int (nI sh), .int (nI k)] (some (.int (nI (sKd (fun q7 => sTd (shR (τ 4) sh) (16 + 7 * k + 2) (fu f k 0 (nI q7)) n sz) 7)))) (fun g9 => TW cI cJ t f g9 h τ) := by
  have h8 := hw.2.1
  refine WE.of (by decide) (Nat.le_of_ble_eq_true rfl) (fun p e s m below meth c ls A S hr hlk hK hP hD hS hA hl => ?_)
  obtain ⟨hx, hb, hml, hown, hU⟩ := id S
  have hl : lv_has ls 6 [(0, .ref (t 0)), (1, .int (nI sh)), (2, .int (nI k))] := hl
  refine lv_aload_n hx hb dX3_kinds_0 rfl (lv_at hl 0 rfl) ?_
  refine lv_iload_n hx hb dX3_kinds_1 rfl (lv_at hl 1 rfl) ?_
  refine lv_iload_n hx hb dX3_kinds_2 rfl (lv_at hl 2 rfl) ?_
  refine RO.callV S kv_X3_153 (c_X3_wrongTelling_ok l D cI cJ t f g h τ sh (by omega) k hms n hw hk) hK hP rfl ⟨Nat.le_of_ble_eq_true rfl, Nat.le_of_ble_eq_true rfl⟩ hl.1 rfl rfl (Nat.le_of_ble_eq_true rfl) (Nat.zero_le _) (Nat.zero_le _) dX3_kinds_3 ?_
  refine lv_istore_n (lv' := [(3, .int (-1)), (0, .ref (t 0)), (1, .int (nI sh)), (2, .int (nI k))]) hx hb dX3_kinds_6 rfl hl (by decide) rfl (fun ls hl => ?_)
  refine lv_iload_n hx hb dX3_kinds_7 rfl (lv_at hl 0 rfl) ?_
  refine lv_if_lt (tgt := 17) hx hb dX3_kinds_8 (by decide) (fun _ => ?_) (fun h => absurd (by decide) h)
  refine lv_iconst (v := nI 0) hx hb dX3_kinds_17 (by decide) ?_
  refine lv_istore (lv' := [(4, .int (nI 0)), (3, .int (-1)), (0, .ref (t 0)), (1, .int (nI sh)), (2, .int (nI k))]) hx hb dX3_kinds_18 hl (by decide) rfl (fun ls hl => ?_)
  refine lv_iconst (v := nI 0) hx hb dX3_kinds_20 (by decide) ?_
  refine lv_istore (lv' := [(5, .int (nI 0)), (4, .int (nI 0)), (3, .int (-1)), (0, .ref (t 0)), (1, .int (nI sh)), (2, .int (nI k))]) hx hb dX3_kinds_21 hl (by decide) rfl (fun ls hl => ?_)
  have L_23 : ∀ (n9 : Nat) (j : Nat) (gg : Nat → Int32) (H : Heap) (locs : List Loc) (ls : Array Slot), 7 - j < n9 → (j ≤ 7) → va_P D vwCl (TW cI cJ t f gg h τ) H → va_D A (TW cI cJ t f gg h τ) → va_S A s.heap H locs → lv_has ls 6 [(0, .ref (t 0)), (1, .int (nI sh)), (2, .int (nI k)), (4, .int (nI (sKd (fun q7 => sTd (shR (τ 4) sh) (16 + 7 * k + 2) (fu f k 0 (nI q7)) n sz) j))), (5, .int (nI j))] → W p l e (rmd 7) s m ([.ref (t 0), .int (nI sh), .int (nI k)] : List Value).toArray below meth c H locs 0 0 (ZE below ([.ref (t 0), .int (nI sh), .int (nI k)] : List Value).toArray s D (some (.int (nI (sKd (fun q7 => sTd (shR (τ 4) sh) (16 + 7 * k + 2) (fu f k 0 (nI q7)) n sz) 7)))) (fun g9 => TW cI cJ t f g9 h τ) A) (F0 m 23 ls []) := by
    intro n9
    induction n9 with
    | zero => intro j gg H locs ls hmeas; exact absurd hmeas (Nat.not_lt_zero _)
    | succ n9 ih_23 =>
      intro j gg H locs ls hmeas hj hP hD hS hl
      have lt := sKd_lt (T := fun q7 => sTd (shR (τ 4) sh) (16 + 7 * k + 2) (fu f k 0 (nI q7)) n sz) (j := j) (by omega)
      have l31 : sKd (fun q7 => sTd (shR (τ 4) sh) (16 + 7 * k + 2) (fu f k 0 (nI q7)) n sz) j < 2147483648 := Nat.lt_of_lt_of_le lt (Nat.le_trans (Nat.pow_le_pow_right (n := 2) (by decide) (show j ≤ 8 by omega)) (by decide))
      have p31 : 2 ^ j < 2147483648 := Nat.lt_of_le_of_lt (Nat.pow_le_pow_right (n := 2) (by decide) (show j ≤ 8 by omega)) (by decide)
      refine lv_iload hx hb dX3_kinds_23 (lv_at hl 4 rfl) ?_
      refine lv_bipush (v := nI 7) hx hb dX3_kinds_25 (by decide) ?_
      refine q_icmp_geN (tgt := 56) (a := j) (b := 7) hx hb dX3_kinds_27 (by decide) (by omega) (by omega) (fun c_27 => ?_) (fun c_27 => ?_)
      · refine lv_iload hx hb dX3_kinds_56 (lv_at hl 3 rfl) ?_
        exact WE.iret S hr hlk hP hS (g := gg) (rfl) (congrArg (fun z => some (Value.int z)) (by rw [show j = 7 by omega])) dX3_kinds_58
      · refine lv_aload_n hx hb dX3_kinds_30 rfl (lv_at hl 0 rfl) ?_
        refine lv_iload_n hx hb dX3_kinds_31 rfl (lv_at hl 1 rfl) ?_
        refine lv_iload_n hx hb dX3_kinds_32 rfl (lv_at hl 2 rfl) ?_
        refine lv_iload hx hb dX3_kinds_33 (lv_at hl 4 rfl) ?_
        refine WE.callV (w1 := fun g9 => TW cI cJ t f g9 h τ) S kv_X3_160 (c_X3_isToldAsKind l D cI cJ t f gg h τ sh (by omega) k j (by omega) sz (hm) (by omega) n (hw) d (hd) (hp) (hs) (by omega) (by omega)) hK hP hD hS hA [] [] (List.append_nil _).symm (fun _ => (List.append_nil _).symm) (fun _ => TW_fst) rfl ⟨Nat.le_of_ble_eq_true rfl, Nat.le_of_ble_eq_true rfl⟩ hl.1 rfl rfl (Nat.le_of_ble_eq_true rfl) (Nat.zero_le _) (Nat.zero_le _) dX3_kinds_35 (fun g_1 H locs hP hD hS => ?_)
        refine q_if_eqB (tgt := 50) hx hb dX3_kinds_38 (by decide) (fun c_38 => ?_) (fun c_38 => ?_)
        · refine lv_iinc (v := nI (j + 1)) (lv' := [(5, .int (nI (j + 1))), (0, .ref (t 0)), (1, .int (nI sh)), (2, .int (nI k)), (4, .int (nI (sKd (fun q7 => sTd (shR (τ 4) sh) (16 + 7 * k + 2) (fu f k 0 (nI q7)) n sz) j)))]) hx hb dX3_kinds_50 hl (k := 4) rfl (q_inc _) (by decide) rfl (fun ls hl => ?_)
          refine lv_goto (tgt := 23) hx hb dX3_kinds_53 (by decide) ?_
          exact ih_23 (j + 1) g_1 _ _ ls (by omega) (by omega) hP hD hS (by rw [show nI (sKd (fun q7 => sTd (shR (τ 4) sh) (16 + 7 * k + 2) (fu f k 0 (nI q7)) n sz) (j + 1)) = nI (sKd (fun q7 => sTd (shR (τ 4) sh) (16 + 7 * k + 2) (fu f k 0 (nI q7)) n sz) j) from congrArg nI (sKd_0 (T := fun q7 => sTd (shR (τ 4) sh) (16 + 7 * k + 2) (fu f k 0 (nI q7)) n sz) c_38)]; exact lv_sub hl [1, 2, 3, 4, 0] rfl)
        · refine lv_iload hx hb dX3_kinds_41 (lv_at hl 3 rfl) ?_
          refine lv_iconst (v := nI 1) hx hb dX3_kinds_43 (by decide) ?_
          refine lv_iload hx hb dX3_kinds_44 (lv_at hl 4 rfl) ?_
          refine lv_ishl hx hb dX3_kinds_46 ?_
          refine q_eqi (y := nI (2 ^ j)) (nI_shl1 _ (by omega)) ?_
          refine lv_ior hx hb dX3_kinds_47 ?_
          refine q_eqi (y := nI (sKd (fun q7 => sTd (shR (τ 4) sh) (16 + 7 * k + 2) (fu f k 0 (nI q7)) n sz) j ||| 2 ^ j)) (nI_or l31 p31) ?_
          refine lv_istore (lv' := [(4, .int (nI (sKd (fun q7 => sTd (shR (τ 4) sh) (16 + 7 * k + 2) (fu f k 0 (nI q7)) n sz) j ||| 2 ^ j))), (0, .ref (t 0)), (1, .int (nI sh)), (2, .int (nI k)), (5, .int (nI j))]) hx hb dX3_kinds_48 hl (by decide) rfl (fun ls hl => ?_)
          refine lv_iinc (v := nI (j + 1)) (lv' := [(5, .int (nI (j + 1))), (4, .int (nI (sKd (fun q7 => sTd (shR (τ 4) sh) (16 + 7 * k + 2) (fu f k 0 (nI q7)) n sz) j ||| 2 ^ j))), (0, .ref (t 0)), (1, .int (nI sh)), (2, .int (nI k))]) hx hb dX3_kinds_50 hl (k := 4) rfl (q_inc _) (by decide) rfl (fun ls hl => ?_)
          refine lv_goto (tgt := 23) hx hb dX3_kinds_53 (by decide) ?_
          exact ih_23 (j + 1) g_1 _ _ ls (by omega) (by omega) hP hD hS (by rw [show nI (sKd (fun q7 => sTd (shR (τ 4) sh) (16 + 7 * k + 2) (fu f k 0 (nI q7)) n sz) (j + 1)) = nI (sKd (fun q7 => sTd (shR (τ 4) sh) (16 + 7 * k + 2) (fu f k 0 (nI q7)) n sz) j ||| 2 ^ j) from congrArg nI (sKd_1 (T := fun q7 => sTd (shR (τ 4) sh) (16 + 7 * k + 2) (fu f k 0 (nI q7)) n sz) c_38)]; exact lv_sub hl [2, 3, 4, 1, 0] rfl)
  exact L_23 ((7 - 0) + 1) 0 g _ _ ls (Nat.lt_succ_self _) (by omega) hP hD hS (lv_sub hl [3, 4, 5, 1, 0] rfl)

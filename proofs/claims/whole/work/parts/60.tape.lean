/-! the class Tape: tokens -/
def ckR (r : Nat → Int32) (k s e v : Int32) : Nat → Int32 := fun i => if i = 2 then k else if i = 3 then s else if i = 4 then e else if i = 5 then v else r i
def CK (τ : Nat → Nat → Int32) (k s e v : Int32) : Nat → Nat → Int32 := va_up τ 0 (ckR (τ 0) k s e v)
theorem m0_ck {τ : Nat → Nat → Int32} {r r2 : Nat → Int32} {i : Nat} {x : Int32} (h : upd r i x = r2) : m0 (va_up τ 0 r) i x = va_up τ 0 r2 := by
  subst h
  exact bx_uu _ _ _ _
theorem CK_2 {τ : Nat → Nat → Int32} {k s e v x : Int32} : m0 (CK τ k s e v) 2 x = CK τ x s e v := m0_ck (by
  funext i
  unfold upd ckR
  by_cases h : i = 2
  · rw [if_pos h, if_pos h]
  · rw [if_neg h, if_neg h, if_neg h])
theorem CK_3 {τ : Nat → Nat → Int32} {k s e v x : Int32} : m0 (CK τ k s e v) 3 x = CK τ k x e v := m0_ck (by
  funext i
  unfold upd ckR
  by_cases h : i = 3
  · subst h; rfl
  · rw [if_neg h, if_neg h, if_neg h])
theorem CK_4 {τ : Nat → Nat → Int32} {k s e v x : Int32} : m0 (CK τ k s e v) 4 x = CK τ k s x v := m0_ck (by
  funext i
  unfold upd ckR
  by_cases h : i = 4
  · subst h; rfl
  · rw [if_neg h, if_neg h, if_neg h])
theorem CK_5 {τ : Nat → Nat → Int32} {k s e v x : Int32} : m0 (CK τ k s e v) 5 x = CK τ k s e x := m0_ck (by
  funext i
  unfold upd ckR
  by_cases h : i = 5
  · subst h; rfl
  · rw [if_neg h, if_neg h, if_neg h])
/-- the class's value, held at 1000 -/
def cvD (b : Nat → Int32) : Nat → Nat → Nat → Nat
  | 0, _, v => v
  | m + 1, i, v => if isD (b i) then cvD b m (i + 1) (min (10 * v + dgt (b i)) 1000) else v
theorem cvD_1 {b : Nat → Int32} {m i v : Nat} (h : isD (b i)) : cvD b (m + 1) i v = cvD b m (i + 1) (min (10 * v + dgt (b i)) 1000) := if_pos h
theorem cvD_0 {b : Nat → Int32} {m i v : Nat} (h : ¬ isD (b i)) : cvD b (m + 1) i v = v := if_neg h
theorem cvD_min {b : Nat → Int32} : ∀ {m i v : Nat}, cvD b m i (min v 1000) = min (vlD b m i v) 1000
  | 0, _, _ => rfl
  | m + 1, i, v => by
    by_cases c : isD (b i)
    · rw [cvD_1 c, vlD_1 c, ← cvD_min]
      congr 1
      split
      · omega
      · omega
    · rw [cvD_0 c, vlD_0 c]
/-- what stands in value behind a token -/
def cV (b : Nat → Int32) (L s : Nat) (v : Int32) : Int32 := if tK b L s = 2 then nI (min (tV b L s) 1000) else v
theorem cV_n {b : Nat → Int32} {L s : Nat} {v : Int32} (h : tK b L s = 2) : cV b L s v = nI (cvD b (L - s) s 0) := by
  unfold cV tV
  rw [if_pos h, if_pos h, ← cvD_min]
  rfl
theorem mn1000 {w x : Nat} (h : w ≤ 1000) (hx : x ≤ 9) : (if nI 1000 < nI (w * 10 + (48 + x) - 48) then nI 1000 else nI (w * 10 + (48 + x) - 48)) = nI (min (10 * w + x) 1000) := by
  rw [show w * 10 + (48 + x) - 48 = 10 * w + x by omega]
  by_cases c : 1000 < 10 * w + x
  · rw [if_pos (nI_lt c (by omega)), Nat.min_eq_right (by omega)]
  · rw [if_neg (fun q => c ((nI_ltI (by omega) (by omega)).mp q)), Nat.min_eq_left (by omega)]
/-- the class's tape, with the token that starts at S -/
def CS (τ : Nat → Nat → Int32) (L S : Nat) (v : Int32) : Nat → Nat → Int32 := CK τ (nI (tK (τ 1) L S)) (nI S) (nI (tE (τ 1) L S)) (cV (τ 1) L S v)
set_option maxRecDepth 100000 in
set_option maxHeartbeats 4000000 in
theorem c_X2_isLetter (l : Launch) (D : va_G) (cI cJ : ClassId) (o : Nat → Nat) (τ : Nat → Nat → Int32) (x : Int32) : RO l yX2_isLetter cX2_isLetter 1 (some .boolean) 0 D cI cJ (TT cI o τ) [.int x] (.int (bI (nI 97 ≤ x ∧ x ≤ nI 122))) := by
  refine RO.of (by decide) (Nat.le_of_ble_eq_true rfl) (fun p e s m below meth c ls S hr hlk hK hP hl => ?_)
  obtain ⟨hx, hb, hml, hown, hU⟩ := id S
  have hl : lv_has ls 1 [(0, .int x)] := hl
  refine lv_iload_n hx hb dX2_isLetter_0 rfl (lv_at hl 0 rfl) ?_
  refine lv_bipush (v := nI 97) hx hb dX2_isLetter_1 (by decide) ?_
  refine lv_icmp_lt (tgt := 16) hx hb dX2_isLetter_3 (by decide) (fun c_3 => ?_) (fun c_3 => ?_)
  · refine lv_iconst (v := nI 0) hx hb dX2_isLetter_16 (by decide) ?_
    exact RO.zret S hr hlk (bI_f (fun q5 => i32_not_lt_of_le q5.1 c_3)) dX2_isLetter_17
  · refine lv_iload_n hx hb dX2_isLetter_6 rfl (lv_at hl 0 rfl) ?_
    refine lv_bipush (v := nI 122) hx hb dX2_isLetter_7 (by decide) ?_
    refine lv_icmp_gt (tgt := 16) hx hb dX2_isLetter_9 (by decide) (fun c_9 => ?_) (fun c_9 => ?_)
    · refine lv_iconst (v := nI 0) hx hb dX2_isLetter_16 (by decide) ?_
      exact RO.zret S hr hlk (bI_f (fun q5 => i32_not_lt_of_le q5.2 c_9)) dX2_isLetter_17
    · refine lv_iconst (v := nI 1) hx hb dX2_isLetter_12 (by decide) ?_
      refine lv_goto (tgt := 17) hx hb dX2_isLetter_13 (by decide) ?_
      exact RO.zret S hr hlk (bI_t (⟨i32_le_of_not_lt c_3, i32_le_of_not_lt c_9⟩)) dX2_isLetter_17
set_option maxRecDepth 100000 in
set_option maxHeartbeats 4000000 in
theorem c_X2_isDigit (l : Launch) (D : va_G) (cI cJ : ClassId) (o : Nat → Nat) (τ : Nat → Nat → Int32) (x : Int32) : RO l yX2_isDigit cX2_isDigit 1 (some .boolean) 0 D cI cJ (TT cI o τ) [.int x] (.int (bI (nI 48 ≤ x ∧ x ≤ nI 57))) := by
  refine RO.of (by decide) (Nat.le_of_ble_eq_true rfl) (fun p e s m below meth c ls S hr hlk hK hP hl => ?_)
  obtain ⟨hx, hb, hml, hown, hU⟩ := id S
  have hl : lv_has ls 1 [(0, .int x)] := hl
  refine lv_iload_n hx hb dX2_isDigit_0 rfl (lv_at hl 0 rfl) ?_
  refine lv_bipush (v := nI 48) hx hb dX2_isDigit_1 (by decide) ?_
  refine lv_icmp_lt (tgt := 16) hx hb dX2_isDigit_3 (by decide) (fun c_3 => ?_) (fun c_3 => ?_)
  · refine lv_iconst (v := nI 0) hx hb dX2_isDigit_16 (by decide) ?_
    exact RO.zret S hr hlk (bI_f (fun q5 => i32_not_lt_of_le q5.1 c_3)) dX2_isDigit_17
  · refine lv_iload_n hx hb dX2_isDigit_6 rfl (lv_at hl 0 rfl) ?_
    refine lv_bipush (v := nI 57) hx hb dX2_isDigit_7 (by decide) ?_
    refine lv_icmp_gt (tgt := 16) hx hb dX2_isDigit_9 (by decide) (fun c_9 => ?_) (fun c_9 => ?_)
    · refine lv_iconst (v := nI 0) hx hb dX2_isDigit_16 (by decide) ?_
      exact RO.zret S hr hlk (bI_f (fun q5 => i32_not_lt_of_le q5.2 c_9)) dX2_isDigit_17
    · refine lv_iconst (v := nI 1) hx hb dX2_isDigit_12 (by decide) ?_
      refine lv_goto (tgt := 17) hx hb dX2_isDigit_13 (by decide) ?_
      exact RO.zret S hr hlk (bI_t (⟨i32_le_of_not_lt c_3, i32_le_of_not_lt c_9⟩)) dX2_isDigit_17
set_option maxRecDepth 100000 in
set_option maxHeartbeats 4000000 in
theorem c_X2_stepNumber (l : Launch) (D : va_G) (cI cJ : ClassId) (o : Nat → Nat) (τ : Nat → Nat → Int32) (k2 : Int32) (s3 : Int32) (e4 : Nat) (v5 : Int32) (L : Nat) (hL : τ 0 1 = nI L) (hL120 : L ≤ 120) (he4 : e4 ≤ L) : WR l yX2_stepNumber cX2_stepNumber 1 none 1 D cI cJ (TT cI o (CK τ k2 s3 (nI e4) v5)) [.ref (o 0)] (none) (TT cI o (CK τ k2 s3 (nI (rnD (τ 1) (L - e4) e4)) (nI (cvD (τ 1) (L - e4) e4 0)))) := by
  refine WR.of (by decide) (Nat.le_of_ble_eq_true rfl) (fun p e s m below meth c ls A S hr hlk hK hP hD hS hA hl => ?_)
  obtain ⟨hx, hb, hml, hown, hU⟩ := id S
  have hl : lv_has ls 1 [(0, .ref (o 0))] := hl
  refine lv_aload_n hx hb dX2_stepNumber_0 rfl (lv_at hl 0 rfl) ?_
  refine lv_iconst (v := nI 0) hx hb dX2_stepNumber_1 (by decide) ?_
  refine p22_value S hK hP hD hS dX2_stepNumber_2 (fun H locs hP hD hS => ?_)
  rw [CK_5] at hP hD
  have L_5 : ∀ (n9 : Nat) (j : Nat) (w5 : Nat) (H : Heap) (locs : List Loc) (ls : Array Slot), L - j < n9 → (e4 ≤ j) → (j ≤ L) → (w5 ≤ 1000) → (rnD (τ 1) (L - j) j = rnD (τ 1) (L - e4) e4) → (cvD (τ 1) (L - j) j w5 = cvD (τ 1) (L - e4) e4 0) → va_P D vwCl (TT cI o (CK τ k2 s3 (nI j) (nI w5))) H → va_D A (TT cI o (CK τ k2 s3 (nI j) (nI w5))) → va_S A s.heap H locs → lv_has ls 1 [(0, .ref (o 0))] → W p l e (rmd 1) s m ([.ref (o 0)] : List Value).toArray below meth c H locs 0 0 (ZW below ([.ref (o 0)] : List Value).toArray s D (none) (TT cI o (CK τ k2 s3 (nI (rnD (τ 1) (L - e4) e4)) (nI (cvD (τ 1) (L - e4) e4 0)))) A) (F0 m 5 ls []) := by
    intro n9
    induction n9 with
    | zero => intro j w5 H locs ls hmeas; exact absurd hmeas (Nat.not_lt_zero _)
    | succ n9 ih_5 =>
      intro j w5 H locs ls hmeas hj1 hj hw5 hJ hV hP hD hS hl
      refine lv_aload_n hx hb dX2_stepNumber_5 rfl (lv_at hl 0 rfl) ?_
      refine g22_end S hK hP dX2_stepNumber_6 ?_
      refine lv_aload_n hx hb dX2_stepNumber_9 rfl (lv_at hl 0 rfl) ?_
      refine g22_length S hK hP dX2_stepNumber_10 ?_
      refine q_eqi (y := nI L) (hL) ?_
      refine q_icmp_geN (tgt := 74) (a := j) (b := L) hx hb dX2_stepNumber_13 (by decide) (by omega) (by omega) (fun c_13 => ?_) (fun c_13 => ?_)
      · have hE9 : rnD (τ 1) (L - e4) e4 = j := by rw [← hJ, show L - j = 0 by omega]; rfl
        have hV9 : cvD (τ 1) (L - e4) e4 0 = w5 := by rw [← hV, show L - j = 0 by omega]; rfl
        exact WR.vret S hr hlk hP hS (by rw [hE9, hV9]) dX2_stepNumber_74
      · refine lv_aload_n hx hb dX2_stepNumber_16 rfl (lv_at hl 0 rfl) ?_
        refine g22_bytes S hK hP dX2_stepNumber_17 ?_
        refine lv_aload_n hx hb dX2_stepNumber_20 rfl (lv_at hl 0 rfl) ?_
        refine g22_end S hK hP dX2_stepNumber_21 ?_
        refine l2_bytes S hK hP (j := j) (by omega) dX2_stepNumber_24 ?_
        refine q_eqi (y := τ 1 j) (rfl) ?_
        refine RO.callS S ks_X2_121 (c_X2_isDigit l D cI cJ o (CK τ k2 s3 (nI j) (nI w5)) (τ 1 j)) hK hP ⟨Nat.le_of_ble_eq_true rfl, Nat.le_of_ble_eq_true rfl⟩ hl.1 rfl rfl (Nat.le_of_ble_eq_true rfl) (Nat.zero_le _) (Nat.zero_le _) dX2_stepNumber_25 ?_
        refine q_if_eqB (tgt := 74) hx hb dX2_stepNumber_28 (by decide) (fun c_28 => ?_) (fun c_28 => ?_)
        · have hE9 : rnD (τ 1) (L - e4) e4 = j := by rw [← hJ, show L - j = (L - j - 1) + 1 by omega, rnD_0 c_28]
          have hV9 : cvD (τ 1) (L - e4) e4 0 = w5 := by rw [← hV, show L - j = (L - j - 1) + 1 by omega, cvD_0 c_28]
          exact WR.vret S hr hlk hP hS (by rw [hE9, hV9]) dX2_stepNumber_74
        · obtain ⟨x9, hx9, hb9x, hd9⟩ := dgt_eq c_28
          refine lv_aload_n hx hb dX2_stepNumber_31 rfl (lv_at hl 0 rfl) ?_
          refine lv_aload_n hx hb dX2_stepNumber_32 rfl (lv_at hl 0 rfl) ?_
          refine g22_value S hK hP dX2_stepNumber_33 ?_
          refine lv_bipush (v := nI 10) hx hb dX2_stepNumber_36 (by decide) ?_
          refine q_imulN (a := w5) (b := 10) hx hb dX2_stepNumber_38 ?_
          refine lv_aload_n hx hb dX2_stepNumber_39 rfl (lv_at hl 0 rfl) ?_
          refine g22_bytes S hK hP dX2_stepNumber_40 ?_
          refine lv_aload_n hx hb dX2_stepNumber_43 rfl (lv_at hl 0 rfl) ?_
          refine g22_end S hK hP dX2_stepNumber_44 ?_
          refine l2_bytes S hK hP (j := j) (by omega) dX2_stepNumber_47 ?_
          refine q_eqi (y := nI (48 + x9)) (hb9x) ?_
          refine q_iaddN (a := w5 * 10) (b := 48 + x9) hx hb dX2_stepNumber_48 ?_
          refine lv_bipush (v := nI 48) hx hb dX2_stepNumber_49 (by decide) ?_
          refine q_isubN (a := (w5 * 10) + (48 + x9)) (b := 48) hx hb dX2_stepNumber_51 (by omega) ?_
          refine lv_sipush (v := nI 1000) hx hb dX2_stepNumber_52 (by decide) ?_
          refine q_min hx hb (by rw [hml]; exact hl.1.symm) hown hU mL_X2_127 (Nat.le_of_ble_eq_true rfl) (Nat.le_of_ble_eq_true rfl) (Nat.zero_le _) (Nat.zero_le _) dX2_stepNumber_55 ?_
          refine q_eqi (y := nI (min (10 * w5 + x9) 1000)) (mn1000 (by omega) (by omega)) ?_
          refine p22_value S hK hP hD hS dX2_stepNumber_58 (fun H locs hP hD hS => ?_)
          rw [CK_5] at hP hD
          refine lv_aload_n hx hb dX2_stepNumber_61 rfl (lv_at hl 0 rfl) ?_
          refine lv_dup hx hb dX2_stepNumber_62 rfl ?_
          refine g22_end S hK hP dX2_stepNumber_63 ?_
          refine lv_iconst (v := nI 1) hx hb dX2_stepNumber_66 (by decide) ?_
          refine q_iaddN (a := j) (b := 1) hx hb dX2_stepNumber_67 ?_
          refine p22_end S hK hP hD hS dX2_stepNumber_68 (fun H locs hP hD hS => ?_)
          rw [CK_4] at hP hD
          refine lv_goto (tgt := 5) hx hb dX2_stepNumber_71 (by decide) ?_
          exact ih_5 (j + 1) (min (10 * w5 + x9) 1000) _ _ ls (by omega) (by omega) (by omega) (by omega) (by rw [← hJ, show L - j = (L - (j + 1)) + 1 by omega, rnD_1 c_28]) (by rw [← hV, show L - j = (L - (j + 1)) + 1 by omega, cvD_1 c_28, hd9]) hP hD hS (lv_sub hl [0] rfl)
  exact L_5 ((L - e4) + 1) e4 0 _ _ ls (Nat.lt_succ_self _) (Nat.le_refl _) (by omega) (by omega) (rfl) (rfl) hP hD hS (lv_sub hl [0] rfl)
set_option maxRecDepth 100000 in
set_option maxHeartbeats 4000000 in
theorem c_X2_step (l : Launch) (D : va_G) (cI cJ : ClassId) (o : Nat → Nat) (τ : Nat → Nat → Int32) (k2 : Int32) (s3 : Int32) (e4 : Nat) (v5 : Int32) (L : Nat) (hL : τ 0 1 = nI L) (hL120 : L ≤ 120) (he4 : e4 ≤ L) : WR l yX2_step cX2_step 1 none 2 D cI cJ (TT cI o (CK τ k2 s3 (nI e4) v5)) [.ref (o 0)] (none) (TT cI o (CK τ (nI (tK (τ 1) L (sS (τ 1) L e4))) (nI (sS (τ 1) L e4)) (nI (tE (τ 1) L (sS (τ 1) L e4))) (cV (τ 1) L (sS (τ 1) L e4) v5))) := by
  refine WR.of (by decide) (Nat.le_of_ble_eq_true rfl) (fun p e s m below meth c ls A S hr hlk hK hP hD hS hA hl => ?_)
  obtain ⟨hx, hb, hml, hown, hU⟩ := id S
  have hl : lv_has ls 1 [(0, .ref (o 0))] := hl
  refine lv_aload_n hx hb dX2_step_0 rfl (lv_at hl 0 rfl) ?_
  refine lv_aload_n hx hb dX2_step_1 rfl (lv_at hl 0 rfl) ?_
  refine g22_end S hK hP dX2_step_2 ?_
  refine p22_start S hK hP hD hS dX2_step_5 (fun H locs hP hD hS => ?_)
  rw [CK_3] at hP hD
  have L_8 : ∀ (n9 : Nat) (i : Nat) (H : Heap) (locs : List Loc) (ls : Array Slot), L - i < n9 → (e4 ≤ i) → (i ≤ L) → (skp (τ 1) (L - i) i = sS (τ 1) L e4) → va_P D vwCl (TT cI o (CK τ k2 (nI i) (nI e4) v5)) H → va_D A (TT cI o (CK τ k2 (nI i) (nI e4) v5)) → va_S A s.heap H locs → lv_has ls 1 [(0, .ref (o 0))] → W p l e (rmd 2) s m ([.ref (o 0)] : List Value).toArray below meth c H locs 0 0 (ZW below ([.ref (o 0)] : List Value).toArray s D (none) (TT cI o (CK τ (nI (tK (τ 1) L (sS (τ 1) L e4))) (nI (sS (τ 1) L e4)) (nI (tE (τ 1) L (sS (τ 1) L e4))) (cV (τ 1) L (sS (τ 1) L e4) v5))) A) (F0 m 8 ls []) := by
    intro n9
    induction n9 with
    | zero => intro i H locs ls hmeas; exact absurd hmeas (Nat.not_lt_zero _)
    | succ n9 ih_8 =>
      intro i H locs ls hmeas hi1 hi hR hP hD hS hl
      refine lv_aload_n hx hb dX2_step_8 rfl (lv_at hl 0 rfl) ?_
      refine g22_start S hK hP dX2_step_9 ?_
      refine lv_aload_n hx hb dX2_step_12 rfl (lv_at hl 0 rfl) ?_
      refine g22_length S hK hP dX2_step_13 ?_
      refine q_eqi (y := nI L) (hL) ?_
      refine q_icmp_geN (tgt := 46) (a := i) (b := L) hx hb dX2_step_16 (by decide) (by omega) (by omega) (fun c_16 => ?_) (fun c_16 => ?_)
      · have hS9 : sS (τ 1) L e4 = i := by rw [← hR, show L - i = 0 by omega]; rfl
        refine lv_aload_n hx hb dX2_step_46 rfl (lv_at hl 0 rfl) ?_
        refine lv_aload_n hx hb dX2_step_47 rfl (lv_at hl 0 rfl) ?_
        refine g22_start S hK hP dX2_step_48 ?_
        refine p22_end S hK hP hD hS dX2_step_51 (fun H locs hP hD hS => ?_)
        rw [CK_4] at hP hD
        refine lv_aload_n hx hb dX2_step_54 rfl (lv_at hl 0 rfl) ?_
        refine g22_start S hK hP dX2_step_55 ?_
        refine lv_aload_n hx hb dX2_step_58 rfl (lv_at hl 0 rfl) ?_
        refine g22_length S hK hP dX2_step_59 ?_
        refine q_eqi (y := nI L) (hL) ?_
        refine q_icmp_ltN (tgt := 73) (a := i) (b := L) hx hb dX2_step_62 (by decide) (by omega) (by omega) (fun c_62 => ?_) (fun c_62 => ?_)
        · exact absurd c_62 (by omega)
        · refine lv_aload_n hx hb dX2_step_65 rfl (lv_at hl 0 rfl) ?_
          refine lv_iconst (v := nI 0) hx hb dX2_step_66 (by decide) ?_
          refine p22_token S hK hP hD hS dX2_step_67 (fun H locs hP hD hS => ?_)
          rw [CK_2] at hP hD
          refine lv_goto (tgt := 192) hx hb dX2_step_70 (by decide) ?_
          have hK9 : tK (τ 1) L i = 0 := if_pos (by omega)
          have hE9 : tE (τ 1) L i = i := if_pos hK9
          have hV9 : cV (τ 1) L i v5 = v5 := if_neg (by omega)
          exact WR.vret S hr hlk hP hS (by rw [hS9, hK9, hE9, hV9]; rfl) dX2_step_192
      · refine lv_aload_n hx hb dX2_step_19 rfl (lv_at hl 0 rfl) ?_
        refine g22_bytes S hK hP dX2_step_20 ?_
        refine lv_aload_n hx hb dX2_step_23 rfl (lv_at hl 0 rfl) ?_
        refine g22_start S hK hP dX2_step_24 ?_
        refine l2_bytes S hK hP (j := i) (by omega) dX2_step_27 ?_
        refine q_eqi (y := τ 1 i) (rfl) ?_
        refine lv_bipush (v := nI 32) hx hb dX2_step_28 (by decide) ?_
        refine lv_icmp_ne (tgt := 46) hx hb dX2_step_30 (by decide) (fun c_30 => ?_) (fun c_30 => ?_)
        · have hS9 : sS (τ 1) L e4 = i := by rw [← hR, show L - i = (L - i - 1) + 1 by omega, skp_0 c_30]
          refine lv_aload_n hx hb dX2_step_46 rfl (lv_at hl 0 rfl) ?_
          refine lv_aload_n hx hb dX2_step_47 rfl (lv_at hl 0 rfl) ?_
          refine g22_start S hK hP dX2_step_48 ?_
          refine p22_end S hK hP hD hS dX2_step_51 (fun H locs hP hD hS => ?_)
          rw [CK_4] at hP hD
          refine lv_aload_n hx hb dX2_step_54 rfl (lv_at hl 0 rfl) ?_
          refine g22_start S hK hP dX2_step_55 ?_
          refine lv_aload_n hx hb dX2_step_58 rfl (lv_at hl 0 rfl) ?_
          refine g22_length S hK hP dX2_step_59 ?_
          refine q_eqi (y := nI L) (hL) ?_
          refine q_icmp_ltN (tgt := 73) (a := i) (b := L) hx hb dX2_step_62 (by decide) (by omega) (by omega) (fun c_62 => ?_) (fun c_62 => ?_)
          · refine lv_aload_n hx hb dX2_step_73 rfl (lv_at hl 0 rfl) ?_
            refine g22_bytes S hK hP dX2_step_74 ?_
            refine lv_aload_n hx hb dX2_step_77 rfl (lv_at hl 0 rfl) ?_
            refine g22_start S hK hP dX2_step_78 ?_
            refine l2_bytes S hK hP (j := i) (by omega) dX2_step_81 ?_
            refine q_eqi (y := τ 1 i) (rfl) ?_
            refine RO.callS S ks_X2_118 (c_X2_isLetter l D cI cJ o (CK τ k2 (nI i) (nI i) v5) (τ 1 i)) hK hP ⟨Nat.le_of_ble_eq_true rfl, Nat.le_of_ble_eq_true rfl⟩ hl.1 rfl rfl (Nat.le_of_ble_eq_true rfl) (Nat.zero_le _) (Nat.zero_le _) dX2_step_82 ?_
            refine q_if_eqB (tgt := 132) hx hb dX2_step_85 (by decide) (fun c_85 => ?_) (fun c_85 => ?_)
            · refine lv_aload_n hx hb dX2_step_132 rfl (lv_at hl 0 rfl) ?_
              refine g22_bytes S hK hP dX2_step_133 ?_
              refine lv_aload_n hx hb dX2_step_136 rfl (lv_at hl 0 rfl) ?_
              refine g22_start S hK hP dX2_step_137 ?_
              refine l2_bytes S hK hP (j := i) (by omega) dX2_step_140 ?_
              refine q_eqi (y := τ 1 i) (rfl) ?_
              refine RO.callS S ks_X2_121 (c_X2_isDigit l D cI cJ o (CK τ k2 (nI i) (nI i) v5) (τ 1 i)) hK hP ⟨Nat.le_of_ble_eq_true rfl, Nat.le_of_ble_eq_true rfl⟩ hl.1 rfl rfl (Nat.le_of_ble_eq_true rfl) (Nat.zero_le _) (Nat.zero_le _) dX2_step_141 ?_
              refine q_if_eqB (tgt := 159) hx hb dX2_step_144 (by decide) (fun c_144 => ?_) (fun c_144 => ?_)
              · refine lv_aload_n hx hb dX2_step_159 rfl (lv_at hl 0 rfl) ?_
                refine lv_aload_n hx hb dX2_step_160 rfl (lv_at hl 0 rfl) ?_
                refine g22_bytes S hK hP dX2_step_161 ?_
                refine lv_aload_n hx hb dX2_step_164 rfl (lv_at hl 0 rfl) ?_
                refine g22_start S hK hP dX2_step_165 ?_
                refine l2_bytes S hK hP (j := i) (by omega) dX2_step_168 ?_
                refine q_eqi (y := τ 1 i) (rfl) ?_
                refine lv_bipush (v := nI 59) hx hb dX2_step_169 (by decide) ?_
                refine lv_icmp_ne (tgt := 178) hx hb dX2_step_171 (by decide) (fun c_171 => ?_) (fun c_171 => ?_)
                · refine lv_iconst (v := nI 4) hx hb dX2_step_178 (by decide) ?_
                  refine p22_token S hK hP hD hS dX2_step_179 (fun H locs hP hD hS => ?_)
                  rw [CK_2] at hP hD
                  refine lv_aload_n hx hb dX2_step_182 rfl (lv_at hl 0 rfl) ?_
                  refine lv_dup hx hb dX2_step_183 rfl ?_
                  refine g22_end S hK hP dX2_step_184 ?_
                  refine lv_iconst (v := nI 1) hx hb dX2_step_187 (by decide) ?_
                  refine q_iaddN (a := i) (b := 1) hx hb dX2_step_188 ?_
                  refine p22_end S hK hP hD hS dX2_step_189 (fun H locs hP hD hS => ?_)
                  rw [CK_4] at hP hD
                  have hK9 : tK (τ 1) L i = 4 := (if_neg (show ¬ L ≤ i by omega)).trans ((if_neg c_85).trans ((if_neg c_144).trans (if_neg c_171)))
                  have hE9 : tE (τ 1) L i = i + 1 := by unfold tE; rw [hK9]; rfl
                  have hV9 : cV (τ 1) L i v5 = v5 := if_neg (by omega)
                  exact WR.vret S hr hlk hP hS (by rw [hS9, hK9, hE9, hV9]) dX2_step_192
                · refine lv_iconst (v := nI 3) hx hb dX2_step_174 (by decide) ?_
                  refine lv_goto (tgt := 179) hx hb dX2_step_175 (by decide) ?_
                  refine p22_token S hK hP hD hS dX2_step_179 (fun H locs hP hD hS => ?_)
                  rw [CK_2] at hP hD
                  refine lv_aload_n hx hb dX2_step_182 rfl (lv_at hl 0 rfl) ?_
                  refine lv_dup hx hb dX2_step_183 rfl ?_
                  refine g22_end S hK hP dX2_step_184 ?_
                  refine lv_iconst (v := nI 1) hx hb dX2_step_187 (by decide) ?_
                  refine q_iaddN (a := i) (b := 1) hx hb dX2_step_188 ?_
                  refine p22_end S hK hP hD hS dX2_step_189 (fun H locs hP hD hS => ?_)
                  rw [CK_4] at hP hD
                  have hK9 : tK (τ 1) L i = 3 := (if_neg (show ¬ L ≤ i by omega)).trans ((if_neg c_85).trans ((if_neg c_144).trans (if_pos c_171)))
                  have hE9 : tE (τ 1) L i = i + 1 := by unfold tE; rw [hK9]; rfl
                  have hV9 : cV (τ 1) L i v5 = v5 := if_neg (by omega)
                  exact WR.vret S hr hlk hP hS (by rw [hS9, hK9, hE9, hV9]) dX2_step_192
              · refine lv_aload_n hx hb dX2_step_147 rfl (lv_at hl 0 rfl) ?_
                refine lv_iconst (v := nI 2) hx hb dX2_step_148 (by decide) ?_
                refine p22_token S hK hP hD hS dX2_step_149 (fun H locs hP hD hS => ?_)
                rw [CK_2] at hP hD
                refine lv_aload_n hx hb dX2_step_152 rfl (lv_at hl 0 rfl) ?_
                refine WR.callV (w1 := TT cI o (CK τ (nI 2) (nI i) (nI (rnD (τ 1) (L - i) i)) (nI (cvD (τ 1) (L - i) i 0)))) S kv_X2_124 (c_X2_stepNumber l D cI cJ o τ (nI 2) (nI i) i v5 L hL hL120 (by omega)) hK hP hD hS hA ([]) ([]) (List.append_nil _).symm (List.append_nil _).symm TT_fst rfl ⟨Nat.le_of_ble_eq_true rfl, Nat.le_of_ble_eq_true rfl⟩ hl.1 rfl rfl (Nat.le_of_ble_eq_true rfl) (Nat.zero_le _) (Nat.zero_le _) dX2_step_153 (fun H locs hP hD hS => ?_)
                refine W.eq (g2 := F0 m 156 ls []) rfl ?_
                refine lv_goto (tgt := 192) hx hb dX2_step_156 (by decide) ?_
                have hK9 : tK (τ 1) L i = 2 := (if_neg (show ¬ L ≤ i by omega)).trans ((if_neg c_85).trans (if_pos c_144))
                have hE9 : tE (τ 1) L i = rnD (τ 1) (L - i) i := by unfold tE; rw [hK9]; rfl
                have hV9 : cV (τ 1) L i v5 = nI (cvD (τ 1) (L - i) i 0) := cV_n hK9
                exact WR.vret S hr hlk hP hS (by rw [hS9, hK9, hE9, hV9]) dX2_step_192
            · refine lv_aload_n hx hb dX2_step_88 rfl (lv_at hl 0 rfl) ?_
              refine lv_iconst (v := nI 1) hx hb dX2_step_89 (by decide) ?_
              refine p22_token S hK hP hD hS dX2_step_90 (fun H locs hP hD hS => ?_)
              rw [CK_2] at hP hD
              have L_93 : ∀ (n9 : Nat) (j : Nat) (H : Heap) (locs : List Loc) (ls : Array Slot), L - j < n9 → (i ≤ j) → (j ≤ L) → (rnL (τ 1) (L - j) j = rnL (τ 1) (L - i) i) → va_P D vwCl (TT cI o (CK τ (nI 1) (nI i) (nI j) v5)) H → va_D A (TT cI o (CK τ (nI 1) (nI i) (nI j) v5)) → va_S A s.heap H locs → lv_has ls 1 [(0, .ref (o 0))] → W p l e (rmd 2) s m ([.ref (o 0)] : List Value).toArray below meth c H locs 0 0 (ZW below ([.ref (o 0)] : List Value).toArray s D (none) (TT cI o (CK τ (nI (tK (τ 1) L (sS (τ 1) L e4))) (nI (sS (τ 1) L e4)) (nI (tE (τ 1) L (sS (τ 1) L e4))) (cV (τ 1) L (sS (τ 1) L e4) v5))) A) (F0 m 93 ls []) := by
                intro n9
                induction n9 with
                | zero => intro j H locs ls hmeas; exact absurd hmeas (Nat.not_lt_zero _)
                | succ n9 ih_93 =>
                  intro j H locs ls hmeas hj1 hj hJ hP hD hS hl
                  refine lv_aload_n hx hb dX2_step_93 rfl (lv_at hl 0 rfl) ?_
                  refine g22_end S hK hP dX2_step_94 ?_
                  refine lv_aload_n hx hb dX2_step_97 rfl (lv_at hl 0 rfl) ?_
                  refine g22_length S hK hP dX2_step_98 ?_
                  refine q_eqi (y := nI L) (hL) ?_
                  refine q_icmp_geN (tgt := 192) (a := j) (b := L) hx hb dX2_step_101 (by decide) (by omega) (by omega) (fun c_101 => ?_) (fun c_101 => ?_)
                  · have hK9 : tK (τ 1) L i = 1 := (if_neg (show ¬ L ≤ i by omega)).trans (if_pos c_85)
                    have hE9 : tE (τ 1) L i = j := by
                      unfold tE
                      rw [hK9, if_neg (by decide), if_pos rfl, ← hJ, show L - j = 0 by omega]
                      rfl
                    have hV9 : cV (τ 1) L i v5 = v5 := if_neg (by omega)
                    exact WR.vret S hr hlk hP hS (by rw [hS9, hK9, hE9, hV9]) dX2_step_192
                  · refine lv_aload_n hx hb dX2_step_104 rfl (lv_at hl 0 rfl) ?_
                    refine g22_bytes S hK hP dX2_step_105 ?_
                    refine lv_aload_n hx hb dX2_step_108 rfl (lv_at hl 0 rfl) ?_
                    refine g22_end S hK hP dX2_step_109 ?_
                    refine l2_bytes S hK hP (j := j) (by omega) dX2_step_112 ?_
                    refine q_eqi (y := τ 1 j) (rfl) ?_
                    refine RO.callS S ks_X2_118 (c_X2_isLetter l D cI cJ o (CK τ (nI 1) (nI i) (nI j) v5) (τ 1 j)) hK hP ⟨Nat.le_of_ble_eq_true rfl, Nat.le_of_ble_eq_true rfl⟩ hl.1 rfl rfl (Nat.le_of_ble_eq_true rfl) (Nat.zero_le _) (Nat.zero_le _) dX2_step_113 ?_
                    refine q_if_eqB (tgt := 192) hx hb dX2_step_116 (by decide) (fun c_116 => ?_) (fun c_116 => ?_)
                    · have hK9 : tK (τ 1) L i = 1 := (if_neg (show ¬ L ≤ i by omega)).trans (if_pos c_85)
                      have hE9 : tE (τ 1) L i = j := by
                        unfold tE
                        rw [hK9, if_neg (by decide), if_pos rfl, ← hJ, show L - j = (L - j - 1) + 1 by omega, rnL_0 c_116]
                      have hV9 : cV (τ 1) L i v5 = v5 := if_neg (by omega)
                      exact WR.vret S hr hlk hP hS (by rw [hS9, hK9, hE9, hV9]) dX2_step_192
                    · refine lv_aload_n hx hb dX2_step_119 rfl (lv_at hl 0 rfl) ?_
                      refine lv_dup hx hb dX2_step_120 rfl ?_
                      refine g22_end S hK hP dX2_step_121 ?_
                      refine lv_iconst (v := nI 1) hx hb dX2_step_124 (by decide) ?_
                      refine q_iaddN (a := j) (b := 1) hx hb dX2_step_125 ?_
                      refine p22_end S hK hP hD hS dX2_step_126 (fun H locs hP hD hS => ?_)
                      rw [CK_4] at hP hD
                      refine lv_goto (tgt := 93) hx hb dX2_step_129 (by decide) ?_
                      exact ih_93 (j + 1) _ _ ls (by omega) (by omega) (by omega) (by rw [← hJ, show L - j = (L - (j + 1)) + 1 by omega, rnL_1 c_116]) hP hD hS (lv_sub hl [0] rfl)
              exact L_93 ((L - i) + 1) i _ _ ls (Nat.lt_succ_self _) (Nat.le_refl _) (by omega) (rfl) hP hD hS (lv_sub hl [0] rfl)
          · exact absurd c_62 (by omega)
        · refine lv_aload_n hx hb dX2_step_33 rfl (lv_at hl 0 rfl) ?_
          refine lv_dup hx hb dX2_step_34 rfl ?_
          refine g22_start S hK hP dX2_step_35 ?_
          refine lv_iconst (v := nI 1) hx hb dX2_step_38 (by decide) ?_
          refine q_iaddN (a := i) (b := 1) hx hb dX2_step_39 ?_
          refine p22_start S hK hP hD hS dX2_step_40 (fun H locs hP hD hS => ?_)
          rw [CK_3] at hP hD
          refine lv_goto (tgt := 8) hx hb dX2_step_43 (by decide) ?_
          exact ih_8 (i + 1) _ _ ls (by omega) (by omega) (by omega) (by rw [← hR, show L - i = (L - (i + 1)) + 1 by omega, skp_1 c_30]) hP hD hS (lv_sub hl [0] rfl)
  exact L_8 ((L - e4) + 1) e4 _ _ ls (Nat.lt_succ_self _) (Nat.le_refl _) (by omega) (rfl) hP hD hS (lv_sub hl [0] rfl)
set_option maxRecDepth 100000 in
set_option maxHeartbeats 4000000 in
theorem c_X2_isNumber (l : Launch) (D : va_G) (cI cJ : ClassId) (o : Nat → Nat) (τ : Nat → Nat → Int32) (v5 : Int32) (L : Nat) (S9 : Nat) (hL : τ 0 1 = nI L) (hL120 : L ≤ 120) (hS9 : S9 ≤ L) (mo : Nat) (hmo : mo ≤ 999) : RO l yX2_isNumber cX2_isNumber 2 (some .boolean) 0 D cI cJ (TT cI o (CS τ L S9 v5)) [.ref (o 0), .int (nI mo)] (.int (bI (tK (τ 1) L S9 = 2 ∧ tV (τ 1) L S9 ≤ mo))) := by
  have hte := tE_le (b := τ 1) (L := L) (s := S9) hS9
  have htv := tV_lt (b := τ 1) (L := L) (s := S9)
  have htk := tK_lt (b := τ 1) (L := L) (s := S9)
  refine RO.of (by decide) (Nat.le_of_ble_eq_true rfl) (fun p e s m below meth c ls S hr hlk hK hP hl => ?_)
  obtain ⟨hx, hb, hml, hown, hU⟩ := id S
  have hl : lv_has ls 2 [(0, .ref (o 0)), (1, .int (nI mo))] := hl
  refine lv_aload_n hx hb dX2_isNumber_0 rfl (lv_at hl 0 rfl) ?_
  refine g22_token S hK hP dX2_isNumber_1 ?_
  refine lv_iconst (v := nI 2) hx hb dX2_isNumber_4 (by decide) ?_
  refine q_icmp_neN (tgt := 20) (a := tK (τ 1) L S9) (b := 2) hx hb dX2_isNumber_5 (by decide) (by omega) (by omega) (fun c_5 => ?_) (fun c_5 => ?_)
  · refine lv_iconst (v := nI 0) hx hb dX2_isNumber_20 (by decide) ?_
    exact RO.zret S hr hlk (bI_f (fun q5 => c_5 q5.1)) dX2_isNumber_21
  · have hcv : cV (τ 1) L S9 v5 = nI (min (tV (τ 1) L S9) 1000) := if_pos c_5
    refine lv_aload_n hx hb dX2_isNumber_8 rfl (lv_at hl 0 rfl) ?_
    refine g22_value S hK hP dX2_isNumber_9 ?_
    refine q_eqi (y := nI (min (tV (τ 1) L S9) 1000)) (hcv) ?_
    refine lv_iload_n hx hb dX2_isNumber_12 rfl (lv_at hl 1 rfl) ?_
    refine q_icmp_gtN (tgt := 20) (a := min (tV (τ 1) L S9) 1000) (b := mo) hx hb dX2_isNumber_13 (by decide) (by omega) (by omega) (fun c_13 => ?_) (fun c_13 => ?_)
    · refine lv_iconst (v := nI 0) hx hb dX2_isNumber_20 (by decide) ?_
      exact RO.zret S hr hlk (bI_f (fun q5 => absurd q5.2 (by omega))) dX2_isNumber_21
    · refine lv_iconst (v := nI 1) hx hb dX2_isNumber_16 (by decide) ?_
      refine lv_goto (tgt := 21) hx hb dX2_isNumber_17 (by decide) ?_
      exact RO.zret S hr hlk (bI_t (⟨c_5, by omega⟩)) dX2_isNumber_21

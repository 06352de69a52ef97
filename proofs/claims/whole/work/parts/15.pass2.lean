/-- ages stay within their bounds -/
def Ak (f : Nat → Int32) (n : Nat) : Prop := ∀ k, k < n → ∃ p, p ≤ 999 ∧ fi f k 5 = nI p
theorem sMe_0 {f : Nat → Int32} {s j : Nat} (h : ¬ s / 2 ^ j % 2 = 1) : sMe f s (j + 1) = sMe f s j := if_neg h
theorem sMe_1 {f : Nat → Int32} {s j : Nat} (h : s / 2 ^ j % 2 = 1) : sMe f s (j + 1) = sEy (sMe f s j) j := if_pos h
def lLo (f : Nat → Int32) (n j : Nat) : Int32 := match sLo f n j with
  | none => -1
  | some b => sLd f n b
theorem sLo_n {f : Nat → Int32} {n j : Nat} (hE : sLo f n j = none) : sLo f n (j + 1) = some j := by simp only [sLo, hE]
theorem sLo_0 {f : Nat → Int32} {n j b : Nat} (hE : sLo f n j = some b) (h : ¬ sLd f n b < sLd f n j) : sLo f n (j + 1) = some b := by simp only [sLo, hE, if_neg h]
theorem sLo_1 {f : Nat → Int32} {n j b : Nat} (hE : sLo f n j = some b) (h : sLd f n b < sLd f n j) : sLo f n (j + 1) = some j := by simp only [sLo, hE, if_pos h]
theorem nI_neg1 {p : Nat} (h : p < 2147483648) : (-1 : Int32) < nI p := by
  rw [Int32.lt_iff_toInt_lt, nI_toInt h]
  show (-1 : Int) < _
  omega
theorem iMax0_pos (x : Int32) : (-1 : Int32) < iMax (nI 0) x := by
  unfold iMax
  split
  · rename_i h
    rw [Int32.lt_iff_toInt_lt] at h ⊢
    have h1 : (nI 0).toInt = 0 := rfl
    have h2 : (-1 : Int32).toInt = -1 := rfl
    omega
  · decide
theorem sRo_nat {f : Nat → Int32} {k p q : Nat} (hp : p ≤ 999) (hq : q ≤ 999) (h1 : fi f k 2 = nI p) (h2 : fi f k 5 = nI q) : sRo f k = nI (p - p / 4 + q) := by
  unfold sRo
  rw [h1, h2, show (nI p / nI 4 : Int32) = nI (p / 4) from pk_div (by omega) (by decide) (by decide), pk_sub (by omega), nI_add]
theorem sOt_le {f : Nat → Int32} {k : Nat} : ∀ {j : Nat}, sOt f k j ≤ j
  | 0 => Nat.le_refl 0
  | j + 1 => by
    have := sOt_le (f := f) (k := k) (j := j)
    unfold sOt
    split <;> omega
theorem ld_pos {f : Nat → Int32} {n k : Nat} (hw : Wk f n) (hp : Pk f n) (ha : Ak f n) (hk : k < n) : (-1 : Int32) < sLd f n k := by
  obtain ⟨p, p1, p2⟩ := hp k hk
  obtain ⟨q, q1, q2⟩ := ha k hk
  have ro := sRo_nat p1 q1 p2 q2
  have h8 := hw.2.1
  have ot := sOt_le (f := f) (k := k) (j := n)
  unfold sLd
  split
  · exact iMax0_pos _
  split
  · rw [ro]; exact nI_neg1 (by omega)
  split
  · rw [ro, pk_div (by omega) (by decide) (by decide)]; exact nI_neg1 (by omega)
  split
  · rw [ro, pk_div (by omega) (by decide) (by decide), nI_add]; exact nI_neg1 (by omega)
  split
  · decide
  split
  · split
    · exact iMax0_pos _
    · decide
  · rw [p2]; exact nI_neg1 (by omega)
set_option maxRecDepth 100000 in
set_option maxHeartbeats 4000000 in
theorem c_X0_makeEmptyAll (l : Launch) (D : va_G) (cI cJ : ClassId) (o : Nat → Nat) (f : Nat → Int32) (q : Nat) (n : Nat) (hw : Wk f n) (hq : q < 2147483648) : WR l yX0_makeEmptyAll cX0_makeEmptyAll 3 none 1 D cI cJ (PW cI o f) [.ref (o 0), .int (nI q)] (none) (PW cI o (sMe f q n)) := by
  have h8 := hw.2.1
  have hw0 := hw
  refine WR.of (by decide) (Nat.le_of_ble_eq_true rfl) (fun p e s m below meth c ls A S hr hlk hK hP hD hS hA hl => ?_)
  obtain ⟨hx, hb, hml, hown, hU⟩ := id S
  have hl : lv_has ls 3 [(0, .ref (o 0)), (1, .int (nI q))] := hl
  refine lv_iconst (v := nI 0) hx hb dX0_makeEmptyAll_0 (by decide) ?_
  refine lv_istore_n (lv' := [(2, .int (nI 0)), (0, .ref (o 0)), (1, .int (nI q))]) hx hb dX0_makeEmptyAll_1 rfl hl (by decide) rfl (fun ls hl => ?_)
  have L_2 : ∀ (n9 : Nat) (j : Nat) (H : Heap) (locs : List Loc) (ls : Array Slot), n - j < n9 → j ≤ n → Wk (sMe f q j) n → va_P D vwCl (PW cI o (sMe f q j)) H → va_D A (PW cI o (sMe f q j)) → va_S A s.heap H locs → lv_has ls 3 [(0, .ref (o 0)), (1, .int (nI q)), (2, .int (nI j))] → W p l e (rmd 1) s m ([.ref (o 0), .int (nI q)] : List Value).toArray below meth c H locs 0 0 (ZW below ([.ref (o 0), .int (nI q)] : List Value).toArray s D (none) (PW cI o (sMe f q n)) A) (F0 m 2 ls []) := by
    intro n9
    induction n9 with
    | zero => intro j H locs ls hm; exact absurd hm (Nat.not_lt_zero _)
    | succ n9 ih_2 =>
      intro j H locs ls hm hj hw hP hD hS hl
      have hdv : q / 2 ^ j < 2147483648 := Nat.lt_of_le_of_lt (Nat.div_le_self _ _) hq
      refine lv_iload_n hx hb dX0_makeEmptyAll_2 rfl (lv_at hl 2 rfl) ?_
      refine lv_aload_n hx hb dX0_makeEmptyAll_3 rfl (lv_at hl 0 rfl) ?_
      refine g00_casks S hK hP dX0_makeEmptyAll_4 ?_
      refine q_eqi (y := nI n) (hw.1) ?_
      refine q_icmp_geN (tgt := 29) (a := j) (b := n) hx hb dX0_makeEmptyAll_7 (by decide) (by omega) (by omega) (fun c_7 => ?_) (fun c_7 => ?_)
      · exact WR.vret S hr hlk hP hS (by rw [show j = n by omega]) dX0_makeEmptyAll_29
      · refine lv_iload_n hx hb dX0_makeEmptyAll_10 rfl (lv_at hl 1 rfl) ?_
        refine lv_iload_n hx hb dX0_makeEmptyAll_11 rfl (lv_at hl 2 rfl) ?_
        refine lv_ishr hx hb dX0_makeEmptyAll_12 ?_
        refine q_eqi (y := nI (q / 2 ^ j)) (nI_shr hq (by omega)) ?_
        refine lv_iconst (v := nI 1) hx hb dX0_makeEmptyAll_13 (by decide) ?_
        refine lv_iand hx hb dX0_makeEmptyAll_14 ?_
        refine q_eqi (y := nI (q / 2 ^ j % 2)) (nI_and1 hdv) ?_
        refine q_if_eqN (tgt := 23) (a := q / 2 ^ j % 2) hx hb dX0_makeEmptyAll_15 (by decide) (by omega) (fun c_15 => ?_) (fun c_15 => ?_)
        · refine lv_iinc (v := nI (j + 1)) (lv' := [(2, .int (nI (j + 1))), (0, .ref (o 0)), (1, .int (nI q))]) hx hb dX0_makeEmptyAll_23 hl (k := 2) rfl (q_inc _) (by decide) rfl (fun ls hl => ?_)
          refine lv_goto (tgt := 2) hx hb dX0_makeEmptyAll_26 (by decide) ?_
          exact ih_2 (j + 1) _ _ ls (by omega) (by omega) (hw0.kp (sMe_kp (by omega))) (by rw [sMe_0 (by omega)]; exact hP) (by rw [sMe_0 (by omega)]; exact hD) hS (lv_sub hl [1, 2, 0] rfl)
        · refine lv_aload_n hx hb dX0_makeEmptyAll_18 rfl (lv_at hl 0 rfl) ?_
          refine lv_iload_n hx hb dX0_makeEmptyAll_19 rfl (lv_at hl 2 rfl) ?_
          refine WR.callV (w1 := PW cI o (sEy (sMe f q j) j)) S kv_X0_65 (c_X0_makeEmpty l D cI cJ o (sMe f q j) j (by omega)) hK hP hD hS hA ([]) ([]) rfl rfl rfl rfl ⟨Nat.le_of_ble_eq_true rfl, Nat.le_of_ble_eq_true rfl⟩ hl.1 rfl rfl (Nat.le_of_ble_eq_true rfl) (Nat.zero_le _) (Nat.zero_le _) dX0_makeEmptyAll_20 (fun H locs hP hD hS => ?_)
          refine W.eq (g2 := F0 m 23 ls []) rfl ?_
          refine lv_iinc (v := nI (j + 1)) (lv' := [(2, .int (nI (j + 1))), (0, .ref (o 0)), (1, .int (nI q))]) hx hb dX0_makeEmptyAll_23 hl (k := 2) rfl (q_inc _) (by decide) rfl (fun ls hl => ?_)
          refine lv_goto (tgt := 2) hx hb dX0_makeEmptyAll_26 (by decide) ?_
          exact ih_2 (j + 1) _ _ ls (by omega) (by omega) (hw0.kp (sMe_kp (by omega))) (by rw [sMe_1 (by omega)]; exact hP) (by rw [sMe_1 (by omega)]; exact hD) hS (lv_sub hl [1, 2, 0] rfl)
  exact L_2 ((n - 0) + 1) 0 _ _ ls (Nat.lt_succ_self _) (Nat.zero_le n) (hw) hP hD hS (lv_sub hl [1, 2, 0] rfl)
set_option maxRecDepth 100000 in
set_option maxHeartbeats 4000000 in
theorem c_X0_sumOf_2 (l : Launch) (D : va_G) (cI cJ : ClassId) (o : Nat → Nat) (f : Nat → Int32) (n : Nat) (hw : Wk f n) : RO l yX0_sumOf cX0_sumOf 5 (some .int) 1 D cI cJ (PW cI o f) [.ref (o 0), .int (nI 2)] (.int (sSm f 2 n)) := by
  have h8 := hw.2.1
  refine RO.of (by decide) (Nat.le_of_ble_eq_true rfl) (fun p e s m below meth c ls S hr hlk hK hP hl => ?_)
  obtain ⟨hx, hb, hml, hown, hU⟩ := id S
  have hl : lv_has ls 5 [(0, .ref (o 0)), (1, .int (nI 2))] := hl
  refine lv_aload_n hx hb dX0_sumOf_0 rfl (lv_at hl 0 rfl) ?_
  refine lv_iload_n hx hb dX0_sumOf_1 rfl (lv_at hl 1 rfl) ?_
  refine RO.callV S kv_X0_61 (c_X0_marksOf_2 l D cI cJ o f) hK hP rfl ⟨Nat.le_of_ble_eq_true rfl, Nat.le_of_ble_eq_true rfl⟩ hl.1 rfl rfl (Nat.le_of_ble_eq_true rfl) (Nat.zero_le _) (Nat.zero_le _) dX0_sumOf_2 ?_
  refine lv_astore_n (lv' := [(2, .ref (o 5)), (0, .ref (o 0)), (1, .int (nI 2))]) hx hb dX0_sumOf_5 rfl hl (by decide) rfl (fun ls hl => ?_)
  refine lv_iconst (v := nI 0) hx hb dX0_sumOf_6 (by decide) ?_
  refine lv_istore_n (lv' := [(3, .int (nI 0)), (2, .ref (o 5)), (0, .ref (o 0)), (1, .int (nI 2))]) hx hb dX0_sumOf_7 rfl hl (by decide) rfl (fun ls hl => ?_)
  refine lv_iconst (v := nI 0) hx hb dX0_sumOf_8 (by decide) ?_
  refine lv_istore (lv' := [(4, .int (nI 0)), (3, .int (nI 0)), (2, .ref (o 5)), (0, .ref (o 0)), (1, .int (nI 2))]) hx hb dX0_sumOf_9 hl (by decide) rfl (fun ls hl => ?_)
  have L_11 : ∀ (n9 : Nat) (j : Nat) (ls : Array Slot), n - j < n9 → j ≤ n → lv_has ls 5 [(0, .ref (o 0)), (2, .ref (o 5)), (3, .int (sSm f 2 j)), (4, .int (nI j))] → W p l e (rmd 1) s m ([.ref (o 0), .int (nI 2)] : List Value).toArray below meth c s.heap [] 0 0 (ZR below ([.ref (o 0), .int (nI 2)] : List Value).toArray s (.int (sSm f 2 n))) (F0 m 11 ls []) := by
    intro n9
    induction n9 with
    | zero => intro j ls hm; exact absurd hm (Nat.not_lt_zero _)
    | succ n9 ih_11 =>
      intro j ls hm hj hl
      refine lv_iload hx hb dX0_sumOf_11 (lv_at hl 3 rfl) ?_
      refine lv_aload_n hx hb dX0_sumOf_13 rfl (lv_at hl 0 rfl) ?_
      refine g00_casks S hK hP dX0_sumOf_14 ?_
      refine q_eqi (y := nI n) (hw.1) ?_
      refine q_icmp_geN (tgt := 33) (a := j) (b := n) hx hb dX0_sumOf_17 (by decide) (by omega) (by omega) (fun c_17 => ?_) (fun c_17 => ?_)
      · refine lv_iload_n hx hb dX0_sumOf_33 rfl (lv_at hl 2 rfl) ?_
        exact RO.iret S hr hlk (congrArg Value.int (by rw [show j = n by omega])) dX0_sumOf_34
      · refine lv_iload_n hx hb dX0_sumOf_20 rfl (lv_at hl 2 rfl) ?_
        refine lv_aload_n hx hb dX0_sumOf_21 rfl (lv_at hl 1 rfl) ?_
        refine lv_iload hx hb dX0_sumOf_22 (lv_at hl 3 rfl) ?_
        refine l0_peal S hK hP (j := j) (by omega) dX0_sumOf_24 ?_
        refine lv_iadd hx hb dX0_sumOf_25 ?_
        refine lv_istore_n (lv' := [(3, .int ((sSm f 2 j) + (fi f j 2))), (0, .ref (o 0)), (2, .ref (o 5)), (4, .int (nI j))]) hx hb dX0_sumOf_26 rfl hl (by decide) rfl (fun ls hl => ?_)
        refine lv_iinc (v := nI (j + 1)) (lv' := [(4, .int (nI (j + 1))), (3, .int ((sSm f 2 j) + (fi f j 2))), (0, .ref (o 0)), (2, .ref (o 5))]) hx hb dX0_sumOf_27 hl (k := 3) rfl (q_inc _) (by decide) rfl (fun ls hl => ?_)
        refine lv_goto (tgt := 11) hx hb dX0_sumOf_30 (by decide) ?_
        exact ih_11 (j + 1) ls (by omega) (by omega) (by rw [show sSm f 2 (j + 1) = (sSm f 2 j) + (fi f j 2) from rfl]; exact lv_sub hl [2, 3, 1, 0] rfl)
  exact L_11 ((n - 0) + 1) 0 ls (Nat.lt_succ_self _) (Nat.zero_le n) (by rw [show sSm f 2 0 = nI 0 from rfl]; exact lv_sub hl [3, 2, 1, 0] rfl)
set_option maxRecDepth 100000 in
set_option maxHeartbeats 4000000 in
theorem c_X0_sumOf_6 (l : Launch) (D : va_G) (cI cJ : ClassId) (o : Nat → Nat) (f : Nat → Int32) (n : Nat) (hw : Wk f n) : RO l yX0_sumOf cX0_sumOf 5 (some .int) 1 D cI cJ (PW cI o f) [.ref (o 0), .int (nI 6)] (.int (sSm f 6 n)) := by
  have h8 := hw.2.1
  refine RO.of (by decide) (Nat.le_of_ble_eq_true rfl) (fun p e s m below meth c ls S hr hlk hK hP hl => ?_)
  obtain ⟨hx, hb, hml, hown, hU⟩ := id S
  have hl : lv_has ls 5 [(0, .ref (o 0)), (1, .int (nI 6))] := hl
  refine lv_aload_n hx hb dX0_sumOf_0 rfl (lv_at hl 0 rfl) ?_
  refine lv_iload_n hx hb dX0_sumOf_1 rfl (lv_at hl 1 rfl) ?_
  refine RO.callV S kv_X0_61 (c_X0_marksOf_6 l D cI cJ o f) hK hP rfl ⟨Nat.le_of_ble_eq_true rfl, Nat.le_of_ble_eq_true rfl⟩ hl.1 rfl rfl (Nat.le_of_ble_eq_true rfl) (Nat.zero_le _) (Nat.zero_le _) dX0_sumOf_2 ?_
  refine lv_astore_n (lv' := [(2, .ref (o 9)), (0, .ref (o 0)), (1, .int (nI 6))]) hx hb dX0_sumOf_5 rfl hl (by decide) rfl (fun ls hl => ?_)
  refine lv_iconst (v := nI 0) hx hb dX0_sumOf_6 (by decide) ?_
  refine lv_istore_n (lv' := [(3, .int (nI 0)), (2, .ref (o 9)), (0, .ref (o 0)), (1, .int (nI 6))]) hx hb dX0_sumOf_7 rfl hl (by decide) rfl (fun ls hl => ?_)
  refine lv_iconst (v := nI 0) hx hb dX0_sumOf_8 (by decide) ?_
  refine lv_istore (lv' := [(4, .int (nI 0)), (3, .int (nI 0)), (2, .ref (o 9)), (0, .ref (o 0)), (1, .int (nI 6))]) hx hb dX0_sumOf_9 hl (by decide) rfl (fun ls hl => ?_)
  have L_11 : ∀ (n9 : Nat) (j : Nat) (ls : Array Slot), n - j < n9 → j ≤ n → lv_has ls 5 [(0, .ref (o 0)), (2, .ref (o 9)), (3, .int (sSm f 6 j)), (4, .int (nI j))] → W p l e (rmd 1) s m ([.ref (o 0), .int (nI 6)] : List Value).toArray below meth c s.heap [] 0 0 (ZR below ([.ref (o 0), .int (nI 6)] : List Value).toArray s (.int (sSm f 6 n))) (F0 m 11 ls []) := by
    intro n9
    induction n9 with
    | zero => intro j ls hm; exact absurd hm (Nat.not_lt_zero _)
    | succ n9 ih_11 =>
      intro j ls hm hj hl
      refine lv_iload hx hb dX0_sumOf_11 (lv_at hl 3 rfl) ?_
      refine lv_aload_n hx hb dX0_sumOf_13 rfl (lv_at hl 0 rfl) ?_
      refine g00_casks S hK hP dX0_sumOf_14 ?_
      refine q_eqi (y := nI n) (hw.1) ?_
      refine q_icmp_geN (tgt := 33) (a := j) (b := n) hx hb dX0_sumOf_17 (by decide) (by omega) (by omega) (fun c_17 => ?_) (fun c_17 => ?_)
      · refine lv_iload_n hx hb dX0_sumOf_33 rfl (lv_at hl 2 rfl) ?_
        exact RO.iret S hr hlk (congrArg Value.int (by rw [show j = n by omega])) dX0_sumOf_34
      · refine lv_iload_n hx hb dX0_sumOf_20 rfl (lv_at hl 2 rfl) ?_
        refine lv_aload_n hx hb dX0_sumOf_21 rfl (lv_at hl 1 rfl) ?_
        refine lv_iload hx hb dX0_sumOf_22 (lv_at hl 3 rfl) ?_
        refine l0_burst S hK hP (j := j) (by omega) dX0_sumOf_24 ?_
        refine lv_iadd hx hb dX0_sumOf_25 ?_
        refine lv_istore_n (lv' := [(3, .int ((sSm f 6 j) + (fi f j 6))), (0, .ref (o 0)), (2, .ref (o 9)), (4, .int (nI j))]) hx hb dX0_sumOf_26 rfl hl (by decide) rfl (fun ls hl => ?_)
        refine lv_iinc (v := nI (j + 1)) (lv' := [(4, .int (nI (j + 1))), (3, .int ((sSm f 6 j) + (fi f j 6))), (0, .ref (o 0)), (2, .ref (o 9))]) hx hb dX0_sumOf_27 hl (k := 3) rfl (q_inc _) (by decide) rfl (fun ls hl => ?_)
        refine lv_goto (tgt := 11) hx hb dX0_sumOf_30 (by decide) ?_
        exact ih_11 (j + 1) ls (by omega) (by omega) (by rw [show sSm f 6 (j + 1) = (sSm f 6 j) + (fi f j 6) from rfl]; exact lv_sub hl [2, 3, 1, 0] rfl)
  exact L_11 ((n - 0) + 1) 0 ls (Nat.lt_succ_self _) (Nat.zero_le n) (by rw [show sSm f 6 0 = nI 0 from rfl]; exact lv_sub hl [3, 2, 1, 0] rfl)
set_option maxRecDepth 100000 in
set_option maxHeartbeats 4000000 in
theorem c_X0_blendOf (l : Launch) (D : va_G) (cI cJ : ClassId) (o : Nat → Nat) (f : Nat → Int32) (q : Nat) (n : Nat) (hw : Wk f n) (hq : q < 2147483648) : RO l yX0_blendOf cX0_blendOf 4 (some .int) 3 D cI cJ (PW cI o f) [.ref (o 0), .int (nI q)] (.int (sBn f n q n)) := by
  have h8 := hw.2.1
  refine RO.of (by decide) (Nat.le_of_ble_eq_true rfl) (fun p e s m below meth c ls S hr hlk hK hP hl => ?_)
  obtain ⟨hx, hb, hml, hown, hU⟩ := id S
  have hl : lv_has ls 4 [(0, .ref (o 0)), (1, .int (nI q))] := hl
  refine lv_iconst (v := nI 0) hx hb dX0_blendOf_0 (by decide) ?_
  refine lv_istore_n (lv' := [(2, .int (nI 0)), (0, .ref (o 0)), (1, .int (nI q))]) hx hb dX0_blendOf_1 rfl hl (by decide) rfl (fun ls hl => ?_)
  refine lv_iconst (v := nI 0) hx hb dX0_blendOf_2 (by decide) ?_
  refine lv_istore_n (lv' := [(3, .int (nI 0)), (2, .int (nI 0)), (0, .ref (o 0)), (1, .int (nI q))]) hx hb dX0_blendOf_3 rfl hl (by decide) rfl (fun ls hl => ?_)
  have L_4 : ∀ (n9 : Nat) (j : Nat) (ls : Array Slot), n - j < n9 → j ≤ n → lv_has ls 4 [(0, .ref (o 0)), (1, .int (nI q)), (2, .int (sBn f n q j)), (3, .int (nI j))] → W p l e (rmd 3) s m ([.ref (o 0), .int (nI q)] : List Value).toArray below meth c s.heap [] 0 0 (ZR below ([.ref (o 0), .int (nI q)] : List Value).toArray s (.int (sBn f n q n))) (F0 m 4 ls []) := by
    intro n9
    induction n9 with
    | zero => intro j ls hm; exact absurd hm (Nat.not_lt_zero _)
    | succ n9 ih_4 =>
      intro j ls hm hj hl
      have hdv : q / 2 ^ j < 2147483648 := Nat.lt_of_le_of_lt (Nat.div_le_self _ _) hq
      refine lv_iload_n hx hb dX0_blendOf_4 rfl (lv_at hl 3 rfl) ?_
      refine lv_aload_n hx hb dX0_blendOf_5 rfl (lv_at hl 0 rfl) ?_
      refine g00_casks S hK hP dX0_blendOf_6 ?_
      refine q_eqi (y := nI n) (hw.1) ?_
      refine q_icmp_geN (tgt := 34) (a := j) (b := n) hx hb dX0_blendOf_9 (by decide) (by omega) (by omega) (fun c_9 => ?_) (fun c_9 => ?_)
      · refine lv_iload_n hx hb dX0_blendOf_34 rfl (lv_at hl 2 rfl) ?_
        exact RO.iret S hr hlk (congrArg Value.int (by rw [show j = n by omega])) dX0_blendOf_35
      · refine lv_iload_n hx hb dX0_blendOf_12 rfl (lv_at hl 1 rfl) ?_
        refine lv_iload_n hx hb dX0_blendOf_13 rfl (lv_at hl 3 rfl) ?_
        refine lv_ishr hx hb dX0_blendOf_14 ?_
        refine q_eqi (y := nI (q / 2 ^ j)) (nI_shr hq (by omega)) ?_
        refine lv_iconst (v := nI 1) hx hb dX0_blendOf_15 (by decide) ?_
        refine lv_iand hx hb dX0_blendOf_16 ?_
        refine q_eqi (y := nI (q / 2 ^ j % 2)) (nI_and1 hdv) ?_
        refine q_if_eqN (tgt := 28) (a := q / 2 ^ j % 2) hx hb dX0_blendOf_17 (by decide) (by omega) (fun c_17 => ?_) (fun c_17 => ?_)
        · refine lv_iinc (v := nI (j + 1)) (lv' := [(3, .int (nI (j + 1))), (0, .ref (o 0)), (1, .int (nI q)), (2, .int (sBn f n q j))]) hx hb dX0_blendOf_28 hl (k := 3) rfl (q_inc _) (by decide) rfl (fun ls hl => ?_)
          refine lv_goto (tgt := 4) hx hb dX0_blendOf_31 (by decide) ?_
          exact ih_4 (j + 1) ls (by omega) (by omega) (by rw [show sBn f n q (j + 1) = sBn f n q j from by rw [sBn, if_neg (by omega)]]; exact lv_sub hl [1, 2, 3, 0] rfl)
        · refine lv_iload_n hx hb dX0_blendOf_20 rfl (lv_at hl 2 rfl) ?_
          refine lv_aload_n hx hb dX0_blendOf_21 rfl (lv_at hl 0 rfl) ?_
          refine lv_iload_n hx hb dX0_blendOf_22 rfl (lv_at hl 3 rfl) ?_
          refine RO.callV S kv_X0_86 (c_X0_loudOf l D cI cJ o f j n (hw) (by omega)) hK hP rfl ⟨Nat.le_of_ble_eq_true rfl, Nat.le_of_ble_eq_true rfl⟩ hl.1 rfl rfl (Nat.le_of_ble_eq_true rfl) (Nat.zero_le _) (Nat.zero_le _) dX0_blendOf_23 ?_
          refine lv_iadd hx hb dX0_blendOf_26 ?_
          refine lv_istore_n (lv' := [(2, .int ((sBn f n q j) + (sLd f n j))), (0, .ref (o 0)), (1, .int (nI q)), (3, .int (nI j))]) hx hb dX0_blendOf_27 rfl hl (by decide) rfl (fun ls hl => ?_)
          refine lv_iinc (v := nI (j + 1)) (lv' := [(3, .int (nI (j + 1))), (2, .int ((sBn f n q j) + (sLd f n j))), (0, .ref (o 0)), (1, .int (nI q))]) hx hb dX0_blendOf_28 hl (k := 3) rfl (q_inc _) (by decide) rfl (fun ls hl => ?_)
          refine lv_goto (tgt := 4) hx hb dX0_blendOf_31 (by decide) ?_
          exact ih_4 (j + 1) ls (by omega) (by omega) (by rw [show sBn f n q (j + 1) = (sBn f n q j) + (sLd f n j) from by rw [sBn, if_pos (by omega)]]; exact lv_sub hl [2, 3, 1, 0] rfl)
  exact L_4 ((n - 0) + 1) 0 ls (Nat.lt_succ_self _) (Nat.zero_le n) (by rw [show sBn f n q 0 = nI 0 from rfl]; exact lv_sub hl [2, 3, 1, 0] rfl)
set_option maxRecDepth 100000 in
set_option maxHeartbeats 4000000 in
theorem c_X0_setTooLoud (l : Launch) (D : va_G) (cI cJ : ClassId) (o : Nat → Nat) (f : Nat → Int32) (n : Nat) (hw : Wk f n) : RO l yX0_setTooLoud cX0_setTooLoud 3 (some .int) 3 D cI cJ (PW cI o f) [.ref (o 0)] (.int (nI (sSt f n n))) := by
  have h8 := hw.2.1
  refine RO.of (by decide) (Nat.le_of_ble_eq_true rfl) (fun p e s m below meth c ls S hr hlk hK hP hl => ?_)
  obtain ⟨hx, hb, hml, hown, hU⟩ := id S
  have hl : lv_has ls 3 [(0, .ref (o 0))] := hl
  refine lv_iconst (v := nI 0) hx hb dX0_setTooLoud_0 (by decide) ?_
  refine lv_istore_n (lv' := [(1, .int (nI 0)), (0, .ref (o 0))]) hx hb dX0_setTooLoud_1 rfl hl (by decide) rfl (fun ls hl => ?_)
  refine lv_iconst (v := nI 0) hx hb dX0_setTooLoud_2 (by decide) ?_
  refine lv_istore_n (lv' := [(2, .int (nI 0)), (1, .int (nI 0)), (0, .ref (o 0))]) hx hb dX0_setTooLoud_3 rfl hl (by decide) rfl (fun ls hl => ?_)
  have L_4 : ∀ (n9 : Nat) (j : Nat) (ls : Array Slot), n - j < n9 → j ≤ n → lv_has ls 3 [(0, .ref (o 0)), (1, .int (nI (sSt f n j))), (2, .int (nI j))] → W p l e (rmd 3) s m ([.ref (o 0)] : List Value).toArray below meth c s.heap [] 0 0 (ZR below ([.ref (o 0)] : List Value).toArray s (.int (nI (sSt f n n)))) (F0 m 4 ls []) := by
    intro n9
    induction n9 with
    | zero => intro j ls hm; exact absurd hm (Nat.not_lt_zero _)
    | succ n9 ih_4 =>
      intro j ls hm hj hl
      have lt := sSt_lt (f := f) (n := n) (j := j) (by omega)
      have l31 : sSt f n j < 2147483648 := Nat.lt_of_lt_of_le lt (Nat.le_trans (Nat.pow_le_pow_right (n := 2) (by decide) (show j ≤ 8 by omega)) (by decide))
      have p31 : 2 ^ j < 2147483648 := Nat.lt_of_le_of_lt (Nat.pow_le_pow_right (n := 2) (by decide) (show j ≤ 8 by omega)) (by decide)
      refine lv_iload_n hx hb dX0_setTooLoud_4 rfl (lv_at hl 2 rfl) ?_
      refine lv_aload_n hx hb dX0_setTooLoud_5 rfl (lv_at hl 0 rfl) ?_
      refine g00_casks S hK hP dX0_setTooLoud_6 ?_
      refine q_eqi (y := nI n) (hw.1) ?_
      refine q_icmp_geN (tgt := 37) (a := j) (b := n) hx hb dX0_setTooLoud_9 (by decide) (by omega) (by omega) (fun c_9 => ?_) (fun c_9 => ?_)
      · refine lv_iload_n hx hb dX0_setTooLoud_37 rfl (lv_at hl 1 rfl) ?_
        exact RO.iret S hr hlk (congrArg Value.int (by rw [show j = n by omega])) dX0_setTooLoud_38
      · refine lv_aload_n hx hb dX0_setTooLoud_12 rfl (lv_at hl 0 rfl) ?_
        refine lv_iload_n hx hb dX0_setTooLoud_13 rfl (lv_at hl 2 rfl) ?_
        refine RO.callV S kv_X0_86 (c_X0_loudOf l D cI cJ o f j n (hw) (by omega)) hK hP rfl ⟨Nat.le_of_ble_eq_true rfl, Nat.le_of_ble_eq_true rfl⟩ hl.1 rfl rfl (Nat.le_of_ble_eq_true rfl) (Nat.zero_le _) (Nat.zero_le _) dX0_setTooLoud_14 ?_
        refine lv_aload_n hx hb dX0_setTooLoud_17 rfl (lv_at hl 0 rfl) ?_
        refine lv_iload_n hx hb dX0_setTooLoud_18 rfl (lv_at hl 2 rfl) ?_
        refine RO.callV S kv_X0_89 (c_X0_bearsOf l D cI cJ o f j n (hw) (by omega)) hK hP rfl ⟨Nat.le_of_ble_eq_true rfl, Nat.le_of_ble_eq_true rfl⟩ hl.1 rfl rfl (Nat.le_of_ble_eq_true rfl) (Nat.zero_le _) (Nat.zero_le _) dX0_setTooLoud_19 ?_
        refine lv_icmp_le (tgt := 31) hx hb dX0_setTooLoud_22 (by decide) (fun c_22 => ?_) (fun c_22 => ?_)
        · refine lv_iinc (v := nI (j + 1)) (lv' := [(2, .int (nI (j + 1))), (0, .ref (o 0)), (1, .int (nI (sSt f n j)))]) hx hb dX0_setTooLoud_31 hl (k := 2) rfl (q_inc _) (by decide) rfl (fun ls hl => ?_)
          refine lv_goto (tgt := 4) hx hb dX0_setTooLoud_34 (by decide) ?_
          exact ih_4 (j + 1) ls (by omega) (by omega) (by rw [show nI (sSt f n (j + 1)) = nI (sSt f n j) from by rw [sSt, if_neg (i32_not_lt_of_le c_22)]]; exact lv_sub hl [1, 2, 0] rfl)
        · refine lv_iload_n hx hb dX0_setTooLoud_25 rfl (lv_at hl 1 rfl) ?_
          refine lv_iconst (v := nI 1) hx hb dX0_setTooLoud_26 (by decide) ?_
          refine lv_iload_n hx hb dX0_setTooLoud_27 rfl (lv_at hl 2 rfl) ?_
          refine lv_ishl hx hb dX0_setTooLoud_28 ?_
          refine q_eqi (y := nI (2 ^ j)) (nI_shl1 _ (by omega)) ?_
          refine lv_ior hx hb dX0_setTooLoud_29 ?_
          refine q_eqi (y := nI (sSt f n j ||| 2 ^ j)) (nI_or l31 p31) ?_
          refine lv_istore_n (lv' := [(1, .int (nI (sSt f n j ||| 2 ^ j))), (0, .ref (o 0)), (2, .int (nI j))]) hx hb dX0_setTooLoud_30 rfl hl (by decide) rfl (fun ls hl => ?_)
          refine lv_iinc (v := nI (j + 1)) (lv' := [(2, .int (nI (j + 1))), (1, .int (nI (sSt f n j ||| 2 ^ j))), (0, .ref (o 0))]) hx hb dX0_setTooLoud_31 hl (k := 2) rfl (q_inc _) (by decide) rfl (fun ls hl => ?_)
          refine lv_goto (tgt := 4) hx hb dX0_setTooLoud_34 (by decide) ?_
          exact ih_4 (j + 1) ls (by omega) (by omega) (by rw [show nI (sSt f n (j + 1)) = nI (sSt f n j ||| 2 ^ j) from by rw [sSt, if_pos (i32_lt_of_not_le c_22)]]; exact lv_sub hl [2, 1, 0] rfl)
  exact L_4 ((n - 0) + 1) 0 ls (Nat.lt_succ_self _) (Nat.zero_le n) (lv_sub hl [2, 1, 0] rfl)
set_option maxRecDepth 100000 in
set_option maxHeartbeats 4000000 in
theorem c_X0_setOfCellars (l : Launch) (D : va_G) (cI cJ : ClassId) (o : Nat → Nat) (f : Nat → Int32) (n : Nat) (hw : Wk f n) : RO l yX0_setOfCellars cX0_setOfCellars 3 (some .int) 0 D cI cJ (PW cI o f) [.ref (o 0)] (.int (nI (sUs f n))) := by
  have h8 := hw.2.1
  refine RO.of (by decide) (Nat.le_of_ble_eq_true rfl) (fun p e s m below meth c ls S hr hlk hK hP hl => ?_)
  obtain ⟨hx, hb, hml, hown, hU⟩ := id S
  have hl : lv_has ls 3 [(0, .ref (o 0))] := hl
  refine lv_iconst (v := nI 0) hx hb dX0_setOfCellars_0 (by decide) ?_
  refine lv_istore_n (lv' := [(1, .int (nI 0)), (0, .ref (o 0))]) hx hb dX0_setOfCellars_1 rfl hl (by decide) rfl (fun ls hl => ?_)
  refine lv_iconst (v := nI 0) hx hb dX0_setOfCellars_2 (by decide) ?_
  refine lv_istore_n (lv' := [(2, .int (nI 0)), (1, .int (nI 0)), (0, .ref (o 0))]) hx hb dX0_setOfCellars_3 rfl hl (by decide) rfl (fun ls hl => ?_)
  have L_4 : ∀ (n9 : Nat) (j : Nat) (ls : Array Slot), n - j < n9 → j ≤ n → lv_has ls 3 [(0, .ref (o 0)), (1, .int (nI (sUs f j))), (2, .int (nI j))] → W p l e (rmd 0) s m ([.ref (o 0)] : List Value).toArray below meth c s.heap [] 0 0 (ZR below ([.ref (o 0)] : List Value).toArray s (.int (nI (sUs f n)))) (F0 m 4 ls []) := by
    intro n9
    induction n9 with
    | zero => intro j ls hm; exact absurd hm (Nat.not_lt_zero _)
    | succ n9 ih_4 =>
      intro j ls hm hj hl
      refine lv_iload_n hx hb dX0_setOfCellars_4 rfl (lv_at hl 2 rfl) ?_
      refine lv_aload_n hx hb dX0_setOfCellars_5 rfl (lv_at hl 0 rfl) ?_
      refine g00_casks S hK hP dX0_setOfCellars_6 ?_
      refine q_eqi (y := nI n) (hw.1) ?_
      refine q_icmp_geN (tgt := 29) (a := j) (b := n) hx hb dX0_setOfCellars_9 (by decide) (by omega) (by omega) (fun c_9 => ?_) (fun c_9 => ?_)
      · refine lv_iload_n hx hb dX0_setOfCellars_29 rfl (lv_at hl 1 rfl) ?_
        exact RO.iret S hr hlk (congrArg Value.int (by rw [show j = n by omega])) dX0_setOfCellars_30
      · obtain ⟨h, h6, hh⟩ := hw.2.2 j (by omega)
        have hu := sUs_lt hw hj
        have hp2 : 2 ^ h < 64 := Nat.pow_lt_pow_right (n := 6) (by decide) h6
        refine lv_iload_n hx hb dX0_setOfCellars_12 rfl (lv_at hl 1 rfl) ?_
        refine lv_iconst (v := nI 1) hx hb dX0_setOfCellars_13 (by decide) ?_
        refine lv_aload_n hx hb dX0_setOfCellars_14 rfl (lv_at hl 0 rfl) ?_
        refine g00_home S hK hP dX0_setOfCellars_15 ?_
        refine lv_iload_n hx hb dX0_setOfCellars_18 rfl (lv_at hl 2 rfl) ?_
        refine l0_home S hK hP (j := j) (by omega) dX0_setOfCellars_19 ?_
        refine q_eqi (y := nI h) (hh) ?_
        refine lv_ishl hx hb dX0_setOfCellars_20 ?_
        refine q_eqi (y := nI (2 ^ h)) (nI_shl1 _ (by omega)) ?_
        refine lv_ior hx hb dX0_setOfCellars_21 ?_
        refine q_eqi (y := nI (sUs f j ||| 2 ^ h)) (nI_or (by omega) (by omega)) ?_
        refine lv_istore_n (lv' := [(1, .int (nI (sUs f j ||| 2 ^ h))), (0, .ref (o 0)), (2, .int (nI j))]) hx hb dX0_setOfCellars_22 rfl hl (by decide) rfl (fun ls hl => ?_)
        refine lv_iinc (v := nI (j + 1)) (lv' := [(2, .int (nI (j + 1))), (1, .int (nI (sUs f j ||| 2 ^ h))), (0, .ref (o 0))]) hx hb dX0_setOfCellars_23 hl (k := 2) rfl (q_inc _) (by decide) rfl (fun ls hl => ?_)
        refine lv_goto (tgt := 4) hx hb dX0_setOfCellars_26 (by decide) ?_
        exact ih_4 (j + 1) ls (by omega) (by omega) (by rw [show nI (sUs f (j + 1)) = nI (sUs f j ||| 2 ^ h) from by show nI (sUs f j ||| 2 ^ (fi f j 1).toNatClampNeg) = _; rw [hh, nI_clamp (by omega)]]; exact lv_sub hl [2, 1, 0] rfl)
  exact L_4 ((n - 0) + 1) 0 ls (Nat.lt_succ_self _) (Nat.zero_le n) (lv_sub hl [2, 1, 0] rfl)
set_option maxRecDepth 100000 in
set_option maxHeartbeats 4000000 in
theorem c_X0_spotsHeld (l : Launch) (D : va_G) (cI cJ : ClassId) (o : Nat → Nat) (f : Nat → Int32) : RO l yX0_spotsHeld cX0_spotsHeld 3 (some .int) 0 D cI cJ (PW cI o f) [.ref (o 0)] (.int (nI (sSp f 10))) := by
  refine RO.of (by decide) (Nat.le_of_ble_eq_true rfl) (fun p e s m below meth c ls S hr hlk hK hP hl => ?_)
  obtain ⟨hx, hb, hml, hown, hU⟩ := id S
  have hl : lv_has ls 3 [(0, .ref (o 0))] := hl
  refine lv_iconst (v := nI 0) hx hb dX0_spotsHeld_0 (by decide) ?_
  refine lv_istore_n (lv' := [(1, .int (nI 0)), (0, .ref (o 0))]) hx hb dX0_spotsHeld_1 rfl hl (by decide) rfl (fun ls hl => ?_)
  refine lv_iconst (v := nI 0) hx hb dX0_spotsHeld_2 (by decide) ?_
  refine lv_istore_n (lv' := [(2, .int (nI 0)), (1, .int (nI 0)), (0, .ref (o 0))]) hx hb dX0_spotsHeld_3 rfl hl (by decide) rfl (fun ls hl => ?_)
  have L_4 : ∀ (n9 : Nat) (j : Nat) (ls : Array Slot), 10 - j < n9 → j ≤ 10 → lv_has ls 3 [(0, .ref (o 0)), (1, .int (nI (sSp f j))), (2, .int (nI j))] → W p l e (rmd 0) s m ([.ref (o 0)] : List Value).toArray below meth c s.heap [] 0 0 (ZR below ([.ref (o 0)] : List Value).toArray s (.int (nI (sSp f 10)))) (F0 m 4 ls []) := by
    intro n9
    induction n9 with
    | zero => intro j ls hm; exact absurd hm (Nat.not_lt_zero _)
    | succ n9 ih_4 =>
      intro j ls hm hj hl
      refine lv_iload_n hx hb dX0_spotsHeld_4 rfl (lv_at hl 2 rfl) ?_
      refine lv_bipush (v := nI 10) hx hb dX0_spotsHeld_5 (by decide) ?_
      refine q_icmp_geN (tgt := 28) (a := j) (b := 10) hx hb dX0_spotsHeld_7 (by decide) (by omega) (by omega) (fun c_7 => ?_) (fun c_7 => ?_)
      · refine lv_iload_n hx hb dX0_spotsHeld_28 rfl (lv_at hl 1 rfl) ?_
        exact RO.iret S hr hlk (congrArg Value.int (by rw [show j = 10 by omega])) dX0_spotsHeld_29
      · refine lv_aload_n hx hb dX0_spotsHeld_10 rfl (lv_at hl 0 rfl) ?_
        refine g00_spots S hK hP dX0_spotsHeld_11 ?_
        refine lv_iload_n hx hb dX0_spotsHeld_14 rfl (lv_at hl 2 rfl) ?_
        refine l0_spots S hK hP (j := j) (by omega) dX0_spotsHeld_15 ?_
        refine lv_if_lt (tgt := 22) hx hb dX0_spotsHeld_16 (by decide) (fun c_16 => ?_) (fun c_16 => ?_)
        · refine lv_iinc (v := nI (j + 1)) (lv' := [(2, .int (nI (j + 1))), (0, .ref (o 0)), (1, .int (nI (sSp f j)))]) hx hb dX0_spotsHeld_22 hl (k := 2) rfl (q_inc _) (by decide) rfl (fun ls hl => ?_)
          refine lv_goto (tgt := 4) hx hb dX0_spotsHeld_25 (by decide) ?_
          exact ih_4 (j + 1) ls (by omega) (by omega) (by rw [show nI (sSp f (j + 1)) = nI (sSp f j) from by rw [sSp, if_pos c_16]]; exact lv_sub hl [1, 2, 0] rfl)
        · refine lv_iinc (v := nI (sSp f j + 1)) (lv' := [(1, .int (nI (sSp f j + 1))), (0, .ref (o 0)), (2, .int (nI j))]) hx hb dX0_spotsHeld_19 hl (k := 1) rfl (q_inc _) (by decide) rfl (fun ls hl => ?_)
          refine lv_iinc (v := nI (j + 1)) (lv' := [(2, .int (nI (j + 1))), (1, .int (nI (sSp f j + 1))), (0, .ref (o 0))]) hx hb dX0_spotsHeld_22 hl (k := 2) rfl (q_inc _) (by decide) rfl (fun ls hl => ?_)
          refine lv_goto (tgt := 4) hx hb dX0_spotsHeld_25 (by decide) ?_
          exact ih_4 (j + 1) ls (by omega) (by omega) (by rw [show nI (sSp f (j + 1)) = nI (sSp f j + 1) from by rw [sSp, if_neg c_16]]; exact lv_sub hl [2, 1, 0] rfl)
  exact L_4 ((10 - 0) + 1) 0 ls (Nat.lt_succ_self _) (Nat.zero_le 10) (lv_sub hl [2, 1, 0] rfl)
set_option maxRecDepth 100000 in
set_option maxHeartbeats 4000000 in
theorem c_X0_loudestCask (l : Launch) (D : va_G) (cI cJ : ClassId) (o : Nat → Nat) (f : Nat → Int32) (n : Nat) (hw : Wk f n) (hp : Pk f n) (ha : Ak f n) : RO l yX0_loudestCask cX0_loudestCask 5 (some .int) 3 D cI cJ (PW cI o f) [.ref (o 0)] (.int (oI (sLo f n n))) := by
  have h8 := hw.2.1
  refine RO.of (by decide) (Nat.le_of_ble_eq_true rfl) (fun p e s m below meth c ls S hr hlk hK hP hl => ?_)
  obtain ⟨hx, hb, hml, hown, hU⟩ := id S
  have hl : lv_has ls 5 [(0, .ref (o 0))] := hl
  refine lv_iconst (v := (-1)) hx hb dX0_loudestCask_0 (by decide) ?_
  refine lv_istore_n (lv' := [(1, .int (-1)), (0, .ref (o 0))]) hx hb dX0_loudestCask_1 rfl hl (by decide) rfl (fun ls hl => ?_)
  refine lv_iconst (v := (-1)) hx hb dX0_loudestCask_2 (by decide) ?_
  refine lv_istore_n (lv' := [(2, .int (-1)), (1, .int (-1)), (0, .ref (o 0))]) hx hb dX0_loudestCask_3 rfl hl (by decide) rfl (fun ls hl => ?_)
  refine lv_iconst (v := nI 0) hx hb dX0_loudestCask_4 (by decide) ?_
  refine lv_istore_n (lv' := [(3, .int (nI 0)), (2, .int (-1)), (1, .int (-1)), (0, .ref (o 0))]) hx hb dX0_loudestCask_5 rfl hl (by decide) rfl (fun ls hl => ?_)
  have L_6 : ∀ (n9 : Nat) (j : Nat) (ls : Array Slot), n - j < n9 → j ≤ n → lv_has ls 5 [(0, .ref (o 0)), (1, .int (oI (sLo f n j))), (2, .int (lLo f n j)), (3, .int (nI j))] → W p l e (rmd 3) s m ([.ref (o 0)] : List Value).toArray below meth c s.heap [] 0 0 (ZR below ([.ref (o 0)] : List Value).toArray s (.int (oI (sLo f n n)))) (F0 m 6 ls []) := by
    intro n9
    induction n9 with
    | zero => intro j ls hm; exact absurd hm (Nat.not_lt_zero _)
    | succ n9 ih_6 =>
      intro j ls hm hj hl
      cases hE : sLo f n j with
      | none =>
        have hl : lv_has ls 5 [(0, .ref (o 0)), (1, .int (-1)), (2, .int (-1)), (3, .int (nI j))] := by unfold lLo at hl; rw [hE] at hl; exact hl
        refine lv_iload_n hx hb dX0_loudestCask_6 rfl (lv_at hl 3 rfl) ?_
        refine lv_aload_n hx hb dX0_loudestCask_7 rfl (lv_at hl 0 rfl) ?_
        refine g00_casks S hK hP dX0_loudestCask_8 ?_
        refine q_eqi (y := nI n) (hw.1) ?_
        refine q_icmp_geN (tgt := 38) (a := j) (b := n) hx hb dX0_loudestCask_11 (by decide) (by omega) (by omega) (fun c_11 => ?_) (fun c_11 => ?_)
        · refine lv_iload_n hx hb dX0_loudestCask_38 rfl (lv_at hl 1 rfl) ?_
          exact RO.iret S hr hlk (congrArg Value.int (by rw [show j = n by omega] at hE; rw [hE]; rfl)) dX0_loudestCask_39
        · refine lv_aload_n hx hb dX0_loudestCask_14 rfl (lv_at hl 0 rfl) ?_
          refine lv_iload_n hx hb dX0_loudestCask_15 rfl (lv_at hl 3 rfl) ?_
          refine RO.callV S kv_X0_86 (c_X0_loudOf l D cI cJ o f j n (hw) (by omega)) hK hP rfl ⟨Nat.le_of_ble_eq_true rfl, Nat.le_of_ble_eq_true rfl⟩ hl.1 rfl rfl (Nat.le_of_ble_eq_true rfl) (Nat.zero_le _) (Nat.zero_le _) dX0_loudestCask_16 ?_
          refine lv_istore (lv' := [(4, .int (sLd f n j)), (0, .ref (o 0)), (1, .int (-1)), (2, .int (-1)), (3, .int (nI j))]) hx hb dX0_loudestCask_19 hl (by decide) rfl (fun ls hl => ?_)
          refine lv_iload hx hb dX0_loudestCask_21 (lv_at hl 0 rfl) ?_
          refine lv_iload_n hx hb dX0_loudestCask_23 rfl (lv_at hl 3 rfl) ?_
          refine lv_icmp_le (tgt := 32) hx hb dX0_loudestCask_24 (by decide) (fun c_24 => ?_) (fun c_24 => ?_)
          · exact absurd c_24 (i32_not_le_of_lt (ld_pos hw hp ha (by omega)))
          · refine lv_iload_n hx hb dX0_loudestCask_27 rfl (lv_at hl 4 rfl) ?_
            refine lv_istore_n (lv' := [(1, .int (nI j)), (4, .int (sLd f n j)), (0, .ref (o 0)), (2, .int (-1)), (3, .int (nI j))]) hx hb dX0_loudestCask_28 rfl hl (by decide) rfl (fun ls hl => ?_)
            refine lv_iload hx hb dX0_loudestCask_29 (lv_at hl 1 rfl) ?_
            refine lv_istore_n (lv' := [(2, .int (sLd f n j)), (1, .int (nI j)), (4, .int (sLd f n j)), (0, .ref (o 0)), (3, .int (nI j))]) hx hb dX0_loudestCask_31 rfl hl (by decide) rfl (fun ls hl => ?_)
            refine lv_iinc (v := nI (j + 1)) (lv' := [(3, .int (nI (j + 1))), (2, .int (sLd f n j)), (1, .int (nI j)), (4, .int (sLd f n j)), (0, .ref (o 0))]) hx hb dX0_loudestCask_32 hl (k := 4) rfl (q_inc _) (by decide) rfl (fun ls hl => ?_)
            refine lv_goto (tgt := 6) hx hb dX0_loudestCask_35 (by decide) ?_
            exact ih_6 (j + 1) ls (by omega) (by omega) (by rw [show oI (sLo f n (j + 1)) = nI j from by rw [sLo_n hE]; rfl, show lLo f n (j + 1) = sLd f n j from by unfold lLo; rw [sLo_n hE]]; exact lv_sub hl [4, 2, 1, 0] rfl)
      | some b =>
        have hl : lv_has ls 5 [(0, .ref (o 0)), (1, .int (nI b)), (2, .int (sLd f n b)), (3, .int (nI j))] := by unfold lLo at hl; rw [hE] at hl; exact hl
        have hbj := sLo_lt hE
        refine lv_iload_n hx hb dX0_loudestCask_6 rfl (lv_at hl 3 rfl) ?_
        refine lv_aload_n hx hb dX0_loudestCask_7 rfl (lv_at hl 0 rfl) ?_
        refine g00_casks S hK hP dX0_loudestCask_8 ?_
        refine q_eqi (y := nI n) (hw.1) ?_
        refine q_icmp_geN (tgt := 38) (a := j) (b := n) hx hb dX0_loudestCask_11 (by decide) (by omega) (by omega) (fun c_11 => ?_) (fun c_11 => ?_)
        · refine lv_iload_n hx hb dX0_loudestCask_38 rfl (lv_at hl 1 rfl) ?_
          exact RO.iret S hr hlk (congrArg Value.int (by rw [show j = n by omega] at hE; rw [hE]; rfl)) dX0_loudestCask_39
        · refine lv_aload_n hx hb dX0_loudestCask_14 rfl (lv_at hl 0 rfl) ?_
          refine lv_iload_n hx hb dX0_loudestCask_15 rfl (lv_at hl 3 rfl) ?_
          refine RO.callV S kv_X0_86 (c_X0_loudOf l D cI cJ o f j n (hw) (by omega)) hK hP rfl ⟨Nat.le_of_ble_eq_true rfl, Nat.le_of_ble_eq_true rfl⟩ hl.1 rfl rfl (Nat.le_of_ble_eq_true rfl) (Nat.zero_le _) (Nat.zero_le _) dX0_loudestCask_16 ?_
          refine lv_istore (lv' := [(4, .int (sLd f n j)), (0, .ref (o 0)), (1, .int (nI b)), (2, .int (sLd f n b)), (3, .int (nI j))]) hx hb dX0_loudestCask_19 hl (by decide) rfl (fun ls hl => ?_)
          refine lv_iload hx hb dX0_loudestCask_21 (lv_at hl 0 rfl) ?_
          refine lv_iload_n hx hb dX0_loudestCask_23 rfl (lv_at hl 3 rfl) ?_
          refine lv_icmp_le (tgt := 32) hx hb dX0_loudestCask_24 (by decide) (fun c_24 => ?_) (fun c_24 => ?_)
          · refine lv_iinc (v := nI (j + 1)) (lv' := [(3, .int (nI (j + 1))), (4, .int (sLd f n j)), (0, .ref (o 0)), (1, .int (nI b)), (2, .int (sLd f n b))]) hx hb dX0_loudestCask_32 hl (k := 4) rfl (q_inc _) (by decide) rfl (fun ls hl => ?_)
            refine lv_goto (tgt := 6) hx hb dX0_loudestCask_35 (by decide) ?_
            exact ih_6 (j + 1) ls (by omega) (by omega) (by rw [show oI (sLo f n (j + 1)) = nI b from by rw [sLo_0 hE (i32_not_lt_of_le c_24)]; rfl, show lLo f n (j + 1) = sLd f n b from by unfold lLo; rw [sLo_0 hE (i32_not_lt_of_le c_24)]]; exact lv_sub hl [2, 3, 4, 0] rfl)
          · refine lv_iload_n hx hb dX0_loudestCask_27 rfl (lv_at hl 4 rfl) ?_
            refine lv_istore_n (lv' := [(1, .int (nI j)), (4, .int (sLd f n j)), (0, .ref (o 0)), (2, .int (sLd f n b)), (3, .int (nI j))]) hx hb dX0_loudestCask_28 rfl hl (by decide) rfl (fun ls hl => ?_)
            refine lv_iload hx hb dX0_loudestCask_29 (lv_at hl 1 rfl) ?_
            refine lv_istore_n (lv' := [(2, .int (sLd f n j)), (1, .int (nI j)), (4, .int (sLd f n j)), (0, .ref (o 0)), (3, .int (nI j))]) hx hb dX0_loudestCask_31 rfl hl (by decide) rfl (fun ls hl => ?_)
            refine lv_iinc (v := nI (j + 1)) (lv' := [(3, .int (nI (j + 1))), (2, .int (sLd f n j)), (1, .int (nI j)), (4, .int (sLd f n j)), (0, .ref (o 0))]) hx hb dX0_loudestCask_32 hl (k := 4) rfl (q_inc _) (by decide) rfl (fun ls hl => ?_)
            refine lv_goto (tgt := 6) hx hb dX0_loudestCask_35 (by decide) ?_
            exact ih_6 (j + 1) ls (by omega) (by omega) (by rw [show oI (sLo f n (j + 1)) = nI j from by rw [sLo_1 hE (i32_lt_of_not_le c_24)]; rfl, show lLo f n (j + 1) = sLd f n j from by unfold lLo; rw [sLo_1 hE (i32_lt_of_not_le c_24)]]; exact lv_sub hl [4, 2, 1, 0] rfl)
  exact L_6 ((n - 0) + 1) 0 ls (Nat.lt_succ_self _) (Nat.zero_le n) (by rw [show oI (sLo f n 0) = (-1) from rfl, show lLo f n 0 = (-1) from rfl]; exact lv_sub hl [3, 2, 1, 0] rfl)
set_option maxRecDepth 100000 in
set_option maxHeartbeats 4000000 in
theorem c_X0_marksG_0 (l : Launch) (D : va_G) (cI cJ : ClassId) (o : Nat → Nat) (r : Nat → Nat → Int32) (i : Nat → Int32) : RO l yX0_marksOf cX0_marksOf 2 (some (.array .int)) 0 D cI cJ (PG cI o r i) [.ref (o 0), .int (nI 0)] (.ref (o 3)) := by
  refine RO.of (by decide) (Nat.le_of_ble_eq_true rfl) (fun p e s m below meth c ls S hr hlk hK hP hl => ?_)
  obtain ⟨hx, hb, hml, hown, hU⟩ := id S
  have hl : lv_has ls 2 [(0, .ref (o 0)), (1, .int (nI 0))] := hl
  refine lv_iload_n hx hb dX0_marksOf_0 rfl (lv_at hl 1 rfl) ?_
  refine lv_tableIn (tgt := 40) hx hb dX0_marksOf_1 (by decide) (by decide) rfl (by decide) ?_
  refine lv_aload_n hx hb dX0_marksOf_40 rfl (lv_at hl 0 rfl) ?_
  refine va_get (D := D) (ci := 0) (C := RX0) (T := TX0) (N := 14) hx hb hU mD_X0 hown hK hP 0 rfl rfl 2 (by decide) (hU _ mF_X0_18) (fun _ h => h) rfl dX0_marksOf_41 ?_
  exact RO.aret S hr (Or.inr ⟨_, rfl⟩) hlk rfl dX0_marksOf_44
set_option maxRecDepth 100000 in
set_option maxHeartbeats 4000000 in
theorem c_X0_marksG_1 (l : Launch) (D : va_G) (cI cJ : ClassId) (o : Nat → Nat) (r : Nat → Nat → Int32) (i : Nat → Int32) : RO l yX0_marksOf cX0_marksOf 2 (some (.array .int)) 0 D cI cJ (PG cI o r i) [.ref (o 0), .int (nI 1)] (.ref (o 4)) := by
  refine RO.of (by decide) (Nat.le_of_ble_eq_true rfl) (fun p e s m below meth c ls S hr hlk hK hP hl => ?_)
  obtain ⟨hx, hb, hml, hown, hU⟩ := id S
  have hl : lv_has ls 2 [(0, .ref (o 0)), (1, .int (nI 1))] := hl
  refine lv_iload_n hx hb dX0_marksOf_0 rfl (lv_at hl 1 rfl) ?_
  refine lv_tableIn (tgt := 45) hx hb dX0_marksOf_1 (by decide) (by decide) rfl (by decide) ?_
  refine lv_aload_n hx hb dX0_marksOf_45 rfl (lv_at hl 0 rfl) ?_
  refine va_get (D := D) (ci := 0) (C := RX0) (T := TX0) (N := 14) hx hb hU mD_X0 hown hK hP 0 rfl rfl 3 (by decide) (hU _ mF_X0_21) (fun _ h => h) rfl dX0_marksOf_46 ?_
  exact RO.aret S hr (Or.inr ⟨_, rfl⟩) hlk rfl dX0_marksOf_49
set_option maxRecDepth 100000 in
set_option maxHeartbeats 4000000 in
theorem c_X0_marksG_2 (l : Launch) (D : va_G) (cI cJ : ClassId) (o : Nat → Nat) (r : Nat → Nat → Int32) (i : Nat → Int32) : RO l yX0_marksOf cX0_marksOf 2 (some (.array .int)) 0 D cI cJ (PG cI o r i) [.ref (o 0), .int (nI 2)] (.ref (o 5)) := by
  refine RO.of (by decide) (Nat.le_of_ble_eq_true rfl) (fun p e s m below meth c ls S hr hlk hK hP hl => ?_)
  obtain ⟨hx, hb, hml, hown, hU⟩ := id S
  have hl : lv_has ls 2 [(0, .ref (o 0)), (1, .int (nI 2))] := hl
  refine lv_iload_n hx hb dX0_marksOf_0 rfl (lv_at hl 1 rfl) ?_
  refine lv_tableIn (tgt := 50) hx hb dX0_marksOf_1 (by decide) (by decide) rfl (by decide) ?_
  refine lv_aload_n hx hb dX0_marksOf_50 rfl (lv_at hl 0 rfl) ?_
  refine va_get (D := D) (ci := 0) (C := RX0) (T := TX0) (N := 14) hx hb hU mD_X0 hown hK hP 0 rfl rfl 4 (by decide) (hU _ mF_X0_24) (fun _ h => h) rfl dX0_marksOf_51 ?_
  exact RO.aret S hr (Or.inr ⟨_, rfl⟩) hlk rfl dX0_marksOf_54
set_option maxRecDepth 100000 in
set_option maxHeartbeats 4000000 in
theorem c_X0_marksG_3 (l : Launch) (D : va_G) (cI cJ : ClassId) (o : Nat → Nat) (r : Nat → Nat → Int32) (i : Nat → Int32) : RO l yX0_marksOf cX0_marksOf 2 (some (.array .int)) 0 D cI cJ (PG cI o r i) [.ref (o 0), .int (nI 3)] (.ref (o 6)) := by
  refine RO.of (by decide) (Nat.le_of_ble_eq_true rfl) (fun p e s m below meth c ls S hr hlk hK hP hl => ?_)
  obtain ⟨hx, hb, hml, hown, hU⟩ := id S
  have hl : lv_has ls 2 [(0, .ref (o 0)), (1, .int (nI 3))] := hl
  refine lv_iload_n hx hb dX0_marksOf_0 rfl (lv_at hl 1 rfl) ?_
  refine lv_tableIn (tgt := 55) hx hb dX0_marksOf_1 (by decide) (by decide) rfl (by decide) ?_
  refine lv_aload_n hx hb dX0_marksOf_55 rfl (lv_at hl 0 rfl) ?_
  refine va_get (D := D) (ci := 0) (C := RX0) (T := TX0) (N := 14) hx hb hU mD_X0 hown hK hP 0 rfl rfl 5 (by decide) (hU _ mF_X0_27) (fun _ h => h) rfl dX0_marksOf_56 ?_
  exact RO.aret S hr (Or.inr ⟨_, rfl⟩) hlk rfl dX0_marksOf_59
set_option maxRecDepth 100000 in
set_option maxHeartbeats 4000000 in
theorem c_X0_marksG_4 (l : Launch) (D : va_G) (cI cJ : ClassId) (o : Nat → Nat) (r : Nat → Nat → Int32) (i : Nat → Int32) : RO l yX0_marksOf cX0_marksOf 2 (some (.array .int)) 0 D cI cJ (PG cI o r i) [.ref (o 0), .int (nI 4)] (.ref (o 7)) := by
  refine RO.of (by decide) (Nat.le_of_ble_eq_true rfl) (fun p e s m below meth c ls S hr hlk hK hP hl => ?_)
  obtain ⟨hx, hb, hml, hown, hU⟩ := id S
  have hl : lv_has ls 2 [(0, .ref (o 0)), (1, .int (nI 4))] := hl
  refine lv_iload_n hx hb dX0_marksOf_0 rfl (lv_at hl 1 rfl) ?_
  refine lv_tableIn (tgt := 60) hx hb dX0_marksOf_1 (by decide) (by decide) rfl (by decide) ?_
  refine lv_aload_n hx hb dX0_marksOf_60 rfl (lv_at hl 0 rfl) ?_
  refine va_get (D := D) (ci := 0) (C := RX0) (T := TX0) (N := 14) hx hb hU mD_X0 hown hK hP 0 rfl rfl 6 (by decide) (hU _ mF_X0_30) (fun _ h => h) rfl dX0_marksOf_61 ?_
  exact RO.aret S hr (Or.inr ⟨_, rfl⟩) hlk rfl dX0_marksOf_64
set_option maxRecDepth 100000 in
set_option maxHeartbeats 4000000 in
theorem c_X0_marksG_5 (l : Launch) (D : va_G) (cI cJ : ClassId) (o : Nat → Nat) (r : Nat → Nat → Int32) (i : Nat → Int32) : RO l yX0_marksOf cX0_marksOf 2 (some (.array .int)) 0 D cI cJ (PG cI o r i) [.ref (o 0), .int (nI 5)] (.ref (o 8)) := by
  refine RO.of (by decide) (Nat.le_of_ble_eq_true rfl) (fun p e s m below meth c ls S hr hlk hK hP hl => ?_)
  obtain ⟨hx, hb, hml, hown, hU⟩ := id S
  have hl : lv_has ls 2 [(0, .ref (o 0)), (1, .int (nI 5))] := hl
  refine lv_iload_n hx hb dX0_marksOf_0 rfl (lv_at hl 1 rfl) ?_
  refine lv_tableIn (tgt := 65) hx hb dX0_marksOf_1 (by decide) (by decide) rfl (by decide) ?_
  refine lv_aload_n hx hb dX0_marksOf_65 rfl (lv_at hl 0 rfl) ?_
  refine va_get (D := D) (ci := 0) (C := RX0) (T := TX0) (N := 14) hx hb hU mD_X0 hown hK hP 0 rfl rfl 7 (by decide) (hU _ mF_X0_33) (fun _ h => h) rfl dX0_marksOf_66 ?_
  exact RO.aret S hr (Or.inr ⟨_, rfl⟩) hlk rfl dX0_marksOf_69
set_option maxRecDepth 100000 in
set_option maxHeartbeats 4000000 in
theorem c_X0_marksG_6 (l : Launch) (D : va_G) (cI cJ : ClassId) (o : Nat → Nat) (r : Nat → Nat → Int32) (i : Nat → Int32) : RO l yX0_marksOf cX0_marksOf 2 (some (.array .int)) 0 D cI cJ (PG cI o r i) [.ref (o 0), .int (nI 6)] (.ref (o 9)) := by
  refine RO.of (by decide) (Nat.le_of_ble_eq_true rfl) (fun p e s m below meth c ls S hr hlk hK hP hl => ?_)
  obtain ⟨hx, hb, hml, hown, hU⟩ := id S
  have hl : lv_has ls 2 [(0, .ref (o 0)), (1, .int (nI 6))] := hl
  refine lv_iload_n hx hb dX0_marksOf_0 rfl (lv_at hl 1 rfl) ?_
  refine lv_tableOut (tgt := 70) hx hb dX0_marksOf_1 (Or.inr (by decide)) (by decide) ?_
  refine lv_aload_n hx hb dX0_marksOf_70 rfl (lv_at hl 0 rfl) ?_
  refine va_get (D := D) (ci := 0) (C := RX0) (T := TX0) (N := 14) hx hb hU mD_X0 hown hK hP 0 rfl rfl 8 (by decide) (hU _ mF_X0_36) (fun _ h => h) rfl dX0_marksOf_71 ?_
  exact RO.aret S hr (Or.inr ⟨_, rfl⟩) hlk rfl dX0_marksOf_74

theorem rg3 {x : Int32} (h : 0 ≤ x ∧ x < nI 4) : nI 0 ≤ x ∧ x ≤ nI 3 := ⟨h.1, by
  have h2 := h.2
  rw [Int32.lt_iff_toInt_lt] at h2
  rw [Int32.le_iff_toInt_le]
  have e1 : (nI 4).toInt = 4 := rfl
  have e2 : (nI 3).toInt = 3 := rfl
  omega⟩
theorem td_exit {u : Nat → Int32} {pl : Nat} {f : Nat → Int32} {n k m : Nat} (h : ¬ sTd u pl f n k = true) (hk : k ≤ m) : ¬ sTd u pl f n m = true := by
  have h1 := sTd_f ((Bool.not_eq_true _).mp h) (m := m - k)
  rw [show k + (m - k) = m by omega] at h1
  rw [h1]
  decide
/-- of 100, 99, .. : how many of the first j hold, and the last of them -/
def fcD (T : Nat → Bool) : Nat → Nat × Option Nat
  | 0 => (0, none)
  | j + 1 => if T (100 - j) = true then ((fcD T j).1 + 1, some (100 - j)) else fcD T j
theorem fcD_1 {T : Nat → Bool} {j : Nat} (h : T (100 - j) = true) : fcD T (j + 1) = ((fcD T j).1 + 1, some (100 - j)) := if_pos h
theorem fcD_0 {T : Nat → Bool} {j : Nat} (h : ¬ T (100 - j) = true) : fcD T (j + 1) = fcD T j := if_neg h
theorem fcD_le {T : Nat → Bool} : ∀ {j : Nat}, (fcD T j).1 ≤ j
  | 0 => Nat.le_refl 0
  | j + 1 => by
    have := fcD_le (T := T) (j := j)
    unfold fcD
    split
    · exact Nat.succ_le_succ this
    · omega
theorem fcD_z {T : Nat → Bool} : ∀ {j : Nat}, ((fcD T j).1 = 0 → (fcD T j).2 = none) ∧ (0 < (fcD T j).1 → ∃ b, (fcD T j).2 = some b)
  | 0 => ⟨fun _ => rfl, fun h => absurd h (Nat.lt_irrefl 0)⟩
  | j + 1 => by
    have ih := fcD_z (T := T) (j := j)
    by_cases h : T (100 - j) = true
    · rw [fcD_1 h]
      exact ⟨fun q => absurd q (Nat.succ_ne_zero _), fun _ => ⟨_, rfl⟩⟩
    · rw [fcD_0 h]
      exact ih
def olf (x : Int32) (o : Option Nat) : Int32 := match o with
  | none => x
  | some v => nI v
def NF (σ : Nat → Nat → Int32) (A R : Nat → Int32) : Nat → Nat → Int32 := va_up (va_up σ 3 A) 9 R
theorem NF_3 {σ : Nat → Nat → Int32} {A R B : Nat → Int32} : va_up (NF σ A R) 3 B = NF σ B R := by
  funext j
  unfold NF va_up
  by_cases e : j = 3
  · simp [e]
  · simp [e]
theorem NF_9 {σ : Nat → Nat → Int32} {A R : Nat → Int32} {i : Nat} {v : Int32} : m9 (NF σ A R) i v = NF σ A (upd R i v) := by
  show va_up (NF σ A R) 9 (upd (NF σ A R 9) i v) = NF σ A (upd R i v)
  rw [show NF σ A R 9 = R from rfl]
  exact bx_uu _ _ _ _
theorem ff_0 {σ : Nat → Nat → Int32} {T : Nat → Bool} : NF σ (σ 3) (upd (upd (σ 9) 2 (nI (fcD T 0).1)) 3 (olf (σ 9 3) (fcD T 0).2)) = m9 σ 2 (nI 0) := by
  unfold NF m9
  rw [va_up_self2]
  congr 1
  exact upd_self (f := upd (σ 9) 2 (nI 0)) (i := 3)
theorem ff_r9 {r : Nat → Int32} {x y x2 y2 : Int32} : upd (upd (upd (upd r 2 x) 3 y) 2 x2) 3 y2 = upd (upd r 2 x2) 3 y2 := by
  rw [upd_comm (i := 3) (j := 2) (by decide), upd_upd, upd_upd]
def sKd (T : Nat → Bool) : Nat → Nat
  | 0 => 0
  | j + 1 => if T j = true then sKd T j ||| 2 ^ j else sKd T j
theorem sKd_1 {T : Nat → Bool} {j : Nat} (h : T j = true) : sKd T (j + 1) = sKd T j ||| 2 ^ j := if_pos h
theorem sKd_0 {T : Nat → Bool} {j : Nat} (h : ¬ T j = true) : sKd T (j + 1) = sKd T j := if_neg h
theorem sKd_lt {T : Nat → Bool} : ∀ {j : Nat}, j ≤ 8 → sKd T j < 2 ^ j
  | 0, _ => by simp [sKd]
  | j + 1, h => by
    have ih := sKd_lt (T := T) (j := j) (by omega)
    unfold sKd
    split
    · exact (popc_add j (by omega) _ ih).2
    · exact Nat.lt_of_lt_of_le ih (Nat.pow_le_pow_right (by decide) (by omega))
theorem lbT_7 {σ : Nat → Nat → Int32} {f : Nat → Int32} {k w v i : Nat} : lbT σ f k w v 7 i = σ 7 i := by
  cases v <;> rfl
theorem lbT_8 {σ : Nat → Nat → Int32} {f : Nat → Int32} {k w v : Nat} : lbT σ f k w v 8 = σ 8 := by
  cases v <;> rfl
theorem MW_fst {cI : ClassId} {a : Nat → Nat} {f g : Nat → Int32} {σ τ : Nat → Nat → Int32} : (MW cI a f σ).map Prod.fst = (MW cI a g τ).map Prod.fst := rfl
theorem popc_le (s : Nat) : popc s ≤ 8 := by
  unfold popc
  omega
set_option maxRecDepth 100000 in
set_option maxHeartbeats 4000000 in
theorem c_X4_blendOf (l : Launch) (D : va_G) (cI cJ : ClassId) (a : Nat → Nat) (f : Nat → Int32) (σ : Nat → Nat → Int32) (q : Nat) (n : Nat) (hw : Wk f n) (hq : q < 2147483648) : RO l yX4_blendOf cX4_blendOf 4 (some .int) 3 D cI cJ (MW cI a f σ) [.ref (a 0), .int (nI q)] (.int (sBn f n q n)) := by
  have h8 := hw.2.1
  refine RO.of (by decide) (Nat.le_of_ble_eq_true rfl) (fun p e s m below meth c ls S hr hlk hK hP hl => ?_)
  obtain ⟨hx, hb, hml, hown, hU⟩ := id S
  have hl : lv_has ls 4 [(0, .ref (a 0)), (1, .int (nI q))] := hl
  refine lv_iconst (v := nI 0) hx hb dX4_blendOf_0 (by decide) ?_
  refine lv_istore_n (lv' := [(2, .int (nI 0)), (0, .ref (a 0)), (1, .int (nI q))]) hx hb dX4_blendOf_1 rfl hl (by decide) rfl (fun ls hl => ?_)
  refine lv_iconst (v := nI 0) hx hb dX4_blendOf_2 (by decide) ?_
  refine lv_istore_n (lv' := [(3, .int (nI 0)), (2, .int (nI 0)), (0, .ref (a 0)), (1, .int (nI q))]) hx hb dX4_blendOf_3 rfl hl (by decide) rfl (fun ls hl => ?_)
  have L_4 : ∀ (n9 : Nat) (j : Nat) (ls : Array Slot), n - j < n9 → (j ≤ n) → lv_has ls 4 [(0, .ref (a 0)), (1, .int (nI q)), (2, .int (sBn f n q j)), (3, .int (nI j))] → W p l e (rmd 3) s m ([.ref (a 0), .int (nI q)] : List Value).toArray below meth c s.heap [] 0 0 (ZR below ([.ref (a 0), .int (nI q)] : List Value).toArray s (.int (sBn f n q n))) (F0 m 4 ls []) := by
    intro n9
    induction n9 with
    | zero => intro j ls hmeas; exact absurd hmeas (Nat.not_lt_zero _)
    | succ n9 ih_4 =>
      intro j ls hmeas hj hl
      have hdv : q / 2 ^ j < 2147483648 := Nat.lt_of_le_of_lt (Nat.div_le_self _ _) hq
      refine lv_iload_n hx hb dX4_blendOf_4 rfl (lv_at hl 3 rfl) ?_
      refine lv_aload_n hx hb dX4_blendOf_5 rfl (lv_at hl 0 rfl) ?_
      refine g4_s S hK hP dX4_blendOf_6 ?_
      refine lv_iconst (v := nI 0) hx hb dX4_blendOf_9 (by decide) ?_
      refine l4_s S hK hP (j := 0) (by omega) dX4_blendOf_10 ?_
      refine q_eqi (y := nI n) (hw.1) ?_
      refine q_icmp_geN (tgt := 41) (a := j) (b := n) hx hb dX4_blendOf_11 (by decide) (by omega) (by omega) (fun c_11 => ?_) (fun c_11 => ?_)
      · refine lv_iload_n hx hb dX4_blendOf_41 rfl (lv_at hl 2 rfl) ?_
        exact RO.iret S hr hlk (congrArg Value.int (by rw [show j = n by omega])) dX4_blendOf_42
      · refine lv_iload_n hx hb dX4_blendOf_14 rfl (lv_at hl 2 rfl) ?_
        refine lv_iload_n hx hb dX4_blendOf_15 rfl (lv_at hl 1 rfl) ?_
        refine lv_iload_n hx hb dX4_blendOf_16 rfl (lv_at hl 3 rfl) ?_
        refine lv_ishr hx hb dX4_blendOf_17 ?_
        refine q_eqi (y := nI (q / 2 ^ j)) (nI_shr hq (by omega)) ?_
        refine lv_iconst (v := nI 1) hx hb dX4_blendOf_18 (by decide) ?_
        refine lv_iand hx hb dX4_blendOf_19 ?_
        refine q_eqi (y := nI (q / 2 ^ j % 2)) (nI_and1 hdv) ?_
        refine lv_iconst (v := nI 1) hx hb dX4_blendOf_20 (by decide) ?_
        refine q_icmp_neN (tgt := 32) (a := q / 2 ^ j % 2) (b := 1) hx hb dX4_blendOf_21 (by decide) (by omega) (by omega) (fun c_21 => ?_) (fun c_21 => ?_)
        · refine lv_iconst (v := nI 0) hx hb dX4_blendOf_32 (by decide) ?_
          refine lv_iadd hx hb dX4_blendOf_33 ?_
          refine lv_istore_n (lv' := [(2, .int ((sBn f n q j) + (nI 0))), (0, .ref (a 0)), (1, .int (nI q)), (3, .int (nI j))]) hx hb dX4_blendOf_34 rfl hl (by decide) rfl (fun ls hl => ?_)
          refine lv_iinc (v := nI (j + 1)) (lv' := [(3, .int (nI (j + 1))), (2, .int ((sBn f n q j) + (nI 0))), (0, .ref (a 0)), (1, .int (nI q))]) hx hb dX4_blendOf_35 hl (k := 3) rfl (q_inc _) (by decide) rfl (fun ls hl => ?_)
          refine lv_goto (tgt := 4) hx hb dX4_blendOf_38 (by decide) ?_
          exact ih_4 (j + 1) ls (by omega) (by omega) (by rw [show sBn f n q (j + 1) = (sBn f n q j) + (nI 0) from by rw [sBn, if_neg c_21]; exact (Int32.add_zero _).symm]; exact lv_sub hl [2, 3, 1, 0] rfl)
        · refine lv_aload_n hx hb dX4_blendOf_24 rfl (lv_at hl 0 rfl) ?_
          refine lv_iload_n hx hb dX4_blendOf_25 rfl (lv_at hl 3 rfl) ?_
          refine RO.callV S kv_X4_89 (c_X4_loud l D cI cJ a f σ j n (hw) (by omega)) hK hP rfl ⟨Nat.le_of_ble_eq_true rfl, Nat.le_of_ble_eq_true rfl⟩ hl.1 rfl rfl (Nat.le_of_ble_eq_true rfl) (Nat.zero_le _) (Nat.zero_le _) dX4_blendOf_26 ?_
          refine lv_goto (tgt := 33) hx hb dX4_blendOf_29 (by decide) ?_
          refine lv_iadd hx hb dX4_blendOf_33 ?_
          refine lv_istore_n (lv' := [(2, .int ((sBn f n q j) + (sLd f n j))), (0, .ref (a 0)), (1, .int (nI q)), (3, .int (nI j))]) hx hb dX4_blendOf_34 rfl hl (by decide) rfl (fun ls hl => ?_)
          refine lv_iinc (v := nI (j + 1)) (lv' := [(3, .int (nI (j + 1))), (2, .int ((sBn f n q j) + (sLd f n j))), (0, .ref (a 0)), (1, .int (nI q))]) hx hb dX4_blendOf_35 hl (k := 3) rfl (q_inc _) (by decide) rfl (fun ls hl => ?_)
          refine lv_goto (tgt := 4) hx hb dX4_blendOf_38 (by decide) ?_
          exact ih_4 (j + 1) ls (by omega) (by omega) (by rw [show sBn f n q (j + 1) = (sBn f n q j) + (sLd f n j) from by rw [sBn, if_pos c_21]]; exact lv_sub hl [2, 3, 1, 0] rfl)
  exact L_4 ((n - 0) + 1) 0 ls (Nat.lt_succ_self _) (Nat.zero_le n) (by rw [show sBn f n q 0 = nI 0 from rfl]; exact lv_sub hl [2, 3, 1, 0] rfl)
set_option maxRecDepth 100000 in
set_option maxHeartbeats 4000000 in
theorem c_X4_blend_ok (l : Launch) (D : va_G) (cI cJ : ClassId) (a : Nat → Nat) (f : Nat → Int32) (σ : Nat → Nat → Int32) (q : Nat) (n : Nat) (hw : Wk f n) (hq : q ≤ 2 ^ n - 1) : WR l yX4_blend cX4_blend 2 (some .int) 4 D cI cJ (MW cI a f σ) [.ref (a 0), .int (nI q)] (some (.int (sBn f n q n))) (MW cI a f σ) := by
  have h8 := hw.2.1
  have hp2 : 2 ^ n ≤ 256 := Nat.pow_le_pow_right (n := 2) (by decide) h8
  have hp1 : 1 ≤ 2 ^ n := Nat.one_le_two_pow
  refine WR.of (by decide) (Nat.le_of_ble_eq_true rfl) (fun p e s m below meth c ls A S hr hlk hK hP hD hS hA hl => ?_)
  obtain ⟨hx, hb, hml, hown, hU⟩ := id S
  have hl : lv_has ls 2 [(0, .ref (a 0)), (1, .int (nI q))] := hl
  refine lv_iload_n hx hb dX4_blend_0 rfl (lv_at hl 1 rfl) ?_
  refine lv_i2l hx hb dX4_blend_1 rfl ?_
  refine lv_lconst (v := 0) hx hb dX4_blend_2 (by decide) ?_
  refine lv_iconst (v := nI 1) hx hb dX4_blend_3 (by decide) ?_
  refine lv_aload_n hx hb dX4_blend_4 rfl (lv_at hl 0 rfl) ?_
  refine g4_s S hK hP dX4_blend_5 ?_
  refine lv_iconst (v := nI 0) hx hb dX4_blend_8 (by decide) ?_
  refine l4_s S hK hP (j := 0) (by omega) dX4_blend_9 ?_
  refine q_eqi (y := nI n) (hw.1) ?_
  refine lv_ishl hx hb dX4_blend_10 ?_
  refine q_eqi (y := nI (2 ^ n)) (nI_shl1 _ (by omega)) ?_
  refine lv_iconst (v := nI 1) hx hb dX4_blend_11 (by decide) ?_
  refine q_isubN (a := 2 ^ n) (b := 1) hx hb dX4_blend_12 (by omega) ?_
  refine lv_i2l hx hb dX4_blend_13 rfl ?_
  refine RO.callS S ks_X4_49 (c_X4_isIn l D cI cJ a f σ (nI q) (nI 0) (nI ((2 ^ n) - 1))) hK hP ⟨Nat.le_of_ble_eq_true rfl, Nat.le_of_ble_eq_true rfl⟩ hl.1 rfl rfl (Nat.le_of_ble_eq_true rfl) (Nat.zero_le _) (Nat.zero_le _) dX4_blend_14 ?_
  refine q_if_eqB (tgt := 28) hx hb dX4_blend_17 (by decide) (fun h => absurd (⟨nI_le (by omega) (by omega), nI_le (by omega) (by omega)⟩) h) (fun _ => ?_)
  refine lv_aload_n hx hb dX4_blend_20 rfl (lv_at hl 0 rfl) ?_
  refine lv_iload_n hx hb dX4_blend_21 rfl (lv_at hl 1 rfl) ?_
  refine RO.callV S kv_X4_175 (c_X4_blendOf l D cI cJ a f σ q n (hw) (by omega)) hK hP rfl ⟨Nat.le_of_ble_eq_true rfl, Nat.le_of_ble_eq_true rfl⟩ hl.1 rfl rfl (Nat.le_of_ble_eq_true rfl) (Nat.zero_le _) (Nat.zero_le _) dX4_blend_22 ?_
  refine lv_goto (tgt := 34) hx hb dX4_blend_25 (by decide) ?_
  exact WR.iret S hr hlk hP hS (rfl) rfl dX4_blend_34
set_option maxRecDepth 100000 in
set_option maxHeartbeats 4000000 in
theorem c_X4_blend_bad (l : Launch) (D : va_G) (cI cJ : ClassId) (a : Nat → Nat) (f : Nat → Int32) (σ : Nat → Nat → Int32) (x : Int32) (n : Nat) (hw : Wk f n) (hb0 : ¬ (nI 0 ≤ x ∧ x ≤ nI (2 ^ n - 1))) : WR l yX4_blend cX4_blend 2 (some .int) 4 D cI cJ (MW cI a f σ) [.ref (a 0), .int x] (some (.int (-1000001))) (MW cI a f (va_up σ 4 (mFi (σ 4) 0))) := by
  have h8 := hw.2.1
  have hp2 : 2 ^ n ≤ 256 := Nat.pow_le_pow_right (n := 2) (by decide) h8
  have hp1 : 1 ≤ 2 ^ n := Nat.one_le_two_pow
  refine WR.of (by decide) (Nat.le_of_ble_eq_true rfl) (fun p e s m below meth c ls A S hr hlk hK hP hD hS hA hl => ?_)
  obtain ⟨hx, hb, hml, hown, hU⟩ := id S
  have hl : lv_has ls 2 [(0, .ref (a 0)), (1, .int x)] := hl
  refine lv_iload_n hx hb dX4_blend_0 rfl (lv_at hl 1 rfl) ?_
  refine lv_i2l hx hb dX4_blend_1 rfl ?_
  refine lv_lconst (v := 0) hx hb dX4_blend_2 (by decide) ?_
  refine lv_iconst (v := nI 1) hx hb dX4_blend_3 (by decide) ?_
  refine lv_aload_n hx hb dX4_blend_4 rfl (lv_at hl 0 rfl) ?_
  refine g4_s S hK hP dX4_blend_5 ?_
  refine lv_iconst (v := nI 0) hx hb dX4_blend_8 (by decide) ?_
  refine l4_s S hK hP (j := 0) (by omega) dX4_blend_9 ?_
  refine q_eqi (y := nI n) (hw.1) ?_
  refine lv_ishl hx hb dX4_blend_10 ?_
  refine q_eqi (y := nI (2 ^ n)) (nI_shl1 _ (by omega)) ?_
  refine lv_iconst (v := nI 1) hx hb dX4_blend_11 (by decide) ?_
  refine q_isubN (a := 2 ^ n) (b := 1) hx hb dX4_blend_12 (by omega) ?_
  refine lv_i2l hx hb dX4_blend_13 rfl ?_
  refine RO.callS S ks_X4_49 (c_X4_isIn l D cI cJ a f σ x (nI 0) (nI ((2 ^ n) - 1))) hK hP ⟨Nat.le_of_ble_eq_true rfl, Nat.le_of_ble_eq_true rfl⟩ hl.1 rfl rfl (Nat.le_of_ble_eq_true rfl) (Nat.zero_le _) (Nat.zero_le _) dX4_blend_14 ?_
  refine q_if_eqB (tgt := 28) hx hb dX4_blend_17 (by decide) (fun c_17 => ?_) (fun c_17 => ?_)
  · refine lv_aload_n hx hb dX4_blend_28 rfl (lv_at hl 0 rfl) ?_
    refine lv_ldc (v := (-1000001)) hx hb hown (hU _ mK_X4_37) dX4_blend_29 ?_
    refine WR.callV (w1 := MW cI a f (va_up σ 4 (mFi (σ 4) 0))) S kv_X4_39 (c_X4_fd0 l D cI cJ a f σ) hK hP hD hS hA ([]) ([]) rfl rfl MW_fst rfl ⟨Nat.le_of_ble_eq_true rfl, Nat.le_of_ble_eq_true rfl⟩ hl.1 rfl rfl (Nat.le_of_ble_eq_true rfl) (Nat.zero_le _) (Nat.zero_le _) dX4_blend_31 (fun H locs hP hD hS => ?_)
    exact WR.iret S hr hlk hP hS (rfl) rfl dX4_blend_34
  · exact absurd (c_17) hb0
set_option maxRecDepth 100000 in
set_option maxHeartbeats 4000000 in
theorem c_X4_order_ok (l : Launch) (D : va_G) (cI cJ : ClassId) (a : Nat → Nat) (f : Nat → Int32) (σ : Nat → Nat → Int32) (v : Nat) (n : Nat) (hw : Wk f n) (hv : v ≤ 9999) : WR l yX4_order cX4_order 4 (some .int) 4 D cI cJ (MW cI a f σ) [.ref (a 0), .int (nI v)] (some (.int (aN (oOr f n (nI v))))) (MW cI a f (sgN σ (oOr f n (nI v)))) := by
  have h8 := hw.2.1
  have hp2 : 2 ^ n ≤ 256 := Nat.pow_le_pow_right (n := 2) (by decide) h8
  have hp1 : 1 ≤ 2 ^ n := Nat.one_le_two_pow
  refine WR.of (by decide) (Nat.le_of_ble_eq_true rfl) (fun p e s m below meth c ls A S hr hlk hK hP hD hS hA hl => ?_)
  obtain ⟨hx, hb, hml, hown, hU⟩ := id S
  have hl : lv_has ls 4 [(0, .ref (a 0)), (1, .int (nI v))] := hl
  refine lv_iload_n hx hb dX4_order_0 rfl (lv_at hl 1 rfl) ?_
  refine lv_i2l hx hb dX4_order_1 rfl ?_
  refine lv_lconst (v := 0) hx hb dX4_order_2 (by decide) ?_
  refine lv_ldc2 (v := 9999) hx hb hown (hU _ mK_X4_178) dX4_order_3 ?_
  refine RO.callS S ks_X4_49 (c_X4_isIn l D cI cJ a f σ (nI v) (nI 0) (nI 9999)) hK hP ⟨Nat.le_of_ble_eq_true rfl, Nat.le_of_ble_eq_true rfl⟩ hl.1 rfl rfl (Nat.le_of_ble_eq_true rfl) (Nat.zero_le _) (Nat.zero_le _) dX4_order_6 ?_
  refine q_if_neB (tgt := 19) hx hb dX4_order_9 (by decide) (fun _ => ?_) (fun h => absurd (⟨nI_le (by omega) (by omega), nI_le (by omega) (by omega)⟩) h)
  refine lv_iconst (v := (-1)) hx hb dX4_order_19 (by decide) ?_
  refine lv_istore_n (lv' := [(2, .int (-1)), (0, .ref (a 0)), (1, .int (nI v))]) hx hb dX4_order_20 rfl hl (by decide) rfl (fun ls hl => ?_)
  refine lv_iconst (v := nI 0) hx hb dX4_order_21 (by decide) ?_
  refine lv_istore_n (lv' := [(3, .int (nI 0)), (2, .int (-1)), (0, .ref (a 0)), (1, .int (nI v))]) hx hb dX4_order_22 rfl hl (by decide) rfl (fun ls hl => ?_)
  have L_23 : ∀ (n9 : Nat) (j : Nat) (H : Heap) (locs : List Loc) (ls : Array Slot), 2 ^ n - j < n9 → (j ≤ 2 ^ n) → va_P D vwCl (MW cI a f σ) H → va_D A (MW cI a f σ) → va_S A s.heap H locs → lv_has ls 4 [(0, .ref (a 0)), (1, .int (nI v)), (2, .int (oI (sEs (fun s => decide (sBn f n s n = nI v)) j))), (3, .int (nI j))] → W p l e (rmd 4) s m ([.ref (a 0), .int (nI v)] : List Value).toArray below meth c H locs 0 0 (ZW below ([.ref (a 0), .int (nI v)] : List Value).toArray s D (some (.int (aN (oOr f n (nI v))))) (MW cI a f (sgN σ (oOr f n (nI v)))) A) (F0 m 23 ls []) := by
    intro n9
    induction n9 with
    | zero => intro j H locs ls hmeas; exact absurd hmeas (Nat.not_lt_zero _)
    | succ n9 ih_23 =>
      intro j H locs ls hmeas hj hP hD hS hl
      cases hE : sEs (fun s => decide (sBn f n s n = nI v)) j with
      | none =>
        have hl : lv_has ls 4 [(0, .ref (a 0)), (1, .int (nI v)), (2, .int (-1)), (3, .int (nI j))] := by rw [hE] at hl; exact hl
        refine lv_iload_n hx hb dX4_order_23 rfl (lv_at hl 3 rfl) ?_
        refine lv_iconst (v := nI 1) hx hb dX4_order_24 (by decide) ?_
        refine lv_aload_n hx hb dX4_order_25 rfl (lv_at hl 0 rfl) ?_
        refine g4_s S hK hP dX4_order_26 ?_
        refine lv_iconst (v := nI 0) hx hb dX4_order_29 (by decide) ?_
        refine l4_s S hK hP (j := 0) (by omega) dX4_order_30 ?_
        refine q_eqi (y := nI n) (hw.1) ?_
        refine lv_ishl hx hb dX4_order_31 ?_
        refine q_eqi (y := nI (2 ^ n)) (nI_shl1 _ (by omega)) ?_
        refine q_icmp_geN (tgt := 71) (a := j) (b := 2 ^ n) hx hb dX4_order_32 (by decide) (by omega) (by omega) (fun c_32 => ?_) (fun c_32 => ?_)
        · have hEn : oOr f n (nI v) = none := by rw [show j = 2 ^ n by omega] at hE; exact hE
          refine lv_aload_n hx hb dX4_order_71 rfl (lv_at hl 0 rfl) ?_
          refine lv_iload_n hx hb dX4_order_72 rfl (lv_at hl 2 rfl) ?_
          refine WR.callV (w1 := MW cI a f (va_up σ 4 (mFi (σ 4) 3))) S kv_X4_170 (c_X4_orNone_none l D cI cJ a f σ) hK hP hD hS hA ([]) ([]) rfl rfl MW_fst rfl ⟨Nat.le_of_ble_eq_true rfl, Nat.le_of_ble_eq_true rfl⟩ hl.1 rfl rfl (Nat.le_of_ble_eq_true rfl) (Nat.zero_le _) (Nat.zero_le _) dX4_order_73 (fun H locs hP hD hS => ?_)
          exact WR.iret S hr hlk hP hS (by rw [hEn]; rfl) (congrArg (fun z => some (Value.int z)) (by rw [hEn]; rfl)) dX4_order_76
        · refine lv_iload_n hx hb dX4_order_35 rfl (lv_at hl 2 rfl) ?_
          refine lv_if_lt (tgt := 50) hx hb dX4_order_36 (by decide) (fun _ => ?_) (fun h => absurd (by decide) h)
          refine lv_aload_n hx hb dX4_order_50 rfl (lv_at hl 0 rfl) ?_
          refine lv_iload_n hx hb dX4_order_51 rfl (lv_at hl 3 rfl) ?_
          refine RO.callV S kv_X4_175 (c_X4_blendOf l D cI cJ a f σ j n (hw) (by omega)) hK hP rfl ⟨Nat.le_of_ble_eq_true rfl, Nat.le_of_ble_eq_true rfl⟩ hl.1 rfl rfl (Nat.le_of_ble_eq_true rfl) (Nat.zero_le _) (Nat.zero_le _) dX4_order_52 ?_
          refine lv_iload_n hx hb dX4_order_55 rfl (lv_at hl 1 rfl) ?_
          refine lv_icmp_ne (tgt := 63) hx hb dX4_order_56 (by decide) (fun c_56 => ?_) (fun c_56 => ?_)
          · refine lv_iload_n hx hb dX4_order_63 rfl (lv_at hl 2 rfl) ?_
            refine lv_istore_n (lv' := [(2, .int (-1)), (0, .ref (a 0)), (1, .int (nI v)), (3, .int (nI j))]) hx hb dX4_order_64 rfl hl (by decide) rfl (fun ls hl => ?_)
            refine lv_iinc (v := nI (j + 1)) (lv' := [(3, .int (nI (j + 1))), (2, .int (-1)), (0, .ref (a 0)), (1, .int (nI v))]) hx hb dX4_order_65 hl (k := 3) rfl (q_inc _) (by decide) rfl (fun ls hl => ?_)
            refine lv_goto (tgt := 23) hx hb dX4_order_68 (by decide) ?_
            exact ih_23 (j + 1) _ _ ls (by omega) (by omega) hP hD hS (by rw [show oI (sEs (fun s => decide (sBn f n s n = nI v)) (j + 1)) = (-1) from by rw [sEs_n0 hE (by simpa using c_56)]; rfl]; exact lv_sub hl [2, 3, 1, 0] rfl)
          · refine lv_iload_n hx hb dX4_order_59 rfl (lv_at hl 3 rfl) ?_
            refine lv_goto (tgt := 64) hx hb dX4_order_60 (by decide) ?_
            refine lv_istore_n (lv' := [(2, .int (nI j)), (0, .ref (a 0)), (1, .int (nI v)), (3, .int (nI j))]) hx hb dX4_order_64 rfl hl (by decide) rfl (fun ls hl => ?_)
            refine lv_iinc (v := nI (j + 1)) (lv' := [(3, .int (nI (j + 1))), (2, .int (nI j)), (0, .ref (a 0)), (1, .int (nI v))]) hx hb dX4_order_65 hl (k := 3) rfl (q_inc _) (by decide) rfl (fun ls hl => ?_)
            refine lv_goto (tgt := 23) hx hb dX4_order_68 (by decide) ?_
            exact ih_23 (j + 1) _ _ ls (by omega) (by omega) hP hD hS (by rw [show oI (sEs (fun s => decide (sBn f n s n = nI v)) (j + 1)) = nI j from by rw [sEs_n1 hE (by simpa using c_56)]; rfl]; exact lv_sub hl [2, 3, 1, 0] rfl)
      | some b =>
        have hl : lv_has ls 4 [(0, .ref (a 0)), (1, .int (nI v)), (2, .int (nI b)), (3, .int (nI j))] := by rw [hE] at hl; exact hl
        have hbj := sEs_lt hE
        have hq1 := popc_le j
        have hq2 := popc_le b
        refine lv_iload_n hx hb dX4_order_23 rfl (lv_at hl 3 rfl) ?_
        refine lv_iconst (v := nI 1) hx hb dX4_order_24 (by decide) ?_
        refine lv_aload_n hx hb dX4_order_25 rfl (lv_at hl 0 rfl) ?_
        refine g4_s S hK hP dX4_order_26 ?_
        refine lv_iconst (v := nI 0) hx hb dX4_order_29 (by decide) ?_
        refine l4_s S hK hP (j := 0) (by omega) dX4_order_30 ?_
        refine q_eqi (y := nI n) (hw.1) ?_
        refine lv_ishl hx hb dX4_order_31 ?_
        refine q_eqi (y := nI (2 ^ n)) (nI_shl1 _ (by omega)) ?_
        refine q_icmp_geN (tgt := 71) (a := j) (b := 2 ^ n) hx hb dX4_order_32 (by decide) (by omega) (by omega) (fun c_32 => ?_) (fun c_32 => ?_)
        · have hEn : oOr f n (nI v) = some b := by rw [show j = 2 ^ n by omega] at hE; exact hE
          refine lv_aload_n hx hb dX4_order_71 rfl (lv_at hl 0 rfl) ?_
          refine lv_iload_n hx hb dX4_order_72 rfl (lv_at hl 2 rfl) ?_
          refine WR.callV (w1 := MW cI a f σ) S kv_X4_170 (c_X4_orNone_some l D cI cJ a f σ b (by omega)) hK hP hD hS hA ([]) ([]) rfl rfl MW_fst rfl ⟨Nat.le_of_ble_eq_true rfl, Nat.le_of_ble_eq_true rfl⟩ hl.1 rfl rfl (Nat.le_of_ble_eq_true rfl) (Nat.zero_le _) (Nat.zero_le _) dX4_order_73 (fun H locs hP hD hS => ?_)
          exact WR.iret S hr hlk hP hS (by rw [hEn]; rfl) (congrArg (fun z => some (Value.int z)) (by rw [hEn]; rfl)) dX4_order_76
        · refine lv_iload_n hx hb dX4_order_35 rfl (lv_at hl 2 rfl) ?_
          refine q_if_ltN (tgt := 50) (a := b) hx hb dX4_order_36 (by decide) (by omega) ?_
          refine lv_iload_n hx hb dX4_order_39 rfl (lv_at hl 3 rfl) ?_
          refine RO.callS S ks_X4_83 (c_X4_many l D cI cJ a f σ j (by omega)) hK hP ⟨Nat.le_of_ble_eq_true rfl, Nat.le_of_ble_eq_true rfl⟩ hl.1 rfl rfl (Nat.le_of_ble_eq_true rfl) (Nat.zero_le _) (Nat.zero_le _) dX4_order_40 ?_
          refine lv_iload_n hx hb dX4_order_43 rfl (lv_at hl 2 rfl) ?_
          refine RO.callS S ks_X4_83 (c_X4_many l D cI cJ a f σ b (by omega)) hK hP ⟨Nat.le_of_ble_eq_true rfl, Nat.le_of_ble_eq_true rfl⟩ hl.1 rfl rfl (Nat.le_of_ble_eq_true rfl) (Nat.zero_le _) (Nat.zero_le _) dX4_order_44 ?_
          refine q_icmp_geN (tgt := 63) (a := popc j) (b := popc b) hx hb dX4_order_47 (by decide) (by omega) (by omega) (fun c_47 => ?_) (fun c_47 => ?_)
          · refine lv_iload_n hx hb dX4_order_63 rfl (lv_at hl 2 rfl) ?_
            refine lv_istore_n (lv' := [(2, .int (nI b)), (0, .ref (a 0)), (1, .int (nI v)), (3, .int (nI j))]) hx hb dX4_order_64 rfl hl (by decide) rfl (fun ls hl => ?_)
            refine lv_iinc (v := nI (j + 1)) (lv' := [(3, .int (nI (j + 1))), (2, .int (nI b)), (0, .ref (a 0)), (1, .int (nI v))]) hx hb dX4_order_65 hl (k := 3) rfl (q_inc _) (by decide) rfl (fun ls hl => ?_)
            refine lv_goto (tgt := 23) hx hb dX4_order_68 (by decide) ?_
            exact ih_23 (j + 1) _ _ ls (by omega) (by omega) hP hD hS (by rw [show oI (sEs (fun s => decide (sBn f n s n = nI v)) (j + 1)) = nI b from by rw [sEs_s0 hE (fun q => absurd q.1 (by omega))]; rfl]; exact lv_sub hl [2, 3, 1, 0] rfl)
          · refine lv_aload_n hx hb dX4_order_50 rfl (lv_at hl 0 rfl) ?_
            refine lv_iload_n hx hb dX4_order_51 rfl (lv_at hl 3 rfl) ?_
            refine RO.callV S kv_X4_175 (c_X4_blendOf l D cI cJ a f σ j n (hw) (by omega)) hK hP rfl ⟨Nat.le_of_ble_eq_true rfl, Nat.le_of_ble_eq_true rfl⟩ hl.1 rfl rfl (Nat.le_of_ble_eq_true rfl) (Nat.zero_le _) (Nat.zero_le _) dX4_order_52 ?_
            refine lv_iload_n hx hb dX4_order_55 rfl (lv_at hl 1 rfl) ?_
            refine lv_icmp_ne (tgt := 63) hx hb dX4_order_56 (by decide) (fun c_56 => ?_) (fun c_56 => ?_)
            · refine lv_iload_n hx hb dX4_order_63 rfl (lv_at hl 2 rfl) ?_
              refine lv_istore_n (lv' := [(2, .int (nI b)), (0, .ref (a 0)), (1, .int (nI v)), (3, .int (nI j))]) hx hb dX4_order_64 rfl hl (by decide) rfl (fun ls hl => ?_)
              refine lv_iinc (v := nI (j + 1)) (lv' := [(3, .int (nI (j + 1))), (2, .int (nI b)), (0, .ref (a 0)), (1, .int (nI v))]) hx hb dX4_order_65 hl (k := 3) rfl (q_inc _) (by decide) rfl (fun ls hl => ?_)
              refine lv_goto (tgt := 23) hx hb dX4_order_68 (by decide) ?_
              exact ih_23 (j + 1) _ _ ls (by omega) (by omega) hP hD hS (by rw [show oI (sEs (fun s => decide (sBn f n s n = nI v)) (j + 1)) = nI b from by rw [sEs_s0 hE (fun q => absurd q.2 (by simpa using c_56))]; rfl]; exact lv_sub hl [2, 3, 1, 0] rfl)
            · refine lv_iload_n hx hb dX4_order_59 rfl (lv_at hl 3 rfl) ?_
              refine lv_goto (tgt := 64) hx hb dX4_order_60 (by decide) ?_
              refine lv_istore_n (lv' := [(2, .int (nI j)), (0, .ref (a 0)), (1, .int (nI v)), (3, .int (nI j))]) hx hb dX4_order_64 rfl hl (by decide) rfl (fun ls hl => ?_)
              refine lv_iinc (v := nI (j + 1)) (lv' := [(3, .int (nI (j + 1))), (2, .int (nI j)), (0, .ref (a 0)), (1, .int (nI v))]) hx hb dX4_order_65 hl (k := 3) rfl (q_inc _) (by decide) rfl (fun ls hl => ?_)
              refine lv_goto (tgt := 23) hx hb dX4_order_68 (by decide) ?_
              exact ih_23 (j + 1) _ _ ls (by omega) (by omega) hP hD hS (by rw [show oI (sEs (fun s => decide (sBn f n s n = nI v)) (j + 1)) = nI j from by rw [sEs_s1 hE (by omega) (by simpa using c_56)]; rfl]; exact lv_sub hl [2, 3, 1, 0] rfl)
  exact L_23 ((2 ^ n - 0) + 1) 0 _ _ ls (Nat.lt_succ_self _) (Nat.zero_le _) hP hD hS (by rw [show oI (sEs (fun s => decide (sBn f n s n = nI v)) 0) = (-1) from rfl]; exact lv_sub hl [2, 3, 1, 0] rfl)
set_option maxRecDepth 100000 in
set_option maxHeartbeats 4000000 in
theorem c_X4_order_bad (l : Launch) (D : va_G) (cI cJ : ClassId) (a : Nat → Nat) (f : Nat → Int32) (σ : Nat → Nat → Int32) (x : Int32) (hb0 : ¬ ((nI 0 ≤ x ∧ x ≤ nI 9999))) : WR l yX4_order cX4_order 4 (some .int) 4 D cI cJ (MW cI a f σ) [.ref (a 0), .int x] (some (.int (-1000001))) (MW cI a f (va_up σ 4 (mFi (σ 4) 0))) := by
  refine WR.of (by decide) (Nat.le_of_ble_eq_true rfl) (fun p e s m below meth c ls A S hr hlk hK hP hD hS hA hl => ?_)
  obtain ⟨hx, hb, hml, hown, hU⟩ := id S
  have hl : lv_has ls 4 [(0, .ref (a 0)), (1, .int x)] := hl
  refine lv_iload_n hx hb dX4_order_0 rfl (lv_at hl 1 rfl) ?_
  refine lv_i2l hx hb dX4_order_1 rfl ?_
  refine lv_lconst (v := 0) hx hb dX4_order_2 (by decide) ?_
  refine lv_ldc2 (v := 9999) hx hb hown (hU _ mK_X4_178) dX4_order_3 ?_
  refine RO.callS S ks_X4_49 (c_X4_isIn l D cI cJ a f σ x (nI 0) (nI 9999)) hK hP ⟨Nat.le_of_ble_eq_true rfl, Nat.le_of_ble_eq_true rfl⟩ hl.1 rfl rfl (Nat.le_of_ble_eq_true rfl) (Nat.zero_le _) (Nat.zero_le _) dX4_order_6 ?_
  refine q_if_neB (tgt := 19) hx hb dX4_order_9 (by decide) (fun c_9 => ?_) (fun c_9 => ?_)
  · exact absurd (c_9) hb0
  · refine lv_aload_n hx hb dX4_order_12 rfl (lv_at hl 0 rfl) ?_
    refine lv_ldc (v := (-1000001)) hx hb hown (hU _ mK_X4_37) dX4_order_13 ?_
    refine WR.callV (w1 := MW cI a f (va_up σ 4 (mFi (σ 4) 0))) S kv_X4_39 (c_X4_fd0 l D cI cJ a f σ) hK hP hD hS hA ([]) ([]) rfl rfl MW_fst rfl ⟨Nat.le_of_ble_eq_true rfl, Nat.le_of_ble_eq_true rfl⟩ hl.1 rfl rfl (Nat.le_of_ble_eq_true rfl) (Nat.zero_le _) (Nat.zero_le _) dX4_order_15 (fun H locs hP hD hS => ?_)
    exact WR.iret S hr hlk hP hS (rfl) rfl dX4_order_18
set_option maxRecDepth 100000 in
set_option maxHeartbeats 4000000 in
theorem c_X4_blends_ok (l : Launch) (D : va_G) (cI cJ : ClassId) (a : Nat → Nat) (f : Nat → Int32) (σ : Nat → Nat → Int32) (v : Nat) (w : Nat) (n : Nat) (hw : Wk f n) (hv : v ≤ 9999) (hw9 : w ≤ 9999) : WR l yX4_blends cX4_blends 5 (some .int) 4 D cI cJ (MW cI a f σ) [.ref (a 0), .int (nI v), .int (nI w)] (some (.int (nI (cBl f n (nI v) (nI w))))) (MW cI a f σ) := by
  have h8 := hw.2.1
  have hp2 : 2 ^ n ≤ 256 := Nat.pow_le_pow_right (n := 2) (by decide) h8
  have hp1 : 1 ≤ 2 ^ n := Nat.one_le_two_pow
  refine WR.of (by decide) (Nat.le_of_ble_eq_true rfl) (fun p e s m below meth c ls A S hr hlk hK hP hD hS hA hl => ?_)
  obtain ⟨hx, hb, hml, hown, hU⟩ := id S
  have hl : lv_has ls 5 [(0, .ref (a 0)), (1, .int (nI v)), (2, .int (nI w))] := hl
  refine lv_iload_n hx hb dX4_blends_0 rfl (lv_at hl 1 rfl) ?_
  refine lv_i2l hx hb dX4_blends_1 rfl ?_
  refine lv_lconst (v := 0) hx hb dX4_blends_2 (by decide) ?_
  refine lv_ldc2 (v := 9999) hx hb hown (hU _ mK_X4_178) dX4_blends_3 ?_
  refine RO.callS S ks_X4_49 (c_X4_isIn l D cI cJ a f σ (nI v) (nI 0) (nI 9999)) hK hP ⟨Nat.le_of_ble_eq_true rfl, Nat.le_of_ble_eq_true rfl⟩ hl.1 rfl rfl (Nat.le_of_ble_eq_true rfl) (Nat.zero_le _) (Nat.zero_le _) dX4_blends_6 ?_
  refine q_if_eqB (tgt := 24) hx hb dX4_blends_9 (by decide) (fun h => absurd (⟨nI_le (by omega) (by omega), nI_le (by omega) (by omega)⟩) h) (fun _ => ?_)
  refine lv_iload_n hx hb dX4_blends_12 rfl (lv_at hl 2 rfl) ?_
  refine lv_i2l hx hb dX4_blends_13 rfl ?_
  refine lv_lconst (v := 0) hx hb dX4_blends_14 (by decide) ?_
  refine lv_ldc2 (v := 9999) hx hb hown (hU _ mK_X4_178) dX4_blends_15 ?_
  refine RO.callS S ks_X4_49 (c_X4_isIn l D cI cJ a f σ (nI w) (nI 0) (nI 9999)) hK hP ⟨Nat.le_of_ble_eq_true rfl, Nat.le_of_ble_eq_true rfl⟩ hl.1 rfl rfl (Nat.le_of_ble_eq_true rfl) (Nat.zero_le _) (Nat.zero_le _) dX4_blends_18 ?_
  refine q_if_neB (tgt := 31) hx hb dX4_blends_21 (by decide) (fun _ => ?_) (fun h => absurd (⟨nI_le (by omega) (by omega), nI_le (by omega) (by omega)⟩) h)
  refine lv_iconst (v := nI 0) hx hb dX4_blends_31 (by decide) ?_
  refine lv_istore_n (lv' := [(3, .int (nI 0)), (0, .ref (a 0)), (1, .int (nI v)), (2, .int (nI w))]) hx hb dX4_blends_32 rfl hl (by decide) rfl (fun ls hl => ?_)
  refine lv_iconst (v := nI 0) hx hb dX4_blends_33 (by decide) ?_
  refine lv_istore (lv' := [(4, .int (nI 0)), (3, .int (nI 0)), (0, .ref (a 0)), (1, .int (nI v)), (2, .int (nI w))]) hx hb dX4_blends_34 hl (by decide) rfl (fun ls hl => ?_)
  have L_36 : ∀ (n9 : Nat) (j : Nat) (H : Heap) (locs : List Loc) (ls : Array Slot), 2 ^ n - j < n9 → (j ≤ 2 ^ n) → va_P D vwCl (MW cI a f σ) H → va_D A (MW cI a f σ) → va_S A s.heap H locs → lv_has ls 5 [(0, .ref (a 0)), (1, .int (nI v)), (2, .int (nI w)), (3, .int (nI (sCt (fun s => decide (nI v ≤ sBn f n s n ∧ sBn f n s n ≤ nI w)) j))), (4, .int (nI j))] → W p l e (rmd 4) s m ([.ref (a 0), .int (nI v), .int (nI w)] : List Value).toArray below meth c H locs 0 0 (ZW below ([.ref (a 0), .int (nI v), .int (nI w)] : List Value).toArray s D (some (.int (nI (cBl f n (nI v) (nI w))))) (MW cI a f σ) A) (F0 m 36 ls []) := by
    intro n9
    induction n9 with
    | zero => intro j H locs ls hmeas; exact absurd hmeas (Nat.not_lt_zero _)
    | succ n9 ih_36 =>
      intro j H locs ls hmeas hj hP hD hS hl
      have hcl := sCt_le (p := fun s => decide (nI v ≤ sBn f n s n ∧ sBn f n s n ≤ nI w)) (j := j)
      refine lv_iload hx hb dX4_blends_36 (lv_at hl 4 rfl) ?_
      refine lv_iconst (v := nI 1) hx hb dX4_blends_38 (by decide) ?_
      refine lv_aload_n hx hb dX4_blends_39 rfl (lv_at hl 0 rfl) ?_
      refine g4_s S hK hP dX4_blends_40 ?_
      refine lv_iconst (v := nI 0) hx hb dX4_blends_43 (by decide) ?_
      refine l4_s S hK hP (j := 0) (by omega) dX4_blends_44 ?_
      refine q_eqi (y := nI n) (hw.1) ?_
      refine lv_ishl hx hb dX4_blends_45 ?_
      refine q_eqi (y := nI (2 ^ n)) (nI_shl1 _ (by omega)) ?_
      refine q_icmp_geN (tgt := 80) (a := j) (b := 2 ^ n) hx hb dX4_blends_46 (by decide) (by omega) (by omega) (fun c_46 => ?_) (fun c_46 => ?_)
      · refine lv_iload_n hx hb dX4_blends_80 rfl (lv_at hl 3 rfl) ?_
        exact WR.iret S hr hlk hP hS (rfl) (congrArg (fun z => some (Value.int z)) (by rw [show j = 2 ^ n by omega]; rfl)) dX4_blends_81
      · refine lv_iload_n hx hb dX4_blends_49 rfl (lv_at hl 3 rfl) ?_
        refine lv_aload_n hx hb dX4_blends_50 rfl (lv_at hl 0 rfl) ?_
        refine lv_iload hx hb dX4_blends_51 (lv_at hl 4 rfl) ?_
        refine RO.callV S kv_X4_175 (c_X4_blendOf l D cI cJ a f σ j n (hw) (by omega)) hK hP rfl ⟨Nat.le_of_ble_eq_true rfl, Nat.le_of_ble_eq_true rfl⟩ hl.1 rfl rfl (Nat.le_of_ble_eq_true rfl) (Nat.zero_le _) (Nat.zero_le _) dX4_blends_53 ?_
        refine lv_i2l hx hb dX4_blends_56 rfl ?_
        refine lv_iload_n hx hb dX4_blends_57 rfl (lv_at hl 1 rfl) ?_
        refine lv_i2l hx hb dX4_blends_58 rfl ?_
        refine lv_iload_n hx hb dX4_blends_59 rfl (lv_at hl 2 rfl) ?_
        refine lv_i2l hx hb dX4_blends_60 rfl ?_
        refine RO.callS S ks_X4_49 (c_X4_isIn l D cI cJ a f σ (sBn f n j n) (nI v) (nI w)) hK hP ⟨Nat.le_of_ble_eq_true rfl, Nat.le_of_ble_eq_true rfl⟩ hl.1 rfl rfl (Nat.le_of_ble_eq_true rfl) (Nat.zero_le _) (Nat.zero_le _) dX4_blends_61 ?_
        refine q_if_eqB (tgt := 71) hx hb dX4_blends_64 (by decide) (fun c_64 => ?_) (fun c_64 => ?_)
        · refine lv_iconst (v := nI 0) hx hb dX4_blends_71 (by decide) ?_
          refine q_iaddN (a := sCt (fun s => decide (nI v ≤ sBn f n s n ∧ sBn f n s n ≤ nI w)) j) (b := 0) hx hb dX4_blends_72 ?_
          refine lv_istore_n (lv' := [(3, .int (nI ((sCt (fun s => decide (nI v ≤ sBn f n s n ∧ sBn f n s n ≤ nI w)) j) + 0))), (0, .ref (a 0)), (1, .int (nI v)), (2, .int (nI w)), (4, .int (nI j))]) hx hb dX4_blends_73 rfl hl (by decide) rfl (fun ls hl => ?_)
          refine lv_iinc (v := nI (j + 1)) (lv' := [(4, .int (nI (j + 1))), (3, .int (nI ((sCt (fun s => decide (nI v ≤ sBn f n s n ∧ sBn f n s n ≤ nI w)) j) + 0))), (0, .ref (a 0)), (1, .int (nI v)), (2, .int (nI w))]) hx hb dX4_blends_74 hl (k := 4) rfl (q_inc _) (by decide) rfl (fun ls hl => ?_)
          refine lv_goto (tgt := 36) hx hb dX4_blends_77 (by decide) ?_
          exact ih_36 (j + 1) _ _ ls (by omega) (by omega) hP hD hS (by rw [show nI (sCt (fun s => decide (nI v ≤ sBn f n s n ∧ sBn f n s n ≤ nI w)) (j + 1)) = nI ((sCt (fun s => decide (nI v ≤ sBn f n s n ∧ sBn f n s n ≤ nI w)) j) + 0) from congrArg nI (sCt_0 (p := fun s => decide (nI v ≤ sBn f n s n ∧ sBn f n s n ≤ nI w)) (by simpa using c_64))]; exact lv_sub hl [2, 3, 4, 1, 0] rfl)
        · refine lv_iconst (v := nI 1) hx hb dX4_blends_67 (by decide) ?_
          refine lv_goto (tgt := 72) hx hb dX4_blends_68 (by decide) ?_
          refine q_iaddN (a := sCt (fun s => decide (nI v ≤ sBn f n s n ∧ sBn f n s n ≤ nI w)) j) (b := 1) hx hb dX4_blends_72 ?_
          refine lv_istore_n (lv' := [(3, .int (nI ((sCt (fun s => decide (nI v ≤ sBn f n s n ∧ sBn f n s n ≤ nI w)) j) + 1))), (0, .ref (a 0)), (1, .int (nI v)), (2, .int (nI w)), (4, .int (nI j))]) hx hb dX4_blends_73 rfl hl (by decide) rfl (fun ls hl => ?_)
          refine lv_iinc (v := nI (j + 1)) (lv' := [(4, .int (nI (j + 1))), (3, .int (nI ((sCt (fun s => decide (nI v ≤ sBn f n s n ∧ sBn f n s n ≤ nI w)) j) + 1))), (0, .ref (a 0)), (1, .int (nI v)), (2, .int (nI w))]) hx hb dX4_blends_74 hl (k := 4) rfl (q_inc _) (by decide) rfl (fun ls hl => ?_)
          refine lv_goto (tgt := 36) hx hb dX4_blends_77 (by decide) ?_
          exact ih_36 (j + 1) _ _ ls (by omega) (by omega) hP hD hS (by rw [show nI (sCt (fun s => decide (nI v ≤ sBn f n s n ∧ sBn f n s n ≤ nI w)) (j + 1)) = nI ((sCt (fun s => decide (nI v ≤ sBn f n s n ∧ sBn f n s n ≤ nI w)) j) + 1) from congrArg nI (sCt_1 (p := fun s => decide (nI v ≤ sBn f n s n ∧ sBn f n s n ≤ nI w)) (by simpa using c_64))]; exact lv_sub hl [2, 3, 4, 1, 0] rfl)
  exact L_36 ((2 ^ n - 0) + 1) 0 _ _ ls (Nat.lt_succ_self _) (Nat.zero_le _) hP hD hS (lv_sub hl [2, 3, 4, 1, 0] rfl)
set_option maxRecDepth 100000 in
set_option maxHeartbeats 4000000 in
theorem c_X4_blends_bad (l : Launch) (D : va_G) (cI cJ : ClassId) (a : Nat → Nat) (f : Nat → Int32) (σ : Nat → Nat → Int32) (x : Int32) (y : Int32) (hb0 : ¬ ((nI 0 ≤ x ∧ x ≤ nI 9999) ∧ (nI 0 ≤ y ∧ y ≤ nI 9999))) : WR l yX4_blends cX4_blends 5 (some .int) 4 D cI cJ (MW cI a f σ) [.ref (a 0), .int x, .int y] (some (.int (-1000001))) (MW cI a f (va_up σ 4 (mFi (σ 4) 0))) := by
  refine WR.of (by decide) (Nat.le_of_ble_eq_true rfl) (fun p e s m below meth c ls A S hr hlk hK hP hD hS hA hl => ?_)
  obtain ⟨hx, hb, hml, hown, hU⟩ := id S
  have hl : lv_has ls 5 [(0, .ref (a 0)), (1, .int x), (2, .int y)] := hl
  refine lv_iload_n hx hb dX4_blends_0 rfl (lv_at hl 1 rfl) ?_
  refine lv_i2l hx hb dX4_blends_1 rfl ?_
  refine lv_lconst (v := 0) hx hb dX4_blends_2 (by decide) ?_
  refine lv_ldc2 (v := 9999) hx hb hown (hU _ mK_X4_178) dX4_blends_3 ?_
  refine RO.callS S ks_X4_49 (c_X4_isIn l D cI cJ a f σ x (nI 0) (nI 9999)) hK hP ⟨Nat.le_of_ble_eq_true rfl, Nat.le_of_ble_eq_true rfl⟩ hl.1 rfl rfl (Nat.le_of_ble_eq_true rfl) (Nat.zero_le _) (Nat.zero_le _) dX4_blends_6 ?_
  refine q_if_eqB (tgt := 24) hx hb dX4_blends_9 (by decide) (fun c_9 => ?_) (fun c_9 => ?_)
  · refine lv_aload_n hx hb dX4_blends_24 rfl (lv_at hl 0 rfl) ?_
    refine lv_ldc (v := (-1000001)) hx hb hown (hU _ mK_X4_37) dX4_blends_25 ?_
    refine WR.callV (w1 := MW cI a f (va_up σ 4 (mFi (σ 4) 0))) S kv_X4_39 (c_X4_fd0 l D cI cJ a f σ) hK hP hD hS hA ([]) ([]) rfl rfl MW_fst rfl ⟨Nat.le_of_ble_eq_true rfl, Nat.le_of_ble_eq_true rfl⟩ hl.1 rfl rfl (Nat.le_of_ble_eq_true rfl) (Nat.zero_le _) (Nat.zero_le _) dX4_blends_27 (fun H locs hP hD hS => ?_)
    exact WR.iret S hr hlk hP hS (rfl) rfl dX4_blends_30
  · refine lv_iload_n hx hb dX4_blends_12 rfl (lv_at hl 2 rfl) ?_
    refine lv_i2l hx hb dX4_blends_13 rfl ?_
    refine lv_lconst (v := 0) hx hb dX4_blends_14 (by decide) ?_
    refine lv_ldc2 (v := 9999) hx hb hown (hU _ mK_X4_178) dX4_blends_15 ?_
    refine RO.callS S ks_X4_49 (c_X4_isIn l D cI cJ a f σ y (nI 0) (nI 9999)) hK hP ⟨Nat.le_of_ble_eq_true rfl, Nat.le_of_ble_eq_true rfl⟩ hl.1 rfl rfl (Nat.le_of_ble_eq_true rfl) (Nat.zero_le _) (Nat.zero_le _) dX4_blends_18 ?_
    refine q_if_neB (tgt := 31) hx hb dX4_blends_21 (by decide) (fun c_21 => ?_) (fun c_21 => ?_)
    · exact absurd (⟨c_9, c_21⟩) hb0
    · refine lv_aload_n hx hb dX4_blends_24 rfl (lv_at hl 0 rfl) ?_
      refine lv_ldc (v := (-1000001)) hx hb hown (hU _ mK_X4_37) dX4_blends_25 ?_
      refine WR.callV (w1 := MW cI a f (va_up σ 4 (mFi (σ 4) 0))) S kv_X4_39 (c_X4_fd0 l D cI cJ a f σ) hK hP hD hS hA ([]) ([]) rfl rfl MW_fst rfl ⟨Nat.le_of_ble_eq_true rfl, Nat.le_of_ble_eq_true rfl⟩ hl.1 rfl rfl (Nat.le_of_ble_eq_true rfl) (Nat.zero_le _) (Nat.zero_le _) dX4_blends_27 (fun H locs hP hD hS => ?_)
      exact WR.iret S hr hlk hP hS (rfl) rfl dX4_blends_30
set_option maxRecDepth 100000 in
set_option maxHeartbeats 4000000 in
theorem c_X4_empty_ok (l : Launch) (D : va_G) (cI cJ : ClassId) (a : Nat → Nat) (f : Nat → Int32) (σ : Nat → Nat → Int32) (t : Nat) (n : Nat) (hw : Wk f n) (d : Nat) (hd : f 1 = nI d) (ht : t ≤ 12) (hd2 : d + 100 ≤ 99999) : WR l yX4_empty cX4_empty 6 (some .int) 6 D cI cJ (MW cI a f σ) [.ref (a 0), .int (nI t)] (some (.int (aN (oEm f n t)))) (MW cI a f (sgN (va_up σ 3 f) (oEm f n t))) := by
  have h8 := hw.2.1
  have hp2 : 2 ^ n ≤ 256 := Nat.pow_le_pow_right (n := 2) (by decide) h8
  have hp1 : 1 ≤ 2 ^ n := Nat.one_le_two_pow
  have hw0 := hw
  refine WR.of (by decide) (Nat.le_of_ble_eq_true rfl) (fun p e s m below meth c ls A S hr hlk hK hP hD hS hA hl => ?_)
  obtain ⟨hx, hb, hml, hown, hU⟩ := id S
  have hl : lv_has ls 6 [(0, .ref (a 0)), (1, .int (nI t))] := hl
  refine lv_iload_n hx hb dX4_empty_0 rfl (lv_at hl 1 rfl) ?_
  refine lv_i2l hx hb dX4_empty_1 rfl ?_
  refine lv_lconst (v := 0) hx hb dX4_empty_2 (by decide) ?_
  refine lv_ldc2 (v := 12) hx hb hown (hU _ mK_X4_173) dX4_empty_3 ?_
  refine RO.callS S ks_X4_49 (c_X4_isIn l D cI cJ a f σ (nI t) (nI 0) (nI 12)) hK hP ⟨Nat.le_of_ble_eq_true rfl, Nat.le_of_ble_eq_true rfl⟩ hl.1 rfl rfl (Nat.le_of_ble_eq_true rfl) (Nat.zero_le _) (Nat.zero_le _) dX4_empty_6 ?_
  refine q_if_neB (tgt := 19) hx hb dX4_empty_9 (by decide) (fun _ => ?_) (fun h => absurd (⟨nI_le (by omega) (by omega), nI_le (by omega) (by omega)⟩) h)
  refine lv_aload_n hx hb dX4_empty_19 rfl (lv_at hl 0 rfl) ?_
  refine g4_s S hK hP dX4_empty_20 ?_
  refine lv_iconst (v := nI 3) hx hb dX4_empty_23 (by decide) ?_
  refine l4_s S hK hP (j := 3) (by omega) dX4_empty_24 ?_
  refine lv_istore_n (lv' := [(2, .int (f 3)), (0, .ref (a 0)), (1, .int (nI t))]) hx hb dX4_empty_25 rfl hl (by decide) rfl (fun ls hl => ?_)
  refine lv_iconst (v := (-1)) hx hb dX4_empty_26 (by decide) ?_
  refine lv_istore_n (lv' := [(3, .int (-1)), (2, .int (f 3)), (0, .ref (a 0)), (1, .int (nI t))]) hx hb dX4_empty_27 rfl hl (by decide) rfl (fun ls hl => ?_)
  refine lv_aload_n hx hb dX4_empty_28 rfl (lv_at hl 2 rfl) ?_
  refine g4_s S hK hP dX4_empty_29 ?_
  refine lv_aload_n hx hb dX4_empty_32 rfl (lv_at hl 2 rfl) ?_
  refine g4_aside S hK hP dX4_empty_33 ?_
  refine WR.callS (w1 := MW cI a f (va_up σ 3 f)) S ks_X4_140 (c_X4_copyRow_s_aside l D cI cJ a f σ) hK hP hD hS hA ([]) ([]) rfl rfl MW_fst ⟨Nat.le_of_ble_eq_true rfl, Nat.le_of_ble_eq_true rfl⟩ hl.1 rfl rfl (Nat.le_of_ble_eq_true rfl) (Nat.zero_le _) (Nat.zero_le _) dX4_empty_36 (fun H locs hP hD hS => ?_)
  refine W.eq (g2 := F0 m 39 ls []) rfl ?_
  refine lv_iconst (v := nI 0) hx hb dX4_empty_39 (by decide) ?_
  refine lv_istore (lv' := [(4, .int (nI 0)), (3, .int (-1)), (2, .int (f 3)), (0, .ref (a 0)), (1, .int (nI t))]) hx hb dX4_empty_40 hl (by decide) rfl (fun ls hl => ?_)
  have L_42 : ∀ (n9 : Nat) (j : Nat) (H : Heap) (locs : List Loc) (ls : Array Slot), 2 ^ n - j < n9 → (j ≤ 2 ^ n) → va_P D vwCl (MW cI a f (va_up σ 3 f)) H → va_D A (MW cI a f (va_up σ 3 f)) → va_S A s.heap H locs → lv_has ls 6 [(0, .ref (a 0)), (1, .int (nI t)), (2, .int (f 3)), (3, .int (oI (sEs (fun s => decide (sGo (sMe f s n) n t 3 = f 3)) j))), (4, .int (nI j))] → W p l e (rmd 6) s m ([.ref (a 0), .int (nI t)] : List Value).toArray below meth c H locs 0 0 (ZW below ([.ref (a 0), .int (nI t)] : List Value).toArray s D (some (.int (aN (oEm f n t)))) (MW cI a f (sgN (va_up σ 3 f) (oEm f n t))) A) (F0 m 42 ls []) := by
    intro n9
    induction n9 with
    | zero => intro j H locs ls hmeas; exact absurd hmeas (Nat.not_lt_zero _)
    | succ n9 ih_42 =>
      intro j H locs ls hmeas hj hP hD hS hl
      cases hE : sEs (fun s => decide (sGo (sMe f s n) n t 3 = f 3)) j with
      | none =>
        have hl : lv_has ls 6 [(0, .ref (a 0)), (1, .int (nI t)), (2, .int (f 3)), (3, .int (-1)), (4, .int (nI j))] := by rw [hE] at hl; exact hl
        refine lv_iload hx hb dX4_empty_42 (lv_at hl 4 rfl) ?_
        refine lv_iconst (v := nI 1) hx hb dX4_empty_44 (by decide) ?_
        refine lv_aload_n hx hb dX4_empty_45 rfl (lv_at hl 0 rfl) ?_
        refine g4_s S hK hP dX4_empty_46 ?_
        refine lv_iconst (v := nI 0) hx hb dX4_empty_49 (by decide) ?_
        refine l4_s S hK hP (j := 0) (by omega) dX4_empty_50 ?_
        refine q_eqi (y := nI n) (hw.1) ?_
        refine lv_ishl hx hb dX4_empty_51 ?_
        refine q_eqi (y := nI (2 ^ n)) (nI_shl1 _ (by omega)) ?_
        refine q_icmp_geN (tgt := 196) (a := j) (b := 2 ^ n) hx hb dX4_empty_52 (by decide) (by omega) (by omega) (fun c_52 => ?_) (fun c_52 => ?_)
        · have hEn : oEm f n t = none := by rw [show j = 2 ^ n by omega] at hE; exact hE
          refine lv_aload_n hx hb dX4_empty_196 rfl (lv_at hl 0 rfl) ?_
          refine lv_iload_n hx hb dX4_empty_197 rfl (lv_at hl 3 rfl) ?_
          refine WR.callV (w1 := MW cI a f (va_up (va_up σ 3 f) 4 (mFi ((va_up σ 3 f) 4) 3))) S kv_X4_170 (c_X4_orNone_none l D cI cJ a f (va_up σ 3 f)) hK hP hD hS hA ([]) ([]) rfl rfl MW_fst rfl ⟨Nat.le_of_ble_eq_true rfl, Nat.le_of_ble_eq_true rfl⟩ hl.1 rfl rfl (Nat.le_of_ble_eq_true rfl) (Nat.zero_le _) (Nat.zero_le _) dX4_empty_198 (fun H locs hP hD hS => ?_)
          exact WR.iret S hr hlk hP hS (by rw [hEn]; rfl) (congrArg (fun z => some (Value.int z)) (by rw [hEn]; rfl)) dX4_empty_201
        · refine lv_iload_n hx hb dX4_empty_55 rfl (lv_at hl 3 rfl) ?_
          refine lv_if_lt (tgt := 71) hx hb dX4_empty_56 (by decide) (fun _ => ?_) (fun h => absurd (by decide) h)
          refine lv_iconst (v := nI 0) hx hb dX4_empty_71 (by decide) ?_
          refine lv_istore (lv' := [(5, .int (nI 0)), (0, .ref (a 0)), (1, .int (nI t)), (2, .int (f 3)), (3, .int (-1)), (4, .int (nI j))]) hx hb dX4_empty_72 hl (by decide) rfl (fun ls hl => ?_)
          have L_74 : ∀ (n9 : Nat) (i : Nat) (H : Heap) (locs : List Loc) (ls : Array Slot), n - i < n9 → (i ≤ n) → (Wk (sMe f j i) n) → va_P D vwCl (MW cI a (sMe f j i) (va_up σ 3 f)) H → va_D A (MW cI a (sMe f j i) (va_up σ 3 f)) → va_S A s.heap H locs → lv_has ls 6 [(0, .ref (a 0)), (1, .int (nI t)), (2, .int (f 3)), (3, .int (-1)), (4, .int (nI j)), (5, .int (nI i))] → W p l e (rmd 6) s m ([.ref (a 0), .int (nI t)] : List Value).toArray below meth c H locs 0 0 (ZW below ([.ref (a 0), .int (nI t)] : List Value).toArray s D (some (.int (aN (oEm f n t)))) (MW cI a f (sgN (va_up σ 3 f) (oEm f n t))) A) (F0 m 74 ls []) := by
            intro n9
            induction n9 with
            | zero => intro i H locs ls hmeas; exact absurd hmeas (Nat.not_lt_zero _)
            | succ n9 ih_74 =>
              intro i H locs ls hmeas hi hw hP hD hS hl
              have hdv : j / 2 ^ i < 2147483648 := Nat.lt_of_le_of_lt (Nat.div_le_self _ _) (by omega)
              refine lv_iload hx hb dX4_empty_74 (lv_at hl 5 rfl) ?_
              refine lv_aload_n hx hb dX4_empty_76 rfl (lv_at hl 0 rfl) ?_
              refine g4_s S hK hP dX4_empty_77 ?_
              refine lv_iconst (v := nI 0) hx hb dX4_empty_80 (by decide) ?_
              refine l4_s S hK hP (j := 0) (by omega) dX4_empty_81 ?_
              refine q_eqi (y := nI n) (hw.1) ?_
              refine q_icmp_geN (tgt := 157) (a := i) (b := n) hx hb dX4_empty_82 (by decide) (by omega) (by omega) (fun c_82 => ?_) (fun c_82 => ?_)
              · rw [show i = n by omega] at hP hD
                refine lv_aload_n hx hb dX4_empty_157 rfl (lv_at hl 0 rfl) ?_
                refine lv_iload_n hx hb dX4_empty_158 rfl (lv_at hl 1 rfl) ?_
                refine WR.callV (w1 := MW cI a (sGo (sMe f j n) n t) (va_up σ 3 f)) S kv_X4_125 (c_X4_goes l D cI cJ a (sMe f j n) (va_up σ 3 f) t n (hw0.kp (sMe_kp h8)) d ((sMe_kp h8).d.trans hd) (by omega)) hK hP hD hS hA ([]) ([]) rfl rfl MW_fst rfl ⟨Nat.le_of_ble_eq_true rfl, Nat.le_of_ble_eq_true rfl⟩ hl.1 rfl rfl (Nat.le_of_ble_eq_true rfl) (Nat.zero_le _) (Nat.zero_le _) dX4_empty_159 (fun H locs hP hD hS => ?_)
                refine W.eq (g2 := F0 m 162 ls []) rfl ?_
                refine lv_aload_n hx hb dX4_empty_162 rfl (lv_at hl 0 rfl) ?_
                refine g4_s S hK hP dX4_empty_163 ?_
                refine lv_iconst (v := nI 3) hx hb dX4_empty_166 (by decide) ?_
                refine l4_s S hK hP (j := 3) (by omega) dX4_empty_167 ?_
                refine lv_iload_n hx hb dX4_empty_168 rfl (lv_at hl 2 rfl) ?_
                refine lv_icmp_ne (tgt := 177) hx hb dX4_empty_169 (by decide) (fun c_169 => ?_) (fun c_169 => ?_)
                · refine lv_iload_n hx hb dX4_empty_177 rfl (lv_at hl 3 rfl) ?_
                  refine lv_istore_n (lv' := [(3, .int (-1)), (0, .ref (a 0)), (1, .int (nI t)), (2, .int (f 3)), (4, .int (nI j)), (5, .int (nI i))]) hx hb dX4_empty_178 rfl hl (by decide) rfl (fun ls hl => ?_)
                  refine lv_aload_n hx hb dX4_empty_179 rfl (lv_at hl 1 rfl) ?_
                  refine g4_aside S hK hP dX4_empty_180 ?_
                  refine lv_aload_n hx hb dX4_empty_183 rfl (lv_at hl 1 rfl) ?_
                  refine g4_s S hK hP dX4_empty_184 ?_
                  refine WR.callS (w1 := MW cI a f (va_up σ 3 f)) S ks_X4_140 (c_X4_copyRow_aside_s l D cI cJ a (sGo (sMe f j n) n t) (va_up σ 3 f)) hK hP hD hS hA ([]) ([]) rfl rfl MW_fst ⟨Nat.le_of_ble_eq_true rfl, Nat.le_of_ble_eq_true rfl⟩ hl.1 rfl rfl (Nat.le_of_ble_eq_true rfl) (Nat.zero_le _) (Nat.zero_le _) dX4_empty_187 (fun H locs hP hD hS => ?_)
                  refine W.eq (g2 := F0 m 190 ls []) rfl ?_
                  refine lv_iinc (v := nI (j + 1)) (lv' := [(4, .int (nI (j + 1))), (3, .int (-1)), (0, .ref (a 0)), (1, .int (nI t)), (2, .int (f 3)), (5, .int (nI i))]) hx hb dX4_empty_190 hl (k := 4) rfl (q_inc _) (by decide) rfl (fun ls hl => ?_)
                  refine lv_goto (tgt := 42) hx hb dX4_empty_193 (by decide) ?_
                  exact ih_42 (j + 1) _ _ ls (by omega) (by omega) hP hD hS (by rw [show oI (sEs (fun s => decide (sGo (sMe f s n) n t 3 = f 3)) (j + 1)) = (-1) from by rw [sEs_n0 hE (by simpa using c_169)]; rfl]; exact lv_sub hl [2, 3, 4, 1, 0] rfl)
                · refine lv_iload hx hb dX4_empty_172 (lv_at hl 4 rfl) ?_
                  refine lv_goto (tgt := 178) hx hb dX4_empty_174 (by decide) ?_
                  refine lv_istore_n (lv' := [(3, .int (nI j)), (0, .ref (a 0)), (1, .int (nI t)), (2, .int (f 3)), (4, .int (nI j)), (5, .int (nI i))]) hx hb dX4_empty_178 rfl hl (by decide) rfl (fun ls hl => ?_)
                  refine lv_aload_n hx hb dX4_empty_179 rfl (lv_at hl 1 rfl) ?_
                  refine g4_aside S hK hP dX4_empty_180 ?_
                  refine lv_aload_n hx hb dX4_empty_183 rfl (lv_at hl 1 rfl) ?_
                  refine g4_s S hK hP dX4_empty_184 ?_
                  refine WR.callS (w1 := MW cI a f (va_up σ 3 f)) S ks_X4_140 (c_X4_copyRow_aside_s l D cI cJ a (sGo (sMe f j n) n t) (va_up σ 3 f)) hK hP hD hS hA ([]) ([]) rfl rfl MW_fst ⟨Nat.le_of_ble_eq_true rfl, Nat.le_of_ble_eq_true rfl⟩ hl.1 rfl rfl (Nat.le_of_ble_eq_true rfl) (Nat.zero_le _) (Nat.zero_le _) dX4_empty_187 (fun H locs hP hD hS => ?_)
                  refine W.eq (g2 := F0 m 190 ls []) rfl ?_
                  refine lv_iinc (v := nI (j + 1)) (lv' := [(4, .int (nI (j + 1))), (3, .int (nI j)), (0, .ref (a 0)), (1, .int (nI t)), (2, .int (f 3)), (5, .int (nI i))]) hx hb dX4_empty_190 hl (k := 4) rfl (q_inc _) (by decide) rfl (fun ls hl => ?_)
                  refine lv_goto (tgt := 42) hx hb dX4_empty_193 (by decide) ?_
                  exact ih_42 (j + 1) _ _ ls (by omega) (by omega) hP hD hS (by rw [show oI (sEs (fun s => decide (sGo (sMe f s n) n t 3 = f 3)) (j + 1)) = nI j from by rw [sEs_n1 hE (by simpa using c_169)]; rfl]; exact lv_sub hl [2, 3, 4, 1, 0] rfl)
              · refine lv_aload_n hx hb dX4_empty_85 rfl (lv_at hl 0 rfl) ?_
                refine g4_s S hK hP dX4_empty_86 ?_
                refine lv_iload hx hb dX4_empty_89 (lv_at hl 5 rfl) ?_
                refine lv_iconst (v := nI 2) hx hb dX4_empty_91 (by decide) ?_
                refine RO.callS S ks_X4_70 (c_X4_at l D cI cJ a (sMe f j i) (va_up σ 3 f) i 2) hK hP ⟨Nat.le_of_ble_eq_true rfl, Nat.le_of_ble_eq_true rfl⟩ hl.1 rfl rfl (Nat.le_of_ble_eq_true rfl) (Nat.zero_le _) (Nat.zero_le _) dX4_empty_92 ?_
                refine lv_iload hx hb dX4_empty_95 (lv_at hl 4 rfl) ?_
                refine lv_iload hx hb dX4_empty_97 (lv_at hl 5 rfl) ?_
                refine lv_ishr hx hb dX4_empty_99 ?_
                refine q_eqi (y := nI (j / 2 ^ i)) (nI_shr (by omega) (by omega)) ?_
                refine lv_iconst (v := nI 1) hx hb dX4_empty_100 (by decide) ?_
                refine lv_iand hx hb dX4_empty_101 ?_
                refine q_eqi (y := nI (j / 2 ^ i % 2)) (nI_and1 hdv) ?_
                refine lv_iconst (v := nI 1) hx hb dX4_empty_102 (by decide) ?_
                refine q_icmp_neN (tgt := 110) (a := j / 2 ^ i % 2) (b := 1) hx hb dX4_empty_103 (by decide) (by omega) (by omega) (fun c_103 => ?_) (fun c_103 => ?_)
                · refine lv_aload_n hx hb dX4_empty_110 rfl (lv_at hl 0 rfl) ?_
                  refine lv_iload hx hb dX4_empty_111 (lv_at hl 5 rfl) ?_
                  refine lv_iconst (v := nI 2) hx hb dX4_empty_113 (by decide) ?_
                  refine RO.callV S kv_X4_57 (c_X4_its l D cI cJ a (sMe f j i) (va_up σ 3 f) i 2 (by omega)) hK hP rfl ⟨Nat.le_of_ble_eq_true rfl, Nat.le_of_ble_eq_true rfl⟩ hl.1 rfl rfl (Nat.le_of_ble_eq_true rfl) (Nat.zero_le _) (Nat.zero_le _) dX4_empty_114 ?_
                  refine s4_s S hK hP hD hS (j := 16 + 7 * i + 2) (by omega) dX4_empty_117 (fun H locs hP hD hS => ?_)
                  refine lv_aload_n hx hb dX4_empty_118 rfl (lv_at hl 0 rfl) ?_
                  refine g4_s S hK hP dX4_empty_119 ?_
                  refine lv_iload hx hb dX4_empty_122 (lv_at hl 5 rfl) ?_
                  refine lv_iconst (v := nI 5) hx hb dX4_empty_124 (by decide) ?_
                  refine RO.callS S ks_X4_70 (c_X4_at l D cI cJ a (fu (sMe f j i) i 2 (fi (sMe f j i) i 2)) (va_up σ 3 f) i 5) hK hP ⟨Nat.le_of_ble_eq_true rfl, Nat.le_of_ble_eq_true rfl⟩ hl.1 rfl rfl (Nat.le_of_ble_eq_true rfl) (Nat.zero_le _) (Nat.zero_le _) dX4_empty_125 ?_
                  refine lv_iload hx hb dX4_empty_128 (lv_at hl 4 rfl) ?_
                  refine lv_iload hx hb dX4_empty_130 (lv_at hl 5 rfl) ?_
                  refine lv_ishr hx hb dX4_empty_132 ?_
                  refine q_eqi (y := nI (j / 2 ^ i)) (nI_shr (by omega) (by omega)) ?_
                  refine lv_iconst (v := nI 1) hx hb dX4_empty_133 (by decide) ?_
                  refine lv_iand hx hb dX4_empty_134 ?_
                  refine q_eqi (y := nI (j / 2 ^ i % 2)) (nI_and1 hdv) ?_
                  refine lv_iconst (v := nI 1) hx hb dX4_empty_135 (by decide) ?_
                  refine q_icmp_neN (tgt := 143) (a := j / 2 ^ i % 2) (b := 1) hx hb dX4_empty_136 (by decide) (by omega) (by omega) (fun c_136 => ?_) (fun c_136 => ?_)
                  · refine lv_aload_n hx hb dX4_empty_143 rfl (lv_at hl 0 rfl) ?_
                    refine lv_iload hx hb dX4_empty_144 (lv_at hl 5 rfl) ?_
                    refine lv_iconst (v := nI 5) hx hb dX4_empty_146 (by decide) ?_
                    refine RO.callV S kv_X4_57 (c_X4_its l D cI cJ a (fu (sMe f j i) i 2 (fi (sMe f j i) i 2)) (va_up σ 3 f) i 5 (by omega)) hK hP rfl ⟨Nat.le_of_ble_eq_true rfl, Nat.le_of_ble_eq_true rfl⟩ hl.1 rfl rfl (Nat.le_of_ble_eq_true rfl) (Nat.zero_le _) (Nat.zero_le _) dX4_empty_147 ?_
                    refine s4_s S hK hP hD hS (j := 16 + 7 * i + 5) (by omega) dX4_empty_150 (fun H locs hP hD hS => ?_)
                    refine lv_iinc (v := nI (i + 1)) (lv' := [(5, .int (nI (i + 1))), (0, .ref (a 0)), (1, .int (nI t)), (2, .int (f 3)), (3, .int (-1)), (4, .int (nI j))]) hx hb dX4_empty_151 hl (k := 5) rfl (q_inc _) (by decide) rfl (fun ls hl => ?_)
                    refine lv_goto (tgt := 74) hx hb dX4_empty_154 (by decide) ?_
                    have e1 : upd (sMe f j i) (16 + 7 * i + 2) (fi (sMe f j i) i 2) = sMe f j i := upd_self
                    have e2 : upd (sMe f j i) (16 + 7 * i + 5) (fi (sMe f j i) i 5) = sMe f j i := upd_self
                    have e3 : fu (sMe f j i) i 2 (fi (sMe f j i) i 2) = sMe f j i := upd_self
                    rw [e1, e3, e2] at hP hD
                    exact ih_74 (i + 1) _ _ ls (by omega) (by omega) (hw0.kp (sMe_kp (by omega))) (by rw [sMe_0 c_103]; exact hP) (by rw [sMe_0 c_103]; exact hD) hS (lv_sub hl [1, 2, 3, 4, 5, 0] rfl)
                  · exact absurd c_136 (by omega)
                · refine lv_iconst (v := nI 0) hx hb dX4_empty_106 (by decide) ?_
                  refine lv_goto (tgt := 117) hx hb dX4_empty_107 (by decide) ?_
                  refine s4_s S hK hP hD hS (j := 16 + 7 * i + 2) (by omega) dX4_empty_117 (fun H locs hP hD hS => ?_)
                  refine lv_aload_n hx hb dX4_empty_118 rfl (lv_at hl 0 rfl) ?_
                  refine g4_s S hK hP dX4_empty_119 ?_
                  refine lv_iload hx hb dX4_empty_122 (lv_at hl 5 rfl) ?_
                  refine lv_iconst (v := nI 5) hx hb dX4_empty_124 (by decide) ?_
                  refine RO.callS S ks_X4_70 (c_X4_at l D cI cJ a (fu (sMe f j i) i 2 (nI 0)) (va_up σ 3 f) i 5) hK hP ⟨Nat.le_of_ble_eq_true rfl, Nat.le_of_ble_eq_true rfl⟩ hl.1 rfl rfl (Nat.le_of_ble_eq_true rfl) (Nat.zero_le _) (Nat.zero_le _) dX4_empty_125 ?_
                  refine lv_iload hx hb dX4_empty_128 (lv_at hl 4 rfl) ?_
                  refine lv_iload hx hb dX4_empty_130 (lv_at hl 5 rfl) ?_
                  refine lv_ishr hx hb dX4_empty_132 ?_
                  refine q_eqi (y := nI (j / 2 ^ i)) (nI_shr (by omega) (by omega)) ?_
                  refine lv_iconst (v := nI 1) hx hb dX4_empty_133 (by decide) ?_
                  refine lv_iand hx hb dX4_empty_134 ?_
                  refine q_eqi (y := nI (j / 2 ^ i % 2)) (nI_and1 hdv) ?_
                  refine lv_iconst (v := nI 1) hx hb dX4_empty_135 (by decide) ?_
                  refine q_icmp_neN (tgt := 143) (a := j / 2 ^ i % 2) (b := 1) hx hb dX4_empty_136 (by decide) (by omega) (by omega) (fun c_136 => ?_) (fun c_136 => ?_)
                  · exact absurd c_136 (by omega)
                  · refine lv_iconst (v := nI 0) hx hb dX4_empty_139 (by decide) ?_
                    refine lv_goto (tgt := 150) hx hb dX4_empty_140 (by decide) ?_
                    refine s4_s S hK hP hD hS (j := 16 + 7 * i + 5) (by omega) dX4_empty_150 (fun H locs hP hD hS => ?_)
                    refine lv_iinc (v := nI (i + 1)) (lv' := [(5, .int (nI (i + 1))), (0, .ref (a 0)), (1, .int (nI t)), (2, .int (f 3)), (3, .int (-1)), (4, .int (nI j))]) hx hb dX4_empty_151 hl (k := 5) rfl (q_inc _) (by decide) rfl (fun ls hl => ?_)
                    refine lv_goto (tgt := 74) hx hb dX4_empty_154 (by decide) ?_
                    exact ih_74 (i + 1) _ _ ls (by omega) (by omega) (hw0.kp (sMe_kp (by omega))) (by rw [sMe_1 c_103]; exact hP) (by rw [sMe_1 c_103]; exact hD) hS (lv_sub hl [1, 2, 3, 4, 5, 0] rfl)
          exact L_74 ((n - 0) + 1) 0 _ _ ls (Nat.lt_succ_self _) (Nat.zero_le n) (hw0) hP hD hS (lv_sub hl [1, 2, 3, 4, 5, 0] rfl)
      | some b =>
        have hl : lv_has ls 6 [(0, .ref (a 0)), (1, .int (nI t)), (2, .int (f 3)), (3, .int (nI b)), (4, .int (nI j))] := by rw [hE] at hl; exact hl
        have hbj := sEs_lt hE
        have hq1 := popc_le j
        have hq2 := popc_le b
        refine lv_iload hx hb dX4_empty_42 (lv_at hl 4 rfl) ?_
        refine lv_iconst (v := nI 1) hx hb dX4_empty_44 (by decide) ?_
        refine lv_aload_n hx hb dX4_empty_45 rfl (lv_at hl 0 rfl) ?_
        refine g4_s S hK hP dX4_empty_46 ?_
        refine lv_iconst (v := nI 0) hx hb dX4_empty_49 (by decide) ?_
        refine l4_s S hK hP (j := 0) (by omega) dX4_empty_50 ?_
        refine q_eqi (y := nI n) (hw.1) ?_
        refine lv_ishl hx hb dX4_empty_51 ?_
        refine q_eqi (y := nI (2 ^ n)) (nI_shl1 _ (by omega)) ?_
        refine q_icmp_geN (tgt := 196) (a := j) (b := 2 ^ n) hx hb dX4_empty_52 (by decide) (by omega) (by omega) (fun c_52 => ?_) (fun c_52 => ?_)
        · have hEn : oEm f n t = some b := by rw [show j = 2 ^ n by omega] at hE; exact hE
          refine lv_aload_n hx hb dX4_empty_196 rfl (lv_at hl 0 rfl) ?_
          refine lv_iload_n hx hb dX4_empty_197 rfl (lv_at hl 3 rfl) ?_
          refine WR.callV (w1 := MW cI a f (va_up σ 3 f)) S kv_X4_170 (c_X4_orNone_some l D cI cJ a f (va_up σ 3 f) b (by omega)) hK hP hD hS hA ([]) ([]) rfl rfl MW_fst rfl ⟨Nat.le_of_ble_eq_true rfl, Nat.le_of_ble_eq_true rfl⟩ hl.1 rfl rfl (Nat.le_of_ble_eq_true rfl) (Nat.zero_le _) (Nat.zero_le _) dX4_empty_198 (fun H locs hP hD hS => ?_)
          exact WR.iret S hr hlk hP hS (by rw [hEn]; rfl) (congrArg (fun z => some (Value.int z)) (by rw [hEn]; rfl)) dX4_empty_201
        · refine lv_iload_n hx hb dX4_empty_55 rfl (lv_at hl 3 rfl) ?_
          refine q_if_ltN (tgt := 71) (a := b) hx hb dX4_empty_56 (by decide) (by omega) ?_
          refine lv_iload hx hb dX4_empty_59 (lv_at hl 4 rfl) ?_
          refine RO.callS S ks_X4_83 (c_X4_many l D cI cJ a f (va_up σ 3 f) j (by omega)) hK hP ⟨Nat.le_of_ble_eq_true rfl, Nat.le_of_ble_eq_true rfl⟩ hl.1 rfl rfl (Nat.le_of_ble_eq_true rfl) (Nat.zero_le _) (Nat.zero_le _) dX4_empty_61 ?_
          refine lv_iload_n hx hb dX4_empty_64 rfl (lv_at hl 3 rfl) ?_
          refine RO.callS S ks_X4_83 (c_X4_many l D cI cJ a f (va_up σ 3 f) b (by omega)) hK hP ⟨Nat.le_of_ble_eq_true rfl, Nat.le_of_ble_eq_true rfl⟩ hl.1 rfl rfl (Nat.le_of_ble_eq_true rfl) (Nat.zero_le _) (Nat.zero_le _) dX4_empty_65 ?_
          refine q_icmp_geN (tgt := 190) (a := popc j) (b := popc b) hx hb dX4_empty_68 (by decide) (by omega) (by omega) (fun c_68 => ?_) (fun c_68 => ?_)
          · refine lv_iinc (v := nI (j + 1)) (lv' := [(4, .int (nI (j + 1))), (0, .ref (a 0)), (1, .int (nI t)), (2, .int (f 3)), (3, .int (nI b))]) hx hb dX4_empty_190 hl (k := 4) rfl (q_inc _) (by decide) rfl (fun ls hl => ?_)
            refine lv_goto (tgt := 42) hx hb dX4_empty_193 (by decide) ?_
            exact ih_42 (j + 1) _ _ ls (by omega) (by omega) hP hD hS (by rw [show oI (sEs (fun s => decide (sGo (sMe f s n) n t 3 = f 3)) (j + 1)) = nI b from by rw [sEs_s0 hE (fun q => absurd q.1 (by omega))]; rfl]; exact lv_sub hl [1, 2, 3, 4, 0] rfl)
          · refine lv_iconst (v := nI 0) hx hb dX4_empty_71 (by decide) ?_
            refine lv_istore (lv' := [(5, .int (nI 0)), (0, .ref (a 0)), (1, .int (nI t)), (2, .int (f 3)), (3, .int (nI b)), (4, .int (nI j))]) hx hb dX4_empty_72 hl (by decide) rfl (fun ls hl => ?_)
            have L_74 : ∀ (n9 : Nat) (i : Nat) (H : Heap) (locs : List Loc) (ls : Array Slot), n - i < n9 → (i ≤ n) → (Wk (sMe f j i) n) → va_P D vwCl (MW cI a (sMe f j i) (va_up σ 3 f)) H → va_D A (MW cI a (sMe f j i) (va_up σ 3 f)) → va_S A s.heap H locs → lv_has ls 6 [(0, .ref (a 0)), (1, .int (nI t)), (2, .int (f 3)), (3, .int (nI b)), (4, .int (nI j)), (5, .int (nI i))] → W p l e (rmd 6) s m ([.ref (a 0), .int (nI t)] : List Value).toArray below meth c H locs 0 0 (ZW below ([.ref (a 0), .int (nI t)] : List Value).toArray s D (some (.int (aN (oEm f n t)))) (MW cI a f (sgN (va_up σ 3 f) (oEm f n t))) A) (F0 m 74 ls []) := by
              intro n9
              induction n9 with
              | zero => intro i H locs ls hmeas; exact absurd hmeas (Nat.not_lt_zero _)
              | succ n9 ih_74 =>
                intro i H locs ls hmeas hi hw hP hD hS hl
                have hdv : j / 2 ^ i < 2147483648 := Nat.lt_of_le_of_lt (Nat.div_le_self _ _) (by omega)
                refine lv_iload hx hb dX4_empty_74 (lv_at hl 5 rfl) ?_
                refine lv_aload_n hx hb dX4_empty_76 rfl (lv_at hl 0 rfl) ?_
                refine g4_s S hK hP dX4_empty_77 ?_
                refine lv_iconst (v := nI 0) hx hb dX4_empty_80 (by decide) ?_
                refine l4_s S hK hP (j := 0) (by omega) dX4_empty_81 ?_
                refine q_eqi (y := nI n) (hw.1) ?_
                refine q_icmp_geN (tgt := 157) (a := i) (b := n) hx hb dX4_empty_82 (by decide) (by omega) (by omega) (fun c_82 => ?_) (fun c_82 => ?_)
                · rw [show i = n by omega] at hP hD
                  refine lv_aload_n hx hb dX4_empty_157 rfl (lv_at hl 0 rfl) ?_
                  refine lv_iload_n hx hb dX4_empty_158 rfl (lv_at hl 1 rfl) ?_
                  refine WR.callV (w1 := MW cI a (sGo (sMe f j n) n t) (va_up σ 3 f)) S kv_X4_125 (c_X4_goes l D cI cJ a (sMe f j n) (va_up σ 3 f) t n (hw0.kp (sMe_kp h8)) d ((sMe_kp h8).d.trans hd) (by omega)) hK hP hD hS hA ([]) ([]) rfl rfl MW_fst rfl ⟨Nat.le_of_ble_eq_true rfl, Nat.le_of_ble_eq_true rfl⟩ hl.1 rfl rfl (Nat.le_of_ble_eq_true rfl) (Nat.zero_le _) (Nat.zero_le _) dX4_empty_159 (fun H locs hP hD hS => ?_)
                  refine W.eq (g2 := F0 m 162 ls []) rfl ?_
                  refine lv_aload_n hx hb dX4_empty_162 rfl (lv_at hl 0 rfl) ?_
                  refine g4_s S hK hP dX4_empty_163 ?_
                  refine lv_iconst (v := nI 3) hx hb dX4_empty_166 (by decide) ?_
                  refine l4_s S hK hP (j := 3) (by omega) dX4_empty_167 ?_
                  refine lv_iload_n hx hb dX4_empty_168 rfl (lv_at hl 2 rfl) ?_
                  refine lv_icmp_ne (tgt := 177) hx hb dX4_empty_169 (by decide) (fun c_169 => ?_) (fun c_169 => ?_)
                  · refine lv_iload_n hx hb dX4_empty_177 rfl (lv_at hl 3 rfl) ?_
                    refine lv_istore_n (lv' := [(3, .int (nI b)), (0, .ref (a 0)), (1, .int (nI t)), (2, .int (f 3)), (4, .int (nI j)), (5, .int (nI i))]) hx hb dX4_empty_178 rfl hl (by decide) rfl (fun ls hl => ?_)
                    refine lv_aload_n hx hb dX4_empty_179 rfl (lv_at hl 1 rfl) ?_
                    refine g4_aside S hK hP dX4_empty_180 ?_
                    refine lv_aload_n hx hb dX4_empty_183 rfl (lv_at hl 1 rfl) ?_
                    refine g4_s S hK hP dX4_empty_184 ?_
                    refine WR.callS (w1 := MW cI a f (va_up σ 3 f)) S ks_X4_140 (c_X4_copyRow_aside_s l D cI cJ a (sGo (sMe f j n) n t) (va_up σ 3 f)) hK hP hD hS hA ([]) ([]) rfl rfl MW_fst ⟨Nat.le_of_ble_eq_true rfl, Nat.le_of_ble_eq_true rfl⟩ hl.1 rfl rfl (Nat.le_of_ble_eq_true rfl) (Nat.zero_le _) (Nat.zero_le _) dX4_empty_187 (fun H locs hP hD hS => ?_)
                    refine W.eq (g2 := F0 m 190 ls []) rfl ?_
                    refine lv_iinc (v := nI (j + 1)) (lv' := [(4, .int (nI (j + 1))), (3, .int (nI b)), (0, .ref (a 0)), (1, .int (nI t)), (2, .int (f 3)), (5, .int (nI i))]) hx hb dX4_empty_190 hl (k := 4) rfl (q_inc _) (by decide) rfl (fun ls hl => ?_)
                    refine lv_goto (tgt := 42) hx hb dX4_empty_193 (by decide) ?_
                    exact ih_42 (j + 1) _ _ ls (by omega) (by omega) hP hD hS (by rw [show oI (sEs (fun s => decide (sGo (sMe f s n) n t 3 = f 3)) (j + 1)) = nI b from by rw [sEs_s0 hE (fun q => absurd q.2 (by simpa using c_169))]; rfl]; exact lv_sub hl [2, 3, 4, 1, 0] rfl)
                  · refine lv_iload hx hb dX4_empty_172 (lv_at hl 4 rfl) ?_
                    refine lv_goto (tgt := 178) hx hb dX4_empty_174 (by decide) ?_
                    refine lv_istore_n (lv' := [(3, .int (nI j)), (0, .ref (a 0)), (1, .int (nI t)), (2, .int (f 3)), (4, .int (nI j)), (5, .int (nI i))]) hx hb dX4_empty_178 rfl hl (by decide) rfl (fun ls hl => ?_)
                    refine lv_aload_n hx hb dX4_empty_179 rfl (lv_at hl 1 rfl) ?_
                    refine g4_aside S hK hP dX4_empty_180 ?_
                    refine lv_aload_n hx hb dX4_empty_183 rfl (lv_at hl 1 rfl) ?_
                    refine g4_s S hK hP dX4_empty_184 ?_
                    refine WR.callS (w1 := MW cI a f (va_up σ 3 f)) S ks_X4_140 (c_X4_copyRow_aside_s l D cI cJ a (sGo (sMe f j n) n t) (va_up σ 3 f)) hK hP hD hS hA ([]) ([]) rfl rfl MW_fst ⟨Nat.le_of_ble_eq_true rfl, Nat.le_of_ble_eq_true rfl⟩ hl.1 rfl rfl (Nat.le_of_ble_eq_true rfl) (Nat.zero_le _) (Nat.zero_le _) dX4_empty_187 (fun H locs hP hD hS => ?_)
                    refine W.eq (g2 := F0 m 190 ls []) rfl ?_
                    refine lv_iinc (v := nI (j + 1)) (lv' := [(4, .int (nI (j + 1))), (3, .int (nI j)), (0, .ref (a 0)), (1, .int (nI t)), (2, .int (f 3)), (5, .int (nI i))]) hx hb dX4_empty_190 hl (k := 4) rfl (q_inc _) (by decide) rfl (fun ls hl => ?_)
                    refine lv_goto (tgt := 42) hx hb dX4_empty_193 (by decide) ?_
                    exact ih_42 (j + 1) _ _ ls (by omega) (by omega) hP hD hS (by rw [show oI (sEs (fun s => decide (sGo (sMe f s n) n t 3 = f 3)) (j + 1)) = nI j from by rw [sEs_s1 hE (by omega) (by simpa using c_169)]; rfl]; exact lv_sub hl [2, 3, 4, 1, 0] rfl)
                · refine lv_aload_n hx hb dX4_empty_85 rfl (lv_at hl 0 rfl) ?_
                  refine g4_s S hK hP dX4_empty_86 ?_
                  refine lv_iload hx hb dX4_empty_89 (lv_at hl 5 rfl) ?_
                  refine lv_iconst (v := nI 2) hx hb dX4_empty_91 (by decide) ?_
                  refine RO.callS S ks_X4_70 (c_X4_at l D cI cJ a (sMe f j i) (va_up σ 3 f) i 2) hK hP ⟨Nat.le_of_ble_eq_true rfl, Nat.le_of_ble_eq_true rfl⟩ hl.1 rfl rfl (Nat.le_of_ble_eq_true rfl) (Nat.zero_le _) (Nat.zero_le _) dX4_empty_92 ?_
                  refine lv_iload hx hb dX4_empty_95 (lv_at hl 4 rfl) ?_
                  refine lv_iload hx hb dX4_empty_97 (lv_at hl 5 rfl) ?_
                  refine lv_ishr hx hb dX4_empty_99 ?_
                  refine q_eqi (y := nI (j / 2 ^ i)) (nI_shr (by omega) (by omega)) ?_
                  refine lv_iconst (v := nI 1) hx hb dX4_empty_100 (by decide) ?_
                  refine lv_iand hx hb dX4_empty_101 ?_
                  refine q_eqi (y := nI (j / 2 ^ i % 2)) (nI_and1 hdv) ?_
                  refine lv_iconst (v := nI 1) hx hb dX4_empty_102 (by decide) ?_
                  refine q_icmp_neN (tgt := 110) (a := j / 2 ^ i % 2) (b := 1) hx hb dX4_empty_103 (by decide) (by omega) (by omega) (fun c_103 => ?_) (fun c_103 => ?_)
                  · refine lv_aload_n hx hb dX4_empty_110 rfl (lv_at hl 0 rfl) ?_
                    refine lv_iload hx hb dX4_empty_111 (lv_at hl 5 rfl) ?_
                    refine lv_iconst (v := nI 2) hx hb dX4_empty_113 (by decide) ?_
                    refine RO.callV S kv_X4_57 (c_X4_its l D cI cJ a (sMe f j i) (va_up σ 3 f) i 2 (by omega)) hK hP rfl ⟨Nat.le_of_ble_eq_true rfl, Nat.le_of_ble_eq_true rfl⟩ hl.1 rfl rfl (Nat.le_of_ble_eq_true rfl) (Nat.zero_le _) (Nat.zero_le _) dX4_empty_114 ?_
                    refine s4_s S hK hP hD hS (j := 16 + 7 * i + 2) (by omega) dX4_empty_117 (fun H locs hP hD hS => ?_)
                    refine lv_aload_n hx hb dX4_empty_118 rfl (lv_at hl 0 rfl) ?_
                    refine g4_s S hK hP dX4_empty_119 ?_
                    refine lv_iload hx hb dX4_empty_122 (lv_at hl 5 rfl) ?_
                    refine lv_iconst (v := nI 5) hx hb dX4_empty_124 (by decide) ?_
                    refine RO.callS S ks_X4_70 (c_X4_at l D cI cJ a (fu (sMe f j i) i 2 (fi (sMe f j i) i 2)) (va_up σ 3 f) i 5) hK hP ⟨Nat.le_of_ble_eq_true rfl, Nat.le_of_ble_eq_true rfl⟩ hl.1 rfl rfl (Nat.le_of_ble_eq_true rfl) (Nat.zero_le _) (Nat.zero_le _) dX4_empty_125 ?_
                    refine lv_iload hx hb dX4_empty_128 (lv_at hl 4 rfl) ?_
                    refine lv_iload hx hb dX4_empty_130 (lv_at hl 5 rfl) ?_
                    refine lv_ishr hx hb dX4_empty_132 ?_
                    refine q_eqi (y := nI (j / 2 ^ i)) (nI_shr (by omega) (by omega)) ?_
                    refine lv_iconst (v := nI 1) hx hb dX4_empty_133 (by decide) ?_
                    refine lv_iand hx hb dX4_empty_134 ?_
                    refine q_eqi (y := nI (j / 2 ^ i % 2)) (nI_and1 hdv) ?_
                    refine lv_iconst (v := nI 1) hx hb dX4_empty_135 (by decide) ?_
                    refine q_icmp_neN (tgt := 143) (a := j / 2 ^ i % 2) (b := 1) hx hb dX4_empty_136 (by decide) (by omega) (by omega) (fun c_136 => ?_) (fun c_136 => ?_)
                    · refine lv_aload_n hx hb dX4_empty_143 rfl (lv_at hl 0 rfl) ?_
                      refine lv_iload hx hb dX4_empty_144 (lv_at hl 5 rfl) ?_
                      refine lv_iconst (v := nI 5) hx hb dX4_empty_146 (by decide) ?_
                      refine RO.callV S kv_X4_57 (c_X4_its l D cI cJ a (fu (sMe f j i) i 2 (fi (sMe f j i) i 2)) (va_up σ 3 f) i 5 (by omega)) hK hP rfl ⟨Nat.le_of_ble_eq_true rfl, Nat.le_of_ble_eq_true rfl⟩ hl.1 rfl rfl (Nat.le_of_ble_eq_true rfl) (Nat.zero_le _) (Nat.zero_le _) dX4_empty_147 ?_
                      refine s4_s S hK hP hD hS (j := 16 + 7 * i + 5) (by omega) dX4_empty_150 (fun H locs hP hD hS => ?_)
                      refine lv_iinc (v := nI (i + 1)) (lv' := [(5, .int (nI (i + 1))), (0, .ref (a 0)), (1, .int (nI t)), (2, .int (f 3)), (3, .int (nI b)), (4, .int (nI j))]) hx hb dX4_empty_151 hl (k := 5) rfl (q_inc _) (by decide) rfl (fun ls hl => ?_)
                      refine lv_goto (tgt := 74) hx hb dX4_empty_154 (by decide) ?_
                      have e1 : upd (sMe f j i) (16 + 7 * i + 2) (fi (sMe f j i) i 2) = sMe f j i := upd_self
                      have e2 : upd (sMe f j i) (16 + 7 * i + 5) (fi (sMe f j i) i 5) = sMe f j i := upd_self
                      have e3 : fu (sMe f j i) i 2 (fi (sMe f j i) i 2) = sMe f j i := upd_self
                      rw [e1, e3, e2] at hP hD
                      exact ih_74 (i + 1) _ _ ls (by omega) (by omega) (hw0.kp (sMe_kp (by omega))) (by rw [sMe_0 c_103]; exact hP) (by rw [sMe_0 c_103]; exact hD) hS (lv_sub hl [1, 2, 3, 4, 5, 0] rfl)
                    · exact absurd c_136 (by omega)
                  · refine lv_iconst (v := nI 0) hx hb dX4_empty_106 (by decide) ?_
                    refine lv_goto (tgt := 117) hx hb dX4_empty_107 (by decide) ?_
                    refine s4_s S hK hP hD hS (j := 16 + 7 * i + 2) (by omega) dX4_empty_117 (fun H locs hP hD hS => ?_)
                    refine lv_aload_n hx hb dX4_empty_118 rfl (lv_at hl 0 rfl) ?_
                    refine g4_s S hK hP dX4_empty_119 ?_
                    refine lv_iload hx hb dX4_empty_122 (lv_at hl 5 rfl) ?_
                    refine lv_iconst (v := nI 5) hx hb dX4_empty_124 (by decide) ?_
                    refine RO.callS S ks_X4_70 (c_X4_at l D cI cJ a (fu (sMe f j i) i 2 (nI 0)) (va_up σ 3 f) i 5) hK hP ⟨Nat.le_of_ble_eq_true rfl, Nat.le_of_ble_eq_true rfl⟩ hl.1 rfl rfl (Nat.le_of_ble_eq_true rfl) (Nat.zero_le _) (Nat.zero_le _) dX4_empty_125 ?_
                    refine lv_iload hx hb dX4_empty_128 (lv_at hl 4 rfl) ?_
                    refine lv_iload hx hb dX4_empty_130 (lv_at hl 5 rfl) ?_
                    refine lv_ishr hx hb dX4_empty_132 ?_
                    refine q_eqi (y := nI (j / 2 ^ i)) (nI_shr (by omega) (by omega)) ?_
                    refine lv_iconst (v := nI 1) hx hb dX4_empty_133 (by decide) ?_
                    refine lv_iand hx hb dX4_empty_134 ?_
                    refine q_eqi (y := nI (j / 2 ^ i % 2)) (nI_and1 hdv) ?_
                    refine lv_iconst (v := nI 1) hx hb dX4_empty_135 (by decide) ?_
                    refine q_icmp_neN (tgt := 143) (a := j / 2 ^ i % 2) (b := 1) hx hb dX4_empty_136 (by decide) (by omega) (by omega) (fun c_136 => ?_) (fun c_136 => ?_)
                    · exact absurd c_136 (by omega)
                    · refine lv_iconst (v := nI 0) hx hb dX4_empty_139 (by decide) ?_
                      refine lv_goto (tgt := 150) hx hb dX4_empty_140 (by decide) ?_
                      refine s4_s S hK hP hD hS (j := 16 + 7 * i + 5) (by omega) dX4_empty_150 (fun H locs hP hD hS => ?_)
                      refine lv_iinc (v := nI (i + 1)) (lv' := [(5, .int (nI (i + 1))), (0, .ref (a 0)), (1, .int (nI t)), (2, .int (f 3)), (3, .int (nI b)), (4, .int (nI j))]) hx hb dX4_empty_151 hl (k := 5) rfl (q_inc _) (by decide) rfl (fun ls hl => ?_)
                      refine lv_goto (tgt := 74) hx hb dX4_empty_154 (by decide) ?_
                      exact ih_74 (i + 1) _ _ ls (by omega) (by omega) (hw0.kp (sMe_kp (by omega))) (by rw [sMe_1 c_103]; exact hP) (by rw [sMe_1 c_103]; exact hD) hS (lv_sub hl [1, 2, 3, 4, 5, 0] rfl)
            exact L_74 ((n - 0) + 1) 0 _ _ ls (Nat.lt_succ_self _) (Nat.zero_le n) (hw0) hP hD hS (lv_sub hl [1, 2, 3, 4, 5, 0] rfl)
  exact L_42 ((2 ^ n - 0) + 1) 0 _ _ ls (Nat.lt_succ_self _) (Nat.zero_le _) hP hD hS (by rw [show oI (sEs (fun s => decide (sGo (sMe f s n) n t 3 = f 3)) 0) = (-1) from rfl]; exact lv_sub hl [3, 4, 2, 1, 0] rfl)
set_option maxRecDepth 100000 in
set_option maxHeartbeats 4000000 in
theorem c_X4_empty_bad (l : Launch) (D : va_G) (cI cJ : ClassId) (a : Nat → Nat) (f : Nat → Int32) (σ : Nat → Nat → Int32) (x : Int32) (hb0 : ¬ ((nI 0 ≤ x ∧ x ≤ nI 12))) : WR l yX4_empty cX4_empty 6 (some .int) 6 D cI cJ (MW cI a f σ) [.ref (a 0), .int x] (some (.int (-1000001))) (MW cI a f (va_up σ 4 (mFi (σ 4) 0))) := by
  refine WR.of (by decide) (Nat.le_of_ble_eq_true rfl) (fun p e s m below meth c ls A S hr hlk hK hP hD hS hA hl => ?_)
  obtain ⟨hx, hb, hml, hown, hU⟩ := id S
  have hl : lv_has ls 6 [(0, .ref (a 0)), (1, .int x)] := hl
  refine lv_iload_n hx hb dX4_empty_0 rfl (lv_at hl 1 rfl) ?_
  refine lv_i2l hx hb dX4_empty_1 rfl ?_
  refine lv_lconst (v := 0) hx hb dX4_empty_2 (by decide) ?_
  refine lv_ldc2 (v := 12) hx hb hown (hU _ mK_X4_173) dX4_empty_3 ?_
  refine RO.callS S ks_X4_49 (c_X4_isIn l D cI cJ a f σ x (nI 0) (nI 12)) hK hP ⟨Nat.le_of_ble_eq_true rfl, Nat.le_of_ble_eq_true rfl⟩ hl.1 rfl rfl (Nat.le_of_ble_eq_true rfl) (Nat.zero_le _) (Nat.zero_le _) dX4_empty_6 ?_
  refine q_if_neB (tgt := 19) hx hb dX4_empty_9 (by decide) (fun c_9 => ?_) (fun c_9 => ?_)
  · exact absurd (c_9) hb0
  · refine lv_aload_n hx hb dX4_empty_12 rfl (lv_at hl 0 rfl) ?_
    refine lv_ldc (v := (-1000001)) hx hb hown (hU _ mK_X4_37) dX4_empty_13 ?_
    refine WR.callV (w1 := MW cI a f (va_up σ 4 (mFi (σ 4) 0))) S kv_X4_39 (c_X4_fd0 l D cI cJ a f σ) hK hP hD hS hA ([]) ([]) rfl rfl MW_fst rfl ⟨Nat.le_of_ble_eq_true rfl, Nat.le_of_ble_eq_true rfl⟩ hl.1 rfl rfl (Nat.le_of_ble_eq_true rfl) (Nat.zero_le _) (Nat.zero_le _) dX4_empty_15 (fun H locs hP hD hS => ?_)
    exact WR.iret S hr hlk hP hS (rfl) rfl dX4_empty_18
set_option maxRecDepth 100000 in
set_option maxHeartbeats 4000000 in
theorem c_X4_draw (l : Launch) (D : va_G) (cI cJ : ClassId) (a : Nat → Nat) (f : Nat → Int32) (σ : Nat → Nat → Int32) : WR l yX4_draw cX4_draw 1 (some .int) 0 D cI cJ (MW cI a f σ) [.ref (a 0)] (some (.int (sDr f))) (MW cI a (sDz f) σ) := by
  refine WR.of (by decide) (Nat.le_of_ble_eq_true rfl) (fun p e s m below meth c ls A S hr hlk hK hP hD hS hA hl => ?_)
  obtain ⟨hx, hb, hml, hown, hU⟩ := id S
  have hl : lv_has ls 1 [(0, .ref (a 0))] := hl
  refine lv_aload_n hx hb dX4_draw_0 rfl (lv_at hl 0 rfl) ?_
  refine g4_s S hK hP dX4_draw_1 ?_
  refine lv_iconst (v := nI 2) hx hb dX4_draw_4 (by decide) ?_
  refine lv_aload_n hx hb dX4_draw_5 rfl (lv_at hl 0 rfl) ?_
  refine g4_s S hK hP dX4_draw_6 ?_
  refine lv_iconst (v := nI 2) hx hb dX4_draw_9 (by decide) ?_
  refine l4_s S hK hP (j := 2) (by omega) dX4_draw_10 ?_
  refine lv_ldc (v := nI 1103515245) hx hb hown (hU _ mK_X4_199) dX4_draw_11 ?_
  refine lv_imul hx hb dX4_draw_13 ?_
  refine lv_sipush (v := nI 12345) hx hb dX4_draw_14 (by decide) ?_
  refine lv_iadd hx hb dX4_draw_17 ?_
  refine s4_s S hK hP hD hS (j := 2) (by omega) dX4_draw_18 (fun H locs hP hD hS => ?_)
  refine lv_aload_n hx hb dX4_draw_19 rfl (lv_at hl 0 rfl) ?_
  refine g4_s S hK hP dX4_draw_20 ?_
  refine lv_iconst (v := nI 2) hx hb dX4_draw_23 (by decide) ?_
  refine l4_s S hK hP (j := 2) (by omega) dX4_draw_24 ?_
  refine lv_bipush (v := nI 8) hx hb dX4_draw_25 (by decide) ?_
  refine lv_iushr hx hb dX4_draw_27 rfl ?_
  exact WR.iret S hr hlk hP hS (rfl) rfl dX4_draw_28
set_option maxRecDepth 100000 in
set_option maxHeartbeats 4000000 in
theorem c_X4_storms_ok (l : Launch) (D : va_G) (cI cJ : ClassId) (a : Nat → Nat) (f : Nat → Int32) (σ : Nat → Nat → Int32) (t : Nat) (n : Nat) (hw : Wk f n) (d : Nat) (hd : f 1 = nI d) (ht1 : 1 ≤ t) (ht : t ≤ 20) (hd2 : d + 20 ≤ 99999) : WR l yX4_storms cX4_storms 4 (some .int) 5 D cI cJ (MW cI a f σ) [.ref (a 0), .int (nI t)] (some (.int (sSs f n t 3))) (MW cI a (sSs f n t) σ) := by
  have h8 := hw.2.1
  have hw0 := hw
  have hd0 := hd
  refine WR.of (by decide) (Nat.le_of_ble_eq_true rfl) (fun p e s m below meth c ls A S hr hlk hK hP hD hS hA hl => ?_)
  obtain ⟨hx, hb, hml, hown, hU⟩ := id S
  have hl : lv_has ls 4 [(0, .ref (a 0)), (1, .int (nI t))] := hl
  refine lv_iload_n hx hb dX4_storms_0 rfl (lv_at hl 1 rfl) ?_
  refine lv_i2l hx hb dX4_storms_1 rfl ?_
  refine lv_lconst (v := 1) hx hb dX4_storms_2 (by decide) ?_
  refine lv_ldc2 (v := 20) hx hb hown (hU _ mK_X4_168) dX4_storms_3 ?_
  refine RO.callS S ks_X4_49 (c_X4_isIn l D cI cJ a f σ (nI t) (nI 1) (nI 20)) hK hP ⟨Nat.le_of_ble_eq_true rfl, Nat.le_of_ble_eq_true rfl⟩ hl.1 rfl rfl (Nat.le_of_ble_eq_true rfl) (Nat.zero_le _) (Nat.zero_le _) dX4_storms_6 ?_
  refine q_if_neB (tgt := 19) hx hb dX4_storms_9 (by decide) (fun _ => ?_) (fun h => absurd (⟨nI_le (by omega) (by omega), nI_le (by omega) (by omega)⟩) h)
  refine lv_aload_n hx hb dX4_storms_19 rfl (lv_at hl 0 rfl) ?_
  refine g4_s S hK hP dX4_storms_20 ?_
  refine lv_iconst (v := nI 1) hx hb dX4_storms_23 (by decide) ?_
  refine l4_s S hK hP (j := 1) (by omega) dX4_storms_24 ?_
  refine q_eqi (y := nI d) (hd) ?_
  refine lv_iload_n hx hb dX4_storms_25 rfl (lv_at hl 1 rfl) ?_
  refine q_iaddN (a := d) (b := t) hx hb dX4_storms_26 ?_
  refine lv_ldc (v := nI 99999) hx hb hown (hU _ mK_X4_107) dX4_storms_27 ?_
  refine q_icmp_leN (tgt := 39) (a := d + t) (b := 99999) hx hb dX4_storms_29 (by decide) (by omega) (by omega) (fun _ => ?_) (fun h => absurd h (by omega))
  refine lv_iconst (v := nI 0) hx hb dX4_storms_39 (by decide) ?_
  refine lv_istore_n (lv' := [(2, .int (nI 0)), (0, .ref (a 0)), (1, .int (nI t))]) hx hb dX4_storms_40 rfl hl (by decide) rfl (fun ls hl => ?_)
  have L_41 : ∀ (n9 : Nat) (j : Nat) (H : Heap) (locs : List Loc) (ls : Array Slot), t - j < n9 → (j ≤ t) → (Wk (sSs f n j) n) → (sSs f n j 1 = nI (d + j)) → va_P D vwCl (MW cI a (sSs f n j) σ) H → va_D A (MW cI a (sSs f n j) σ) → va_S A s.heap H locs → lv_has ls 4 [(0, .ref (a 0)), (1, .int (nI t)), (2, .int (nI j))] → W p l e (rmd 5) s m ([.ref (a 0), .int (nI t)] : List Value).toArray below meth c H locs 0 0 (ZW below ([.ref (a 0), .int (nI t)] : List Value).toArray s D (some (.int (sSs f n t 3))) (MW cI a (sSs f n t) σ) A) (F0 m 41 ls []) := by
    intro n9
    induction n9 with
    | zero => intro j H locs ls hmeas; exact absurd hmeas (Nat.not_lt_zero _)
    | succ n9 ih_41 =>
      intro j H locs ls hmeas hj hw hd hP hD hS hl
      have hz1 := (sDr_n (sSs f n j)).2
      have hz2 := (sDr_n (sDz (sSs f n j))).2
      refine lv_iload_n hx hb dX4_storms_41 rfl (lv_at hl 2 rfl) ?_
      refine lv_iload_n hx hb dX4_storms_42 rfl (lv_at hl 1 rfl) ?_
      refine q_icmp_geN (tgt := 80) (a := j) (b := t) hx hb dX4_storms_43 (by decide) (by omega) (by omega) (fun c_43 => ?_) (fun c_43 => ?_)
      · refine lv_aload_n hx hb dX4_storms_80 rfl (lv_at hl 0 rfl) ?_
        refine g4_s S hK hP dX4_storms_81 ?_
        refine lv_iconst (v := nI 3) hx hb dX4_storms_84 (by decide) ?_
        refine l4_s S hK hP (j := 3) (by omega) dX4_storms_85 ?_
        exact WR.iret S hr hlk hP hS (by rw [show j = t by omega]) (congrArg (fun z => some (Value.int z)) (by rw [show j = t by omega])) dX4_storms_86
      · refine lv_aload_n hx hb dX4_storms_46 rfl (lv_at hl 0 rfl) ?_
        refine WR.callV (w1 := MW cI a (sDz (sSs f n j)) σ) S kv_X4_200 (c_X4_draw l D cI cJ a (sSs f n j) σ) hK hP hD hS hA ([]) ([]) rfl rfl MW_fst rfl ⟨Nat.le_of_ble_eq_true rfl, Nat.le_of_ble_eq_true rfl⟩ hl.1 rfl rfl (Nat.le_of_ble_eq_true rfl) (Nat.zero_le _) (Nat.zero_le _) dX4_storms_47 (fun H locs hP hD hS => ?_)
        refine q_eqi (y := nI (sDn (sSs f n j))) ((sDr_n (sSs f n j)).1) ?_
        refine lv_bipush (v := nI 6) hx hb dX4_storms_50 (by decide) ?_
        refine q_iremN (a := sDn (sSs f n j)) (b := 6) hx hb dX4_storms_52 (by omega) (by omega) (by omega) ?_
        refine lv_istore_n (lv' := [(3, .int (nI ((sDn (sSs f n j)) % 6))), (0, .ref (a 0)), (1, .int (nI t)), (2, .int (nI j))]) hx hb dX4_storms_53 rfl hl (by decide) rfl (fun ls hl => ?_)
        refine lv_aload_n hx hb dX4_storms_54 rfl (lv_at hl 1 rfl) ?_
        refine g4_s S hK hP dX4_storms_55 ?_
        refine lv_bipush (v := nI 10) hx hb dX4_storms_58 (by decide) ?_
        refine lv_iload_n hx hb dX4_storms_60 rfl (lv_at hl 0 rfl) ?_
        refine q_iaddN (a := 10) (b := (sDn (sSs f n j)) % 6) hx hb dX4_storms_61 ?_
        refine lv_aload_n hx hb dX4_storms_62 rfl (lv_at hl 1 rfl) ?_
        refine WR.callV (w1 := MW cI a (sDz (sDz (sSs f n j))) σ) S kv_X4_200 (c_X4_draw l D cI cJ a (sDz (sSs f n j)) σ) hK hP hD hS hA ([]) ([]) rfl rfl MW_fst rfl ⟨Nat.le_of_ble_eq_true rfl, Nat.le_of_ble_eq_true rfl⟩ hl.1 rfl rfl (Nat.le_of_ble_eq_true rfl) (Nat.zero_le _) (Nat.zero_le _) dX4_storms_63 (fun H locs hP hD hS => ?_)
        refine q_eqi (y := nI (sDn (sDz (sSs f n j)))) ((sDr_n (sDz (sSs f n j))).1) ?_
        refine lv_bipush (v := nI 100) hx hb dX4_storms_66 (by decide) ?_
        refine q_iremN (a := sDn (sDz (sSs f n j))) (b := 100) hx hb dX4_storms_68 (by omega) (by omega) (by omega) ?_
        refine s4_s S hK hP hD hS (j := 10 + ((sDn (sSs f n j)) % 6)) (by omega) dX4_storms_69 (fun H locs hP hD hS => ?_)
        refine lv_aload_n hx hb dX4_storms_70 rfl (lv_at hl 1 rfl) ?_
        refine WR.callV (w1 := MW cI a (sDy (sS1 (sSs f n j)) n) σ) S kv_X4_119 (c_X4_day l D cI cJ a (sS1 (sSs f n j)) σ n (hw.s1) (d + j) (sS1_1.trans hd) (by omega)) hK hP hD hS hA ([]) ([]) rfl rfl MW_fst rfl ⟨Nat.le_of_ble_eq_true rfl, Nat.le_of_ble_eq_true rfl⟩ hl.1 rfl rfl (Nat.le_of_ble_eq_true rfl) (Nat.zero_le _) (Nat.zero_le _) dX4_storms_71 (fun H locs hP hD hS => ?_)
        refine W.eq (g2 := F0 m 74 ls []) rfl ?_
        refine lv_iinc (v := nI (j + 1)) (lv' := [(2, .int (nI (j + 1))), (3, .int (nI ((sDn (sSs f n j)) % 6))), (0, .ref (a 0)), (1, .int (nI t))]) hx hb dX4_storms_74 hl (k := 3) rfl (q_inc _) (by decide) rfl (fun ls hl => ?_)
        refine lv_goto (tgt := 41) hx hb dX4_storms_77 (by decide) ?_
        exact ih_41 (j + 1) _ _ ls (by omega) (by omega) (hw0.ss) (sSs_1 h8 hd0) hP hD hS (lv_sub hl [2, 3, 0] rfl)
  exact L_41 ((t - 0) + 1) 0 _ _ ls (Nat.lt_succ_self _) (Nat.zero_le t) (hw) (hd) hP hD hS (lv_sub hl [1, 2, 0] rfl)
set_option maxRecDepth 100000 in
set_option maxHeartbeats 4000000 in
theorem c_X4_storms_bad (l : Launch) (D : va_G) (cI cJ : ClassId) (a : Nat → Nat) (f : Nat → Int32) (σ : Nat → Nat → Int32) (x : Int32) (hb0 : ¬ ((nI 1 ≤ x ∧ x ≤ nI 20))) : WR l yX4_storms cX4_storms 4 (some .int) 5 D cI cJ (MW cI a f σ) [.ref (a 0), .int x] (some (.int (-1000001))) (MW cI a f (va_up σ 4 (mFi (σ 4) 0))) := by
  refine WR.of (by decide) (Nat.le_of_ble_eq_true rfl) (fun p e s m below meth c ls A S hr hlk hK hP hD hS hA hl => ?_)
  obtain ⟨hx, hb, hml, hown, hU⟩ := id S
  have hl : lv_has ls 4 [(0, .ref (a 0)), (1, .int x)] := hl
  refine lv_iload_n hx hb dX4_storms_0 rfl (lv_at hl 1 rfl) ?_
  refine lv_i2l hx hb dX4_storms_1 rfl ?_
  refine lv_lconst (v := 1) hx hb dX4_storms_2 (by decide) ?_
  refine lv_ldc2 (v := 20) hx hb hown (hU _ mK_X4_168) dX4_storms_3 ?_
  refine RO.callS S ks_X4_49 (c_X4_isIn l D cI cJ a f σ x (nI 1) (nI 20)) hK hP ⟨Nat.le_of_ble_eq_true rfl, Nat.le_of_ble_eq_true rfl⟩ hl.1 rfl rfl (Nat.le_of_ble_eq_true rfl) (Nat.zero_le _) (Nat.zero_le _) dX4_storms_6 ?_
  refine q_if_neB (tgt := 19) hx hb dX4_storms_9 (by decide) (fun c_9 => ?_) (fun c_9 => ?_)
  · exact absurd (c_9) hb0
  · refine lv_aload_n hx hb dX4_storms_12 rfl (lv_at hl 0 rfl) ?_
    refine lv_ldc (v := (-1000001)) hx hb hown (hU _ mK_X4_37) dX4_storms_13 ?_
    refine WR.callV (w1 := MW cI a f (va_up σ 4 (mFi (σ 4) 0))) S kv_X4_39 (c_X4_fd0 l D cI cJ a f σ) hK hP hD hS hA ([]) ([]) rfl rfl MW_fst rfl ⟨Nat.le_of_ble_eq_true rfl, Nat.le_of_ble_eq_true rfl⟩ hl.1 rfl rfl (Nat.le_of_ble_eq_true rfl) (Nat.zero_le _) (Nat.zero_le _) dX4_storms_15 (fun H locs hP hD hS => ?_)
    exact WR.iret S hr hlk hP hS (rfl) rfl dX4_storms_18
set_option maxRecDepth 100000 in
set_option maxHeartbeats 4000000 in
theorem c_X4_seed_ok (l : Launch) (D : va_G) (cI cJ : ClassId) (a : Nat → Nat) (f : Nat → Int32) (σ : Nat → Nat → Int32) (v : Int32) : WR l yX4_seed cX4_seed 2 (some .int) 1 D cI cJ (MW cI a f σ) [.ref (a 0), .int v] (some (.int (f 2))) (MW cI a (upd f 2 v) σ) := by
  refine WR.of (by decide) (Nat.le_of_ble_eq_true rfl) (fun p e s m below meth c ls A S hr hlk hK hP hD hS hA hl => ?_)
  obtain ⟨hx, hb, hml, hown, hU⟩ := id S
  have hl : lv_has ls 2 [(0, .ref (a 0)), (1, .int v)] := hl
  refine lv_aload_n hx hb dX4_seed_0 rfl (lv_at hl 0 rfl) ?_
  refine lv_iconst (v := nI 2) hx hb dX4_seed_1 (by decide) ?_
  refine lv_iload_n hx hb dX4_seed_2 rfl (lv_at hl 1 rfl) ?_
  refine WR.callV (w1 := MW cI a (upd f 2 v) σ) S kv_X4_53 (c_X4_becomes l D cI cJ a f σ 2 v (by omega)) hK hP hD hS hA ([]) ([]) rfl rfl MW_fst rfl ⟨Nat.le_of_ble_eq_true rfl, Nat.le_of_ble_eq_true rfl⟩ hl.1 rfl rfl (Nat.le_of_ble_eq_true rfl) (Nat.zero_le _) (Nat.zero_le _) dX4_seed_3 (fun H locs hP hD hS => ?_)
  exact WR.iret S hr hlk hP hS (rfl) rfl dX4_seed_6
set_option maxRecDepth 100000 in
set_option maxHeartbeats 4000000 in
theorem c_X4_wants_bad (l : Launch) (D : va_G) (cI cJ : ClassId) (a : Nat → Nat) (f : Nat → Int32) (σ : Nat → Nat → Int32) (x : Int32) (hb0 : ¬ (nI 0 ≤ x ∧ x ≤ nI 3)) : RO l yX4_wants cX4_wants 2 (some .int) 1 D cI cJ (MW cI a f σ) [.ref (a 0), .int x] (.int (-1000001)) := by
  refine RO.of (by decide) (Nat.le_of_ble_eq_true rfl) (fun p e s m below meth c ls S hr hlk hK hP hl => ?_)
  obtain ⟨hx, hb, hml, hown, hU⟩ := id S
  have hl : lv_has ls 2 [(0, .ref (a 0)), (1, .int x)] := hl
  refine lv_iload_n hx hb dX4_wants_0 rfl (lv_at hl 1 rfl) ?_
  refine RO.callS S ks_X4_283 (c_X4_isSheet l D cI cJ a f σ x) hK hP ⟨Nat.le_of_ble_eq_true rfl, Nat.le_of_ble_eq_true rfl⟩ hl.1 rfl rfl (Nat.le_of_ble_eq_true rfl) (Nat.zero_le _) (Nat.zero_le _) dX4_wants_1 ?_
  refine q_if_neB (tgt := 12) hx hb dX4_wants_4 (by decide) (fun c_4 => ?_) (fun c_4 => ?_)
  · exact absurd (rg3 c_4) hb0
  · refine lv_ldc (v := (-1000001)) hx hb hown (hU _ mK_X4_37) dX4_wants_7 ?_
    refine lv_goto (tgt := 28) hx hb dX4_wants_9 (by decide) ?_
    exact RO.iret S hr hlk rfl dX4_wants_28
set_option maxRecDepth 100000 in
set_option maxHeartbeats 4000000 in
theorem c_X4_wants_miss (l : Launch) (D : va_G) (cI cJ : ClassId) (a : Nat → Nat) (f : Nat → Int32) (σ : Nat → Nat → Int32) (sh : Nat) (hsh : sh < 4) (hms : σ 6 sh < 0) : RO l yX4_wants cX4_wants 2 (some .int) 1 D cI cJ (MW cI a f σ) [.ref (a 0), .int (nI sh)] (.int (-1000006)) := by
  refine RO.of (by decide) (Nat.le_of_ble_eq_true rfl) (fun p e s m below meth c ls S hr hlk hK hP hl => ?_)
  obtain ⟨hx, hb, hml, hown, hU⟩ := id S
  have hl : lv_has ls 2 [(0, .ref (a 0)), (1, .int (nI sh))] := hl
  refine lv_iload_n hx hb dX4_wants_0 rfl (lv_at hl 1 rfl) ?_
  refine RO.callS S ks_X4_283 (c_X4_isSheet l D cI cJ a f σ (nI sh)) hK hP ⟨Nat.le_of_ble_eq_true rfl, Nat.le_of_ble_eq_true rfl⟩ hl.1 rfl rfl (Nat.le_of_ble_eq_true rfl) (Nat.zero_le _) (Nat.zero_le _) dX4_wants_1 ?_
  refine q_if_neB (tgt := 12) hx hb dX4_wants_4 (by decide) (fun _ => ?_) (fun h => absurd (⟨nI_pos' (by omega), nI_lt (by omega) (by decide)⟩) h)
  refine lv_aload_n hx hb dX4_wants_12 rfl (lv_at hl 0 rfl) ?_
  refine g4_bitsOf S hK hP dX4_wants_13 ?_
  refine lv_iload_n hx hb dX4_wants_16 rfl (lv_at hl 1 rfl) ?_
  refine l4_bitsOf S hK hP (j := sh) (by omega) dX4_wants_17 ?_
  refine lv_if_ge (tgt := 27) hx hb dX4_wants_18 (by decide) (fun c_18 => ?_) (fun c_18 => ?_)
  · exact absurd c_18 (i32_not_le_of_lt hms)
  · refine lv_ldcw (v := (-1000006)) hx hb hown (hU _ mK_X4_278) dX4_wants_21 ?_
    refine lv_goto (tgt := 28) hx hb dX4_wants_24 (by decide) ?_
    exact RO.iret S hr hlk rfl dX4_wants_28
set_option maxRecDepth 100000 in
set_option maxHeartbeats 4000000 in
theorem c_X4_wants_ok (l : Launch) (D : va_G) (cI cJ : ClassId) (a : Nat → Nat) (f : Nat → Int32) (σ : Nat → Nat → Int32) (sh : Nat) (hsh : sh < 4) (hms : ¬ σ 6 sh < 0) : RO l yX4_wants cX4_wants 2 (some .int) 1 D cI cJ (MW cI a f σ) [.ref (a 0), .int (nI sh)] (.int (nI 0)) := by
  refine RO.of (by decide) (Nat.le_of_ble_eq_true rfl) (fun p e s m below meth c ls S hr hlk hK hP hl => ?_)
  obtain ⟨hx, hb, hml, hown, hU⟩ := id S
  have hl : lv_has ls 2 [(0, .ref (a 0)), (1, .int (nI sh))] := hl
  refine lv_iload_n hx hb dX4_wants_0 rfl (lv_at hl 1 rfl) ?_
  refine RO.callS S ks_X4_283 (c_X4_isSheet l D cI cJ a f σ (nI sh)) hK hP ⟨Nat.le_of_ble_eq_true rfl, Nat.le_of_ble_eq_true rfl⟩ hl.1 rfl rfl (Nat.le_of_ble_eq_true rfl) (Nat.zero_le _) (Nat.zero_le _) dX4_wants_1 ?_
  refine q_if_neB (tgt := 12) hx hb dX4_wants_4 (by decide) (fun _ => ?_) (fun h => absurd (⟨nI_pos' (by omega), nI_lt (by omega) (by decide)⟩) h)
  refine lv_aload_n hx hb dX4_wants_12 rfl (lv_at hl 0 rfl) ?_
  refine g4_bitsOf S hK hP dX4_wants_13 ?_
  refine lv_iload_n hx hb dX4_wants_16 rfl (lv_at hl 1 rfl) ?_
  refine l4_bitsOf S hK hP (j := sh) (by omega) dX4_wants_17 ?_
  refine lv_if_ge (tgt := 27) hx hb dX4_wants_18 (by decide) (fun c_18 => ?_) (fun c_18 => ?_)
  · refine lv_iconst (v := nI 0) hx hb dX4_wants_27 (by decide) ?_
    exact RO.iret S hr hlk rfl dX4_wants_28
  · exact absurd (i32_le_of_not_lt hms) c_18
set_option maxRecDepth 100000 in
set_option maxHeartbeats 4000000 in
theorem c_X4_wantsFor_bad (l : Launch) (D : va_G) (cI cJ : ClassId) (a : Nat → Nat) (f : Nat → Int32) (σ : Nat → Nat → Int32) (x : Int32) (y : Int32) (hs0 : ¬ (nI 0 ≤ x ∧ x ≤ nI 3)) : RO l yX4_wantsFor cX4_wantsFor 3 (some .int) 2 D cI cJ (MW cI a f σ) [.ref (a 0), .int x, .int y] (.int (-1000001)) := by
  refine RO.of (by decide) (Nat.le_of_ble_eq_true rfl) (fun p e s m below meth c ls S hr hlk hK hP hl => ?_)
  obtain ⟨hx, hb, hml, hown, hU⟩ := id S
  have hl : lv_has ls 3 [(0, .ref (a 0)), (1, .int x), (2, .int y)] := hl
  refine lv_aload_n hx hb dX4_wantsFor_0 rfl (lv_at hl 0 rfl) ?_
  refine lv_iload_n hx hb dX4_wantsFor_1 rfl (lv_at hl 1 rfl) ?_
  refine RO.callV S kv_X4_190 (c_X4_wants_bad l D cI cJ a f σ x hs0) hK hP rfl ⟨Nat.le_of_ble_eq_true rfl, Nat.le_of_ble_eq_true rfl⟩ hl.1 rfl rfl (Nat.le_of_ble_eq_true rfl) (Nat.zero_le _) (Nat.zero_le _) dX4_wantsFor_2 ?_
  refine lv_if_eq (tgt := 16) hx hb dX4_wantsFor_5 (by decide) (fun h => absurd h (by decide)) (fun _ => ?_)
  refine lv_aload_n hx hb dX4_wantsFor_8 rfl (lv_at hl 0 rfl) ?_
  refine lv_iload_n hx hb dX4_wantsFor_9 rfl (lv_at hl 1 rfl) ?_
  refine RO.callV S kv_X4_190 (c_X4_wants_bad l D cI cJ a f σ x hs0) hK hP rfl ⟨Nat.le_of_ble_eq_true rfl, Nat.le_of_ble_eq_true rfl⟩ hl.1 rfl rfl (Nat.le_of_ble_eq_true rfl) (Nat.zero_le _) (Nat.zero_le _) dX4_wantsFor_10 ?_
  refine lv_goto (tgt := 30) hx hb dX4_wantsFor_13 (by decide) ?_
  exact RO.iret S hr hlk rfl dX4_wantsFor_30
set_option maxRecDepth 100000 in
set_option maxHeartbeats 4000000 in
theorem c_X4_wantsFor_miss (l : Launch) (D : va_G) (cI cJ : ClassId) (a : Nat → Nat) (f : Nat → Int32) (σ : Nat → Nat → Int32) (sh : Nat) (hsh : sh < 4) (y : Int32) (hms : σ 6 sh < 0) : RO l yX4_wantsFor cX4_wantsFor 3 (some .int) 2 D cI cJ (MW cI a f σ) [.ref (a 0), .int (nI sh), .int y] (.int (-1000006)) := by
  refine RO.of (by decide) (Nat.le_of_ble_eq_true rfl) (fun p e s m below meth c ls S hr hlk hK hP hl => ?_)
  obtain ⟨hx, hb, hml, hown, hU⟩ := id S
  have hl : lv_has ls 3 [(0, .ref (a 0)), (1, .int (nI sh)), (2, .int y)] := hl
  refine lv_aload_n hx hb dX4_wantsFor_0 rfl (lv_at hl 0 rfl) ?_
  refine lv_iload_n hx hb dX4_wantsFor_1 rfl (lv_at hl 1 rfl) ?_
  refine RO.callV S kv_X4_190 (c_X4_wants_miss l D cI cJ a f σ sh hsh hms) hK hP rfl ⟨Nat.le_of_ble_eq_true rfl, Nat.le_of_ble_eq_true rfl⟩ hl.1 rfl rfl (Nat.le_of_ble_eq_true rfl) (Nat.zero_le _) (Nat.zero_le _) dX4_wantsFor_2 ?_
  refine lv_if_eq (tgt := 16) hx hb dX4_wantsFor_5 (by decide) (fun h => absurd h (by decide)) (fun _ => ?_)
  refine lv_aload_n hx hb dX4_wantsFor_8 rfl (lv_at hl 0 rfl) ?_
  refine lv_iload_n hx hb dX4_wantsFor_9 rfl (lv_at hl 1 rfl) ?_
  refine RO.callV S kv_X4_190 (c_X4_wants_miss l D cI cJ a f σ sh hsh hms) hK hP rfl ⟨Nat.le_of_ble_eq_true rfl, Nat.le_of_ble_eq_true rfl⟩ hl.1 rfl rfl (Nat.le_of_ble_eq_true rfl) (Nat.zero_le _) (Nat.zero_le _) dX4_wantsFor_10 ?_
  refine lv_goto (tgt := 30) hx hb dX4_wantsFor_13 (by decide) ?_
  exact RO.iret S hr hlk rfl dX4_wantsFor_30
set_option maxRecDepth 100000 in
set_option maxHeartbeats 4000000 in
theorem c_X4_wantsFor_badc (l : Launch) (D : va_G) (cI cJ : ClassId) (a : Nat → Nat) (f : Nat → Int32) (σ : Nat → Nat → Int32) (sh : Nat) (hsh : sh < 4) (y : Int32) (hms : ¬ σ 6 sh < 0) (n : Nat) (hw : Wk f n) (hb0 : ¬ (0 ≤ y ∧ y < nI n)) : RO l yX4_wantsFor cX4_wantsFor 3 (some .int) 2 D cI cJ (MW cI a f σ) [.ref (a 0), .int (nI sh), .int y] (.int (-1000001)) := by
  refine RO.of (by decide) (Nat.le_of_ble_eq_true rfl) (fun p e s m below meth c ls S hr hlk hK hP hl => ?_)
  obtain ⟨hx, hb, hml, hown, hU⟩ := id S
  have hl : lv_has ls 3 [(0, .ref (a 0)), (1, .int (nI sh)), (2, .int y)] := hl
  refine lv_aload_n hx hb dX4_wantsFor_0 rfl (lv_at hl 0 rfl) ?_
  refine lv_iload_n hx hb dX4_wantsFor_1 rfl (lv_at hl 1 rfl) ?_
  refine RO.callV S kv_X4_190 (c_X4_wants_ok l D cI cJ a f σ sh hsh hms) hK hP rfl ⟨Nat.le_of_ble_eq_true rfl, Nat.le_of_ble_eq_true rfl⟩ hl.1 rfl rfl (Nat.le_of_ble_eq_true rfl) (Nat.zero_le _) (Nat.zero_le _) dX4_wantsFor_2 ?_
  refine q_if_eqN (tgt := 16) (a := 0) hx hb dX4_wantsFor_5 (by decide) (by omega) (fun _ => ?_) (fun h => absurd h (by omega))
  refine lv_aload_n hx hb dX4_wantsFor_16 rfl (lv_at hl 0 rfl) ?_
  refine lv_iload_n hx hb dX4_wantsFor_17 rfl (lv_at hl 2 rfl) ?_
  refine RO.callV S kv_X4_86 (c_X4_isCask l D cI cJ a f σ y n (hw.1)) hK hP rfl ⟨Nat.le_of_ble_eq_true rfl, Nat.le_of_ble_eq_true rfl⟩ hl.1 rfl rfl (Nat.le_of_ble_eq_true rfl) (Nat.zero_le _) (Nat.zero_le _) dX4_wantsFor_18 ?_
  refine q_if_eqB (tgt := 28) hx hb dX4_wantsFor_21 (by decide) (fun c_21 => ?_) (fun c_21 => ?_)
  · refine lv_ldc (v := (-1000001)) hx hb hown (hU _ mK_X4_37) dX4_wantsFor_28 ?_
    exact RO.iret S hr hlk rfl dX4_wantsFor_30
  · exact absurd (c_21) hb0
set_option maxRecDepth 100000 in
set_option maxHeartbeats 4000000 in
theorem c_X4_wantsFor_ok (l : Launch) (D : va_G) (cI cJ : ClassId) (a : Nat → Nat) (f : Nat → Int32) (σ : Nat → Nat → Int32) (sh : Nat) (hsh : sh < 4) (k : Nat) (hms : ¬ σ 6 sh < 0) (n : Nat) (hw : Wk f n) (hk : k < n) : RO l yX4_wantsFor cX4_wantsFor 3 (some .int) 2 D cI cJ (MW cI a f σ) [.ref (a 0), .int (nI sh), .int (nI k)] (.int (nI 0)) := by
  have h8 := hw.2.1
  refine RO.of (by decide) (Nat.le_of_ble_eq_true rfl) (fun p e s m below meth c ls S hr hlk hK hP hl => ?_)
  obtain ⟨hx, hb, hml, hown, hU⟩ := id S
  have hl : lv_has ls 3 [(0, .ref (a 0)), (1, .int (nI sh)), (2, .int (nI k))] := hl
  refine lv_aload_n hx hb dX4_wantsFor_0 rfl (lv_at hl 0 rfl) ?_
  refine lv_iload_n hx hb dX4_wantsFor_1 rfl (lv_at hl 1 rfl) ?_
  refine RO.callV S kv_X4_190 (c_X4_wants_ok l D cI cJ a f σ sh hsh hms) hK hP rfl ⟨Nat.le_of_ble_eq_true rfl, Nat.le_of_ble_eq_true rfl⟩ hl.1 rfl rfl (Nat.le_of_ble_eq_true rfl) (Nat.zero_le _) (Nat.zero_le _) dX4_wantsFor_2 ?_
  refine q_if_eqN (tgt := 16) (a := 0) hx hb dX4_wantsFor_5 (by decide) (by omega) (fun _ => ?_) (fun h => absurd h (by omega))
  refine lv_aload_n hx hb dX4_wantsFor_16 rfl (lv_at hl 0 rfl) ?_
  refine lv_iload_n hx hb dX4_wantsFor_17 rfl (lv_at hl 2 rfl) ?_
  refine RO.callV S kv_X4_86 (c_X4_isCask l D cI cJ a f σ (nI k) n (hw.1)) hK hP rfl ⟨Nat.le_of_ble_eq_true rfl, Nat.le_of_ble_eq_true rfl⟩ hl.1 rfl rfl (Nat.le_of_ble_eq_true rfl) (Nat.zero_le _) (Nat.zero_le _) dX4_wantsFor_18 ?_
  refine q_if_eqB (tgt := 28) hx hb dX4_wantsFor_21 (by decide) (fun h => absurd (⟨nI_pos' (by omega), nI_lt (by omega) (by omega)⟩) h) (fun _ => ?_)
  refine lv_iconst (v := nI 0) hx hb dX4_wantsFor_24 (by decide) ?_
  refine lv_goto (tgt := 30) hx hb dX4_wantsFor_25 (by decide) ?_
  exact RO.iret S hr hlk rfl dX4_wantsFor_30
set_option maxRecDepth 100000 in
set_option maxHeartbeats 4000000 in
theorem c_X4_isTold (l : Launch) (D : va_G) (cI cJ : ClassId) (a : Nat → Nat) (f : Nat → Int32) (σ : Nat → Nat → Int32) (sh : Nat) (hsh : sh < 4) (pl : Nat) (hpl : pl < 82) (sz : Nat) (hm : σ 7 sh = nI sz) (hm40 : sz ≤ 40) (n : Nat) (hw : Wk f n) (d : Nat) (hd : f 1 = nI d) (hd2 : d + 100 ≤ 99999) : WR l yX4_isTold cX4_isTold 6 (some .boolean) 5 D cI cJ (MW cI a f σ) [.ref (a 0), .int (nI sh), .int (nI pl)] (some (.int (bI (sTd (shR (σ 8) sh) pl f n sz = true)))) (MW cI a f (va_up σ 3 f)) := by
  have h8 := hw.2.1
  have hw0 := hw
  have hd0 := hd
  refine WR.of (by decide) (Nat.le_of_ble_eq_true rfl) (fun p e s m below meth c ls A S hr hlk hK hP hD hS hA hl => ?_)
  obtain ⟨hx, hb, hml, hown, hU⟩ := id S
  have hl : lv_has ls 6 [(0, .ref (a 0)), (1, .int (nI sh)), (2, .int (nI pl))] := hl
  refine lv_aload_n hx hb dX4_isTold_0 rfl (lv_at hl 0 rfl) ?_
  refine g4_s S hK hP dX4_isTold_1 ?_
  refine lv_aload_n hx hb dX4_isTold_4 rfl (lv_at hl 0 rfl) ?_
  refine g4_aside S hK hP dX4_isTold_5 ?_
  refine WR.callS (w1 := MW cI a f (va_up σ 3 f)) S ks_X4_140 (c_X4_copyRow_s_aside l D cI cJ a f σ) hK hP hD hS hA ([]) ([]) rfl rfl MW_fst ⟨Nat.le_of_ble_eq_true rfl, Nat.le_of_ble_eq_true rfl⟩ hl.1 rfl rfl (Nat.le_of_ble_eq_true rfl) (Nat.zero_le _) (Nat.zero_le _) dX4_isTold_8 (fun H locs hP hD hS => ?_)
  refine W.eq (g2 := F0 m 11 ls []) rfl ?_
  refine lv_iconst (v := nI 1) hx hb dX4_isTold_11 (by decide) ?_
  refine lv_istore_n (lv' := [(3, .int (nI 1)), (0, .ref (a 0)), (1, .int (nI sh)), (2, .int (nI pl))]) hx hb dX4_isTold_12 rfl hl (by decide) rfl (fun ls hl => ?_)
  refine lv_iconst (v := nI 0) hx hb dX4_isTold_13 (by decide) ?_
  refine lv_istore (lv' := [(4, .int (nI 0)), (3, .int (nI 1)), (0, .ref (a 0)), (1, .int (nI sh)), (2, .int (nI pl))]) hx hb dX4_isTold_14 hl (by decide) rfl (fun ls hl => ?_)
  have L_16 : ∀ (n9 : Nat) (k : Nat) (H : Heap) (locs : List Loc) (ls : Array Slot), sz - k < n9 → (k ≤ sz) → (Wk (sGo f n k) n) → (sGo f n k 1 = nI (d + k)) → va_P D vwCl (MW cI a (sGo f n k) (va_up σ 3 f)) H → va_D A (MW cI a (sGo f n k) (va_up σ 3 f)) → va_S A s.heap H locs → lv_has ls 6 [(0, .ref (a 0)), (1, .int (nI sh)), (2, .int (nI pl)), (3, .int (bI (sTd (shR (σ 8) sh) pl f n k = true))), (4, .int (nI k))] → W p l e (rmd 5) s m ([.ref (a 0), .int (nI sh), .int (nI pl)] : List Value).toArray below meth c H locs 0 0 (ZW below ([.ref (a 0), .int (nI sh), .int (nI pl)] : List Value).toArray s D (some (.int (bI (sTd (shR (σ 8) sh) pl f n sz = true)))) (MW cI a f (va_up σ 3 f)) A) (F0 m 16 ls []) := by
    intro n9
    induction n9 with
    | zero => intro k H locs ls hmeas; exact absurd hmeas (Nat.not_lt_zero _)
    | succ n9 ih_16 =>
      intro k H locs ls hmeas hk hw hd hP hD hS hl
      refine lv_iload hx hb dX4_isTold_16 (lv_at hl 4 rfl) ?_
      refine lv_aload_n hx hb dX4_isTold_18 rfl (lv_at hl 0 rfl) ?_
      refine g4_sizes S hK hP dX4_isTold_19 ?_
      refine lv_iload_n hx hb dX4_isTold_22 rfl (lv_at hl 1 rfl) ?_
      refine l4_sizes S hK hP (j := sh) (by omega) dX4_isTold_23 ?_
      refine q_eqi (y := nI sz) (hm) ?_
      refine q_icmp_geN (tgt := 78) (a := k) (b := sz) hx hb dX4_isTold_24 (by decide) (by omega) (by omega) (fun c_24 => ?_) (fun c_24 => ?_)
      · refine lv_aload_n hx hb dX4_isTold_78 rfl (lv_at hl 0 rfl) ?_
        refine g4_aside S hK hP dX4_isTold_79 ?_
        refine lv_aload_n hx hb dX4_isTold_82 rfl (lv_at hl 0 rfl) ?_
        refine g4_s S hK hP dX4_isTold_83 ?_
        refine WR.callS (w1 := MW cI a f (va_up σ 3 f)) S ks_X4_140 (c_X4_copyRow_aside_s l D cI cJ a (sGo f n k) (va_up σ 3 f)) hK hP hD hS hA ([]) ([]) rfl rfl MW_fst ⟨Nat.le_of_ble_eq_true rfl, Nat.le_of_ble_eq_true rfl⟩ hl.1 rfl rfl (Nat.le_of_ble_eq_true rfl) (Nat.zero_le _) (Nat.zero_le _) dX4_isTold_86 (fun H locs hP hD hS => ?_)
        refine W.eq (g2 := F0 m 89 ls []) rfl ?_
        refine lv_iload_n hx hb dX4_isTold_89 rfl (lv_at hl 3 rfl) ?_
        exact WR.zret S hr hlk hP hS (rfl) (by rw [show k = sz by omega]) dX4_isTold_90
      · refine lv_iload_n hx hb dX4_isTold_27 rfl (lv_at hl 3 rfl) ?_
        refine q_if_eqB (tgt := 78) hx hb dX4_isTold_28 (by decide) (fun c_28 => ?_) (fun c_28 => ?_)
        · refine lv_aload_n hx hb dX4_isTold_78 rfl (lv_at hl 0 rfl) ?_
          refine g4_aside S hK hP dX4_isTold_79 ?_
          refine lv_aload_n hx hb dX4_isTold_82 rfl (lv_at hl 0 rfl) ?_
          refine g4_s S hK hP dX4_isTold_83 ?_
          refine WR.callS (w1 := MW cI a f (va_up σ 3 f)) S ks_X4_140 (c_X4_copyRow_aside_s l D cI cJ a (sGo f n k) (va_up σ 3 f)) hK hP hD hS hA ([]) ([]) rfl rfl MW_fst ⟨Nat.le_of_ble_eq_true rfl, Nat.le_of_ble_eq_true rfl⟩ hl.1 rfl rfl (Nat.le_of_ble_eq_true rfl) (Nat.zero_le _) (Nat.zero_le _) dX4_isTold_86 (fun H locs hP hD hS => ?_)
          refine W.eq (g2 := F0 m 89 ls []) rfl ?_
          refine lv_iload_n hx hb dX4_isTold_89 rfl (lv_at hl 3 rfl) ?_
          exact WR.zret S hr hlk hP hS (rfl) ((bI_f (td_exit c_28 (by omega))).trans (bI_f c_28).symm) dX4_isTold_90
        · refine lv_aload_n hx hb dX4_isTold_31 rfl (lv_at hl 0 rfl) ?_
          refine g4_numbers S hK hP dX4_isTold_32 ?_
          refine lv_bipush (v := nI 40) hx hb dX4_isTold_35 (by decide) ?_
          refine lv_iload_n hx hb dX4_isTold_37 rfl (lv_at hl 1 rfl) ?_
          refine q_imulN (a := 40) (b := sh) hx hb dX4_isTold_38 ?_
          refine lv_iload hx hb dX4_isTold_39 (lv_at hl 4 rfl) ?_
          refine q_iaddN (a := 40 * sh) (b := k) hx hb dX4_isTold_41 ?_
          refine l4_numbers S hK hP (j := (40 * sh) + k) (by omega) dX4_isTold_42 ?_
          refine lv_istore (lv' := [(5, .int (((va_up σ 3 f) 8) ((40 * sh) + k))), (0, .ref (a 0)), (1, .int (nI sh)), (2, .int (nI pl)), (3, .int (bI (sTd (shR (σ 8) sh) pl f n k = true))), (4, .int (nI k))]) hx hb dX4_isTold_43 hl (by decide) rfl (fun ls hl => ?_)
          refine lv_iload hx hb dX4_isTold_45 (lv_at hl 0 rfl) ?_
          refine lv_iconst (v := (-1)) hx hb dX4_isTold_47 (by decide) ?_
          refine lv_icmp_eq (tgt := 62) hx hb dX4_isTold_48 (by decide) (fun c_48 => ?_) (fun c_48 => ?_)
          · refine lv_iconst (v := nI 1) hx hb dX4_isTold_62 (by decide) ?_
            refine lv_goto (tgt := 67) hx hb dX4_isTold_63 (by decide) ?_
            refine lv_istore_n (lv' := [(3, .int (nI 1)), (5, .int (((va_up σ 3 f) 8) ((40 * sh) + k))), (0, .ref (a 0)), (1, .int (nI sh)), (2, .int (nI pl)), (4, .int (nI k))]) hx hb dX4_isTold_67 rfl hl (by decide) rfl (fun ls hl => ?_)
            refine lv_aload_n hx hb dX4_isTold_68 rfl (lv_at hl 2 rfl) ?_
            refine WR.callV (w1 := MW cI a (sDy (sGo f n k) n) (va_up σ 3 f)) S kv_X4_119 (c_X4_day l D cI cJ a (sGo f n k) (va_up σ 3 f) n (hw) (d + k) (hd) (by omega)) hK hP hD hS hA ([]) ([]) rfl rfl MW_fst rfl ⟨Nat.le_of_ble_eq_true rfl, Nat.le_of_ble_eq_true rfl⟩ hl.1 rfl rfl (Nat.le_of_ble_eq_true rfl) (Nat.zero_le _) (Nat.zero_le _) dX4_isTold_69 (fun H locs hP hD hS => ?_)
            refine W.eq (g2 := F0 m 72 ls []) rfl ?_
            refine lv_iinc (v := nI (k + 1)) (lv' := [(4, .int (nI (k + 1))), (3, .int (nI 1)), (5, .int (((va_up σ 3 f) 8) ((40 * sh) + k))), (0, .ref (a 0)), (1, .int (nI sh)), (2, .int (nI pl))]) hx hb dX4_isTold_72 hl (k := 5) rfl (q_inc _) (by decide) rfl (fun ls hl => ?_)
            refine lv_goto (tgt := 16) hx hb dX4_isTold_75 (by decide) ?_
            exact ih_16 (k + 1) _ _ ls (by omega) (by omega) (hw0.kl (sGo_kl h8)) (sGo_1 h8 hd0) hP hD hS (by rw [show bI (sTd (shR (σ 8) sh) pl f n (k + 1) = true) = nI 1 from bI_t (sTd_1 c_28 (Or.inl c_48))]; exact lv_sub hl [3, 4, 5, 1, 0] rfl)
          · refine lv_iload hx hb dX4_isTold_51 (lv_at hl 0 rfl) ?_
            refine lv_aload_n hx hb dX4_isTold_53 rfl (lv_at hl 1 rfl) ?_
            refine g4_s S hK hP dX4_isTold_54 ?_
            refine lv_iload_n hx hb dX4_isTold_57 rfl (lv_at hl 3 rfl) ?_
            refine l4_s S hK hP (j := pl) (by omega) dX4_isTold_58 ?_
            refine lv_icmp_ne (tgt := 66) hx hb dX4_isTold_59 (by decide) (fun c_59 => ?_) (fun c_59 => ?_)
            · refine lv_iconst (v := nI 0) hx hb dX4_isTold_66 (by decide) ?_
              refine lv_istore_n (lv' := [(3, .int (nI 0)), (5, .int (((va_up σ 3 f) 8) ((40 * sh) + k))), (0, .ref (a 0)), (1, .int (nI sh)), (2, .int (nI pl)), (4, .int (nI k))]) hx hb dX4_isTold_67 rfl hl (by decide) rfl (fun ls hl => ?_)
              refine lv_aload_n hx hb dX4_isTold_68 rfl (lv_at hl 2 rfl) ?_
              refine WR.callV (w1 := MW cI a (sDy (sGo f n k) n) (va_up σ 3 f)) S kv_X4_119 (c_X4_day l D cI cJ a (sGo f n k) (va_up σ 3 f) n (hw) (d + k) (hd) (by omega)) hK hP hD hS hA ([]) ([]) rfl rfl MW_fst rfl ⟨Nat.le_of_ble_eq_true rfl, Nat.le_of_ble_eq_true rfl⟩ hl.1 rfl rfl (Nat.le_of_ble_eq_true rfl) (Nat.zero_le _) (Nat.zero_le _) dX4_isTold_69 (fun H locs hP hD hS => ?_)
              refine W.eq (g2 := F0 m 72 ls []) rfl ?_
              refine lv_iinc (v := nI (k + 1)) (lv' := [(4, .int (nI (k + 1))), (3, .int (nI 0)), (5, .int (((va_up σ 3 f) 8) ((40 * sh) + k))), (0, .ref (a 0)), (1, .int (nI sh)), (2, .int (nI pl))]) hx hb dX4_isTold_72 hl (k := 5) rfl (q_inc _) (by decide) rfl (fun ls hl => ?_)
              refine lv_goto (tgt := 16) hx hb dX4_isTold_75 (by decide) ?_
              exact ih_16 (k + 1) _ _ ls (by omega) (by omega) (hw0.kl (sGo_kl h8)) (sGo_1 h8 hd0) hP hD hS (by rw [show bI (sTd (shR (σ 8) sh) pl f n (k + 1) = true) = nI 0 from bI_f (by rw [sTd_0 (u := shR (σ 8) sh) (fun q => q.elim c_48 c_59)]; decide)]; exact lv_sub hl [3, 4, 5, 1, 0] rfl)
            · refine lv_iconst (v := nI 1) hx hb dX4_isTold_62 (by decide) ?_
              refine lv_goto (tgt := 67) hx hb dX4_isTold_63 (by decide) ?_
              refine lv_istore_n (lv' := [(3, .int (nI 1)), (5, .int (((va_up σ 3 f) 8) ((40 * sh) + k))), (0, .ref (a 0)), (1, .int (nI sh)), (2, .int (nI pl)), (4, .int (nI k))]) hx hb dX4_isTold_67 rfl hl (by decide) rfl (fun ls hl => ?_)
              refine lv_aload_n hx hb dX4_isTold_68 rfl (lv_at hl 2 rfl) ?_
              refine WR.callV (w1 := MW cI a (sDy (sGo f n k) n) (va_up σ 3 f)) S kv_X4_119 (c_X4_day l D cI cJ a (sGo f n k) (va_up σ 3 f) n (hw) (d + k) (hd) (by omega)) hK hP hD hS hA ([]) ([]) rfl rfl MW_fst rfl ⟨Nat.le_of_ble_eq_true rfl, Nat.le_of_ble_eq_true rfl⟩ hl.1 rfl rfl (Nat.le_of_ble_eq_true rfl) (Nat.zero_le _) (Nat.zero_le _) dX4_isTold_69 (fun H locs hP hD hS => ?_)
              refine W.eq (g2 := F0 m 72 ls []) rfl ?_
              refine lv_iinc (v := nI (k + 1)) (lv' := [(4, .int (nI (k + 1))), (3, .int (nI 1)), (5, .int (((va_up σ 3 f) 8) ((40 * sh) + k))), (0, .ref (a 0)), (1, .int (nI sh)), (2, .int (nI pl))]) hx hb dX4_isTold_72 hl (k := 5) rfl (q_inc _) (by decide) rfl (fun ls hl => ?_)
              refine lv_goto (tgt := 16) hx hb dX4_isTold_75 (by decide) ?_
              exact ih_16 (k + 1) _ _ ls (by omega) (by omega) (hw0.kl (sGo_kl h8)) (sGo_1 h8 hd0) hP hD hS (by rw [show bI (sTd (shR (σ 8) sh) pl f n (k + 1) = true) = nI 1 from bI_t (sTd_1 c_28 (Or.inr c_59))]; exact lv_sub hl [3, 4, 5, 1, 0] rfl)
  exact L_16 ((sz - 0) + 1) 0 _ _ ls (Nat.lt_succ_self _) (Nat.zero_le _) (hw) (hd) hP hD hS (by rw [show bI (sTd (shR (σ 8) sh) pl f n 0 = true) = nI 1 from bI_t rfl]; exact lv_sub hl [2, 3, 4, 1, 0] rfl)
set_option maxRecDepth 100000 in
set_option maxHeartbeats 4000000 in
theorem c_X4_findsFits (l : Launch) (D : va_G) (cI cJ : ClassId) (a : Nat → Nat) (f : Nat → Int32) (σ : Nat → Nat → Int32) (sh : Nat) (hsh : sh < 4) (k : Nat) (sz : Nat) (hm : σ 7 sh = nI sz) (hm40 : sz ≤ 40) (n : Nat) (hw : Wk f n) (d : Nat) (hd : f 1 = nI d) (hk : k < n) (hd2 : d + 100 ≤ 99999) : WR l yX4_findsFits cX4_findsFits 5 none 6 D cI cJ (MW cI a f σ) [.ref (a 0), .int (nI sh), .int (nI k)] (none) (MW cI a f (NF σ (fu f k 2 (nI 0)) (upd (upd (σ 9) 2 (nI (fcD (fun q7 => sTd (shR (σ 8) sh) 3 (fu f k 2 (nI q7)) n sz) 101).1)) 3 (olf (σ 9 3) (fcD (fun q7 => sTd (shR (σ 8) sh) 3 (fu f k 2 (nI q7)) n sz) 101).2)))) := by
  have h8 := hw.2.1
  refine WR.of (by decide) (Nat.le_of_ble_eq_true rfl) (fun p e s m below meth c ls A S hr hlk hK hP hD hS hA hl => ?_)
  obtain ⟨hx, hb, hml, hown, hU⟩ := id S
  have hl : lv_has ls 5 [(0, .ref (a 0)), (1, .int (nI sh)), (2, .int (nI k))] := hl
  refine lv_aload_n hx hb dX4_findsFits_0 rfl (lv_at hl 0 rfl) ?_
  refine lv_iload_n hx hb dX4_findsFits_1 rfl (lv_at hl 2 rfl) ?_
  refine lv_iconst (v := nI 2) hx hb dX4_findsFits_2 (by decide) ?_
  refine RO.callV S kv_X4_57 (c_X4_its l D cI cJ a f σ k 2 (by omega)) hK hP rfl ⟨Nat.le_of_ble_eq_true rfl, Nat.le_of_ble_eq_true rfl⟩ hl.1 rfl rfl (Nat.le_of_ble_eq_true rfl) (Nat.zero_le _) (Nat.zero_le _) dX4_findsFits_3 ?_
  refine lv_istore_n (lv' := [(3, .int (fi f k 2)), (0, .ref (a 0)), (1, .int (nI sh)), (2, .int (nI k))]) hx hb dX4_findsFits_6 rfl hl (by decide) rfl (fun ls hl => ?_)
  refine lv_aload_n hx hb dX4_findsFits_7 rfl (lv_at hl 1 rfl) ?_
  refine lv_iconst (v := nI 0) hx hb dX4_findsFits_8 (by decide) ?_
  refine p4_fitting S hK hP hD hS dX4_findsFits_9 (fun H locs hP hD hS => ?_)
  refine lv_bipush (v := nI 100) hx hb dX4_findsFits_12 (by decide) ?_
  refine lv_istore (lv' := [(4, .int (nI 100)), (3, .int (fi f k 2)), (0, .ref (a 0)), (1, .int (nI sh)), (2, .int (nI k))]) hx hb dX4_findsFits_14 hl (by decide) rfl (fun ls hl => ?_)
  have L_16 : ∀ (n9 : Nat) (j : Nat) (A9 : Nat → Int32) (g : Nat → Int32) (H : Heap) (locs : List Loc) (ls : Array Slot), 101 - j < n9 → (j ≤ 101) → (∀ x, upd g (16 + 7 * k + 2) x = fu f k 2 x) → (j = 101 → A9 = fu f k 2 (nI 0)) → va_P D vwCl (MW cI a g (NF σ (A9) (upd (upd (σ 9) 2 (nI (fcD (fun q7 => sTd (shR (σ 8) sh) 3 (fu f k 2 (nI q7)) n sz) j).1)) 3 (olf (σ 9 3) (fcD (fun q7 => sTd (shR (σ 8) sh) 3 (fu f k 2 (nI q7)) n sz) j).2)))) H → va_D A (MW cI a g (NF σ (A9) (upd (upd (σ 9) 2 (nI (fcD (fun q7 => sTd (shR (σ 8) sh) 3 (fu f k 2 (nI q7)) n sz) j).1)) 3 (olf (σ 9 3) (fcD (fun q7 => sTd (shR (σ 8) sh) 3 (fu f k 2 (nI q7)) n sz) j).2)))) → va_S A s.heap H locs → lv_has ls 5 [(0, .ref (a 0)), (1, .int (nI sh)), (2, .int (nI k)), (3, .int (fi f k 2)), (4, .int (dnI (101 - j)))] → W p l e (rmd 6) s m ([.ref (a 0), .int (nI sh), .int (nI k)] : List Value).toArray below meth c H locs 0 0 (ZW below ([.ref (a 0), .int (nI sh), .int (nI k)] : List Value).toArray s D (none) (MW cI a f (NF σ (fu f k 2 (nI 0)) (upd (upd (σ 9) 2 (nI (fcD (fun q7 => sTd (shR (σ 8) sh) 3 (fu f k 2 (nI q7)) n sz) 101).1)) 3 (olf (σ 9 3) (fcD (fun q7 => sTd (shR (σ 8) sh) 3 (fu f k 2 (nI q7)) n sz) 101).2)))) A) (F0 m 16 ls []) := by
    intro n9
    induction n9 with
    | zero => intro j A9 g H locs ls hmeas; exact absurd hmeas (Nat.not_lt_zero _)
    | succ n9 ih_16 =>
      intro j A9 g H locs ls hmeas hj hg hA9 hP hD hS hl
      cases hu : 101 - j with
      | zero =>
        have hl : lv_has ls 5 [(0, .ref (a 0)), (1, .int (nI sh)), (2, .int (nI k)), (3, .int (fi f k 2)), (4, .int (-1))] := by rw [hu] at hl; exact hl
        refine lv_iload hx hb dX4_findsFits_16 (lv_at hl 4 rfl) ?_
        refine lv_if_lt (tgt := 64) hx hb dX4_findsFits_18 (by decide) (fun _ => ?_) (fun h => absurd (by decide) h)
        refine lv_aload_n hx hb dX4_findsFits_64 rfl (lv_at hl 0 rfl) ?_
        refine g4_s S hK hP dX4_findsFits_65 ?_
        refine lv_iload_n hx hb dX4_findsFits_68 rfl (lv_at hl 2 rfl) ?_
        refine lv_iconst (v := nI 2) hx hb dX4_findsFits_69 (by decide) ?_
        refine RO.callS S ks_X4_70 (c_X4_at l D cI cJ a g (NF σ (A9) (upd (upd (σ 9) 2 (nI (fcD (fun q7 => sTd (shR (σ 8) sh) 3 (fu f k 2 (nI q7)) n sz) j).1)) 3 (olf (σ 9 3) (fcD (fun q7 => sTd (shR (σ 8) sh) 3 (fu f k 2 (nI q7)) n sz) j).2))) k 2) hK hP ⟨Nat.le_of_ble_eq_true rfl, Nat.le_of_ble_eq_true rfl⟩ hl.1 rfl rfl (Nat.le_of_ble_eq_true rfl) (Nat.zero_le _) (Nat.zero_le _) dX4_findsFits_70 ?_
        refine lv_iload_n hx hb dX4_findsFits_73 rfl (lv_at hl 3 rfl) ?_
        refine s4_s S hK hP hD hS (j := 16 + 7 * k + 2) (by omega) dX4_findsFits_74 (fun H locs hP hD hS => ?_)
        rw [hg, show fu f k 2 (fi f k 2) = f from fu_self] at hP hD
        exact WR.vret S hr hlk hP hS (by rw [hA9 (by omega), show j = 101 by omega]) dX4_findsFits_75
      | succ v =>
        have hl : lv_has ls 5 [(0, .ref (a 0)), (1, .int (nI sh)), (2, .int (nI k)), (3, .int (fi f k 2)), (4, .int (nI v))] := by rw [hu] at hl; exact hl
        refine lv_iload hx hb dX4_findsFits_16 (lv_at hl 4 rfl) ?_
        refine q_if_ltN (tgt := 64) (a := v) hx hb dX4_findsFits_18 (by decide) (by omega) ?_
        refine lv_aload_n hx hb dX4_findsFits_21 rfl (lv_at hl 0 rfl) ?_
        refine g4_s S hK hP dX4_findsFits_22 ?_
        refine lv_iload_n hx hb dX4_findsFits_25 rfl (lv_at hl 2 rfl) ?_
        refine lv_iconst (v := nI 2) hx hb dX4_findsFits_26 (by decide) ?_
        refine RO.callS S ks_X4_70 (c_X4_at l D cI cJ a g (NF σ (A9) (upd (upd (σ 9) 2 (nI (fcD (fun q7 => sTd (shR (σ 8) sh) 3 (fu f k 2 (nI q7)) n sz) j).1)) 3 (olf (σ 9 3) (fcD (fun q7 => sTd (shR (σ 8) sh) 3 (fu f k 2 (nI q7)) n sz) j).2))) k 2) hK hP ⟨Nat.le_of_ble_eq_true rfl, Nat.le_of_ble_eq_true rfl⟩ hl.1 rfl rfl (Nat.le_of_ble_eq_true rfl) (Nat.zero_le _) (Nat.zero_le _) dX4_findsFits_27 ?_
        refine lv_iload hx hb dX4_findsFits_30 (lv_at hl 4 rfl) ?_
        refine s4_s S hK hP hD hS (j := 16 + 7 * k + 2) (by omega) dX4_findsFits_32 (fun H locs hP hD hS => ?_)
        rw [hg] at hP hD
        refine lv_aload_n hx hb dX4_findsFits_33 rfl (lv_at hl 0 rfl) ?_
        refine lv_iload_n hx hb dX4_findsFits_34 rfl (lv_at hl 1 rfl) ?_
        refine lv_iconst (v := nI 3) hx hb dX4_findsFits_35 (by decide) ?_
        refine WR.callV (w1 := MW cI a (fu f k 2 (nI v)) (va_up (NF σ (A9) (upd (upd (σ 9) 2 (nI (fcD (fun q7 => sTd (shR (σ 8) sh) 3 (fu f k 2 (nI q7)) n sz) j).1)) 3 (olf (σ 9 3) (fcD (fun q7 => sTd (shR (σ 8) sh) 3 (fu f k 2 (nI q7)) n sz) j).2))) 3 (fu f k 2 (nI v)))) S kv_X4_184 (c_X4_isTold l D cI cJ a (fu f k 2 (nI v)) (NF σ (A9) (upd (upd (σ 9) 2 (nI (fcD (fun q7 => sTd (shR (σ 8) sh) 3 (fu f k 2 (nI q7)) n sz) j).1)) 3 (olf (σ 9 3) (fcD (fun q7 => sTd (shR (σ 8) sh) 3 (fu f k 2 (nI q7)) n sz) j).2))) sh (hsh) 3 (by omega) sz (hm) (hm40) n (hw.fuw (by decide) (by decide)) d ((fu_lo (by decide)).trans hd) (by omega)) hK hP hD hS hA ([]) ([]) rfl rfl MW_fst rfl ⟨Nat.le_of_ble_eq_true rfl, Nat.le_of_ble_eq_true rfl⟩ hl.1 rfl rfl (Nat.le_of_ble_eq_true rfl) (Nat.zero_le _) (Nat.zero_le _) dX4_findsFits_36 (fun H locs hP hD hS => ?_)
        rw [NF_3] at hP hD
        refine q_if_eqB (tgt := 58) hx hb dX4_findsFits_39 (by decide) (fun c_39 => ?_) (fun c_39 => ?_)
        · refine lv_iinc (v := nI v + Int32.ofInt (-1)) (lv' := [(4, .int (nI v + Int32.ofInt (-1))), (0, .ref (a 0)), (1, .int (nI sh)), (2, .int (nI k)), (3, .int (fi f k 2))]) hx hb dX4_findsFits_58 hl (k := 4) rfl rfl (by decide) rfl (fun ls hl => ?_)
          refine lv_goto (tgt := 16) hx hb dX4_findsFits_61 (by decide) ?_
          exact ih_16 (j + 1) (fu f k 2 (nI v)) (fu f k 2 (nI v)) _ _ ls (by omega) (by omega) (fun x => upd_upd) (fun e => by rw [show v = 0 by omega]) (by rw [fcD_0 (T := fun q7 => sTd (shR (σ 8) sh) 3 (fu f k 2 (nI q7)) n sz) (by rw [show 100 - j = v by omega]; exact c_39)]; exact hP) (by rw [fcD_0 (T := fun q7 => sTd (shR (σ 8) sh) 3 (fu f k 2 (nI q7)) n sz) (by rw [show 100 - j = v by omega]; exact c_39)]; exact hD) hS (by rw [show dnI (101 - (j + 1)) = nI v + Int32.ofInt (-1) from by rw [show 101 - (j + 1) = v by omega]; exact (dnI_s v).symm]; exact lv_sub hl [1, 2, 3, 4, 0] rfl)
        · refine lv_aload_n hx hb dX4_findsFits_42 rfl (lv_at hl 0 rfl) ?_
          refine lv_dup hx hb dX4_findsFits_43 rfl ?_
          refine g4_fitting S hK hP dX4_findsFits_44 ?_
          refine q_eqi (y := nI ((fcD (fun q7 => sTd (shR (σ 8) sh) 3 (fu f k 2 (nI q7)) n sz) j).1)) (rfl) ?_
          refine lv_iconst (v := nI 1) hx hb dX4_findsFits_47 (by decide) ?_
          refine q_iaddN (a := (fcD (fun q7 => sTd (shR (σ 8) sh) 3 (fu f k 2 (nI q7)) n sz) j).1) (b := 1) hx hb dX4_findsFits_48 ?_
          refine p4_fitting S hK hP hD hS dX4_findsFits_49 (fun H locs hP hD hS => ?_)
          refine lv_aload_n hx hb dX4_findsFits_52 rfl (lv_at hl 0 rfl) ?_
          refine lv_iload hx hb dX4_findsFits_53 (lv_at hl 4 rfl) ?_
          refine p4_leastFit S hK hP hD hS dX4_findsFits_55 (fun H locs hP hD hS => ?_)
          refine lv_iinc (v := nI v + Int32.ofInt (-1)) (lv' := [(4, .int (nI v + Int32.ofInt (-1))), (0, .ref (a 0)), (1, .int (nI sh)), (2, .int (nI k)), (3, .int (fi f k 2))]) hx hb dX4_findsFits_58 hl (k := 4) rfl rfl (by decide) rfl (fun ls hl => ?_)
          refine lv_goto (tgt := 16) hx hb dX4_findsFits_61 (by decide) ?_
          rw [NF_9, NF_9, ff_r9] at hP hD
          exact ih_16 (j + 1) (fu f k 2 (nI v)) (fu f k 2 (nI v)) _ _ ls (by omega) (by omega) (fun x => upd_upd) (fun e => by rw [show v = 0 by omega]) (by rw [fcD_1 (T := fun q7 => sTd (shR (σ 8) sh) 3 (fu f k 2 (nI q7)) n sz) (by rw [show 100 - j = v by omega]; exact c_39), show 100 - j = v by omega]; exact hP) (by rw [fcD_1 (T := fun q7 => sTd (shR (σ 8) sh) 3 (fu f k 2 (nI q7)) n sz) (by rw [show 100 - j = v by omega]; exact c_39), show 100 - j = v by omega]; exact hD) hS (by rw [show dnI (101 - (j + 1)) = nI v + Int32.ofInt (-1) from by rw [show 101 - (j + 1) = v by omega]; exact (dnI_s v).symm]; exact lv_sub hl [1, 2, 3, 4, 0] rfl)
  exact L_16 ((101 - 0) + 1) 0 (σ 3) f _ _ ls (Nat.lt_succ_self _) (by omega) (fun _ => rfl) (fun e => absurd e (by omega)) (by rw [ff_0]; exact hP) (by rw [ff_0]; exact hD) hS (by rw [show dnI (101 - 0) = nI 100 from rfl]; exact lv_sub hl [2, 3, 4, 1, 0] rfl)
set_option maxRecDepth 100000 in
set_option maxHeartbeats 4000000 in
theorem c_X4_fits_bad (l : Launch) (D : va_G) (cI cJ : ClassId) (a : Nat → Nat) (f : Nat → Int32) (σ : Nat → Nat → Int32) (x : Int32) (y : Int32) (hs0 : ¬ (nI 0 ≤ x ∧ x ≤ nI 3)) : WR l yX4_fits cX4_fits 4 (some .int) 7 D cI cJ (MW cI a f σ) [.ref (a 0), .int x, .int y] (some (.int (-1000001))) (MW cI a f (va_up σ 4 (mFi (σ 4) 0))) := by
  refine WR.of (by decide) (Nat.le_of_ble_eq_true rfl) (fun p e s m below meth c ls A S hr hlk hK hP hD hS hA hl => ?_)
  obtain ⟨hx, hb, hml, hown, hU⟩ := id S
  have hl : lv_has ls 4 [(0, .ref (a 0)), (1, .int x), (2, .int y)] := hl
  refine lv_aload_n hx hb dX4_fits_0 rfl (lv_at hl 0 rfl) ?_
  refine lv_iload_n hx hb dX4_fits_1 rfl (lv_at hl 1 rfl) ?_
  refine lv_iload_n hx hb dX4_fits_2 rfl (lv_at hl 2 rfl) ?_
  refine RO.callV S kv_X4_193 (c_X4_wantsFor_bad l D cI cJ a f σ x y hs0) hK hP rfl ⟨Nat.le_of_ble_eq_true rfl, Nat.le_of_ble_eq_true rfl⟩ hl.1 rfl rfl (Nat.le_of_ble_eq_true rfl) (Nat.zero_le _) (Nat.zero_le _) dX4_fits_3 ?_
  refine lv_istore_n (lv' := [(3, .int (-1000001)), (0, .ref (a 0)), (1, .int x), (2, .int y)]) hx hb dX4_fits_6 rfl hl (by decide) rfl (fun ls hl => ?_)
  refine lv_iload_n hx hb dX4_fits_7 rfl (lv_at hl 0 rfl) ?_
  refine lv_if_eq (tgt := 17) hx hb dX4_fits_8 (by decide) (fun h => absurd h (by decide)) (fun _ => ?_)
  refine lv_aload_n hx hb dX4_fits_11 rfl (lv_at hl 1 rfl) ?_
  refine lv_iload_n hx hb dX4_fits_12 rfl (lv_at hl 0 rfl) ?_
  refine WR.callV (w1 := MW cI a f (va_up σ 4 (mFi (σ 4) 0))) S kv_X4_39 (c_X4_fd0 l D cI cJ a f σ) hK hP hD hS hA ([]) ([]) rfl rfl MW_fst rfl ⟨Nat.le_of_ble_eq_true rfl, Nat.le_of_ble_eq_true rfl⟩ hl.1 rfl rfl (Nat.le_of_ble_eq_true rfl) (Nat.zero_le _) (Nat.zero_le _) dX4_fits_13 (fun H locs hP hD hS => ?_)
  exact WR.iret S hr hlk hP hS (rfl) rfl dX4_fits_16
set_option maxRecDepth 100000 in
set_option maxHeartbeats 4000000 in
theorem c_X4_fits_miss (l : Launch) (D : va_G) (cI cJ : ClassId) (a : Nat → Nat) (f : Nat → Int32) (σ : Nat → Nat → Int32) (sh : Nat) (hsh : sh < 4) (y : Int32) (hms : σ 6 sh < 0) : WR l yX4_fits cX4_fits 4 (some .int) 7 D cI cJ (MW cI a f σ) [.ref (a 0), .int (nI sh), .int y] (some (.int (-1000006))) (MW cI a f (va_up σ 4 (mFi (σ 4) 5))) := by
  refine WR.of (by decide) (Nat.le_of_ble_eq_true rfl) (fun p e s m below meth c ls A S hr hlk hK hP hD hS hA hl => ?_)
  obtain ⟨hx, hb, hml, hown, hU⟩ := id S
  have hl : lv_has ls 4 [(0, .ref (a 0)), (1, .int (nI sh)), (2, .int y)] := hl
  refine lv_aload_n hx hb dX4_fits_0 rfl (lv_at hl 0 rfl) ?_
  refine lv_iload_n hx hb dX4_fits_1 rfl (lv_at hl 1 rfl) ?_
  refine lv_iload_n hx hb dX4_fits_2 rfl (lv_at hl 2 rfl) ?_
  refine RO.callV S kv_X4_193 (c_X4_wantsFor_miss l D cI cJ a f σ sh hsh y hms) hK hP rfl ⟨Nat.le_of_ble_eq_true rfl, Nat.le_of_ble_eq_true rfl⟩ hl.1 rfl rfl (Nat.le_of_ble_eq_true rfl) (Nat.zero_le _) (Nat.zero_le _) dX4_fits_3 ?_
  refine lv_istore_n (lv' := [(3, .int (-1000006)), (0, .ref (a 0)), (1, .int (nI sh)), (2, .int y)]) hx hb dX4_fits_6 rfl hl (by decide) rfl (fun ls hl => ?_)
  refine lv_iload_n hx hb dX4_fits_7 rfl (lv_at hl 0 rfl) ?_
  refine lv_if_eq (tgt := 17) hx hb dX4_fits_8 (by decide) (fun h => absurd h (by decide)) (fun _ => ?_)
  refine lv_aload_n hx hb dX4_fits_11 rfl (lv_at hl 1 rfl) ?_
  refine lv_iload_n hx hb dX4_fits_12 rfl (lv_at hl 0 rfl) ?_
  refine WR.callV (w1 := MW cI a f (va_up σ 4 (mFi (σ 4) 5))) S kv_X4_39 (c_X4_fd5 l D cI cJ a f σ) hK hP hD hS hA ([]) ([]) rfl rfl MW_fst rfl ⟨Nat.le_of_ble_eq_true rfl, Nat.le_of_ble_eq_true rfl⟩ hl.1 rfl rfl (Nat.le_of_ble_eq_true rfl) (Nat.zero_le _) (Nat.zero_le _) dX4_fits_13 (fun H locs hP hD hS => ?_)
  exact WR.iret S hr hlk hP hS (rfl) rfl dX4_fits_16
set_option maxRecDepth 100000 in
set_option maxHeartbeats 4000000 in
theorem c_X4_fits_badc (l : Launch) (D : va_G) (cI cJ : ClassId) (a : Nat → Nat) (f : Nat → Int32) (σ : Nat → Nat → Int32) (sh : Nat) (hsh : sh < 4) (y : Int32) (hms : ¬ σ 6 sh < 0) (n : Nat) (hw : Wk f n) (hb0 : ¬ (0 ≤ y ∧ y < nI n)) : WR l yX4_fits cX4_fits 4 (some .int) 7 D cI cJ (MW cI a f σ) [.ref (a 0), .int (nI sh), .int y] (some (.int (-1000001))) (MW cI a f (va_up σ 4 (mFi (σ 4) 0))) := by
  refine WR.of (by decide) (Nat.le_of_ble_eq_true rfl) (fun p e s m below meth c ls A S hr hlk hK hP hD hS hA hl => ?_)
  obtain ⟨hx, hb, hml, hown, hU⟩ := id S
  have hl : lv_has ls 4 [(0, .ref (a 0)), (1, .int (nI sh)), (2, .int y)] := hl
  refine lv_aload_n hx hb dX4_fits_0 rfl (lv_at hl 0 rfl) ?_
  refine lv_iload_n hx hb dX4_fits_1 rfl (lv_at hl 1 rfl) ?_
  refine lv_iload_n hx hb dX4_fits_2 rfl (lv_at hl 2 rfl) ?_
  refine RO.callV S kv_X4_193 (c_X4_wantsFor_badc l D cI cJ a f σ sh hsh y hms n hw hb0) hK hP rfl ⟨Nat.le_of_ble_eq_true rfl, Nat.le_of_ble_eq_true rfl⟩ hl.1 rfl rfl (Nat.le_of_ble_eq_true rfl) (Nat.zero_le _) (Nat.zero_le _) dX4_fits_3 ?_
  refine lv_istore_n (lv' := [(3, .int (-1000001)), (0, .ref (a 0)), (1, .int (nI sh)), (2, .int y)]) hx hb dX4_fits_6 rfl hl (by decide) rfl (fun ls hl => ?_)
  refine lv_iload_n hx hb dX4_fits_7 rfl (lv_at hl 0 rfl) ?_
  refine lv_if_eq (tgt := 17) hx hb dX4_fits_8 (by decide) (fun h => absurd h (by decide)) (fun _ => ?_)
  refine lv_aload_n hx hb dX4_fits_11 rfl (lv_at hl 1 rfl) ?_
  refine lv_iload_n hx hb dX4_fits_12 rfl (lv_at hl 0 rfl) ?_
  refine WR.callV (w1 := MW cI a f (va_up σ 4 (mFi (σ 4) 0))) S kv_X4_39 (c_X4_fd0 l D cI cJ a f σ) hK hP hD hS hA ([]) ([]) rfl rfl MW_fst rfl ⟨Nat.le_of_ble_eq_true rfl, Nat.le_of_ble_eq_true rfl⟩ hl.1 rfl rfl (Nat.le_of_ble_eq_true rfl) (Nat.zero_le _) (Nat.zero_le _) dX4_fits_13 (fun H locs hP hD hS => ?_)
  exact WR.iret S hr hlk hP hS (rfl) rfl dX4_fits_16
set_option maxRecDepth 100000 in
set_option maxHeartbeats 4000000 in
theorem c_X4_pealed_bad (l : Launch) (D : va_G) (cI cJ : ClassId) (a : Nat → Nat) (f : Nat → Int32) (σ : Nat → Nat → Int32) (x : Int32) (y : Int32) (hs0 : ¬ (nI 0 ≤ x ∧ x ≤ nI 3)) : WR l yX4_pealed cX4_pealed 4 (some .int) 7 D cI cJ (MW cI a f σ) [.ref (a 0), .int x, .int y] (some (.int (-1000001))) (MW cI a f (va_up σ 4 (mFi (σ 4) 0))) := by
  refine WR.of (by decide) (Nat.le_of_ble_eq_true rfl) (fun p e s m below meth c ls A S hr hlk hK hP hD hS hA hl => ?_)
  obtain ⟨hx, hb, hml, hown, hU⟩ := id S
  have hl : lv_has ls 4 [(0, .ref (a 0)), (1, .int x), (2, .int y)] := hl
  refine lv_aload_n hx hb dX4_pealed_0 rfl (lv_at hl 0 rfl) ?_
  refine lv_iload_n hx hb dX4_pealed_1 rfl (lv_at hl 1 rfl) ?_
  refine lv_iload_n hx hb dX4_pealed_2 rfl (lv_at hl 2 rfl) ?_
  refine RO.callV S kv_X4_193 (c_X4_wantsFor_bad l D cI cJ a f σ x y hs0) hK hP rfl ⟨Nat.le_of_ble_eq_true rfl, Nat.le_of_ble_eq_true rfl⟩ hl.1 rfl rfl (Nat.le_of_ble_eq_true rfl) (Nat.zero_le _) (Nat.zero_le _) dX4_pealed_3 ?_
  refine lv_istore_n (lv' := [(3, .int (-1000001)), (0, .ref (a 0)), (1, .int x), (2, .int y)]) hx hb dX4_pealed_6 rfl hl (by decide) rfl (fun ls hl => ?_)
  refine lv_iload_n hx hb dX4_pealed_7 rfl (lv_at hl 0 rfl) ?_
  refine lv_if_eq (tgt := 17) hx hb dX4_pealed_8 (by decide) (fun h => absurd h (by decide)) (fun _ => ?_)
  refine lv_aload_n hx hb dX4_pealed_11 rfl (lv_at hl 1 rfl) ?_
  refine lv_iload_n hx hb dX4_pealed_12 rfl (lv_at hl 0 rfl) ?_
  refine WR.callV (w1 := MW cI a f (va_up σ 4 (mFi (σ 4) 0))) S kv_X4_39 (c_X4_fd0 l D cI cJ a f σ) hK hP hD hS hA ([]) ([]) rfl rfl MW_fst rfl ⟨Nat.le_of_ble_eq_true rfl, Nat.le_of_ble_eq_true rfl⟩ hl.1 rfl rfl (Nat.le_of_ble_eq_true rfl) (Nat.zero_le _) (Nat.zero_le _) dX4_pealed_13 (fun H locs hP hD hS => ?_)
  exact WR.iret S hr hlk hP hS (rfl) rfl dX4_pealed_16
set_option maxRecDepth 100000 in
set_option maxHeartbeats 4000000 in
theorem c_X4_pealed_miss (l : Launch) (D : va_G) (cI cJ : ClassId) (a : Nat → Nat) (f : Nat → Int32) (σ : Nat → Nat → Int32) (sh : Nat) (hsh : sh < 4) (y : Int32) (hms : σ 6 sh < 0) : WR l yX4_pealed cX4_pealed 4 (some .int) 7 D cI cJ (MW cI a f σ) [.ref (a 0), .int (nI sh), .int y] (some (.int (-1000006))) (MW cI a f (va_up σ 4 (mFi (σ 4) 5))) := by
  refine WR.of (by decide) (Nat.le_of_ble_eq_true rfl) (fun p e s m below meth c ls A S hr hlk hK hP hD hS hA hl => ?_)
  obtain ⟨hx, hb, hml, hown, hU⟩ := id S
  have hl : lv_has ls 4 [(0, .ref (a 0)), (1, .int (nI sh)), (2, .int y)] := hl
  refine lv_aload_n hx hb dX4_pealed_0 rfl (lv_at hl 0 rfl) ?_
  refine lv_iload_n hx hb dX4_pealed_1 rfl (lv_at hl 1 rfl) ?_
  refine lv_iload_n hx hb dX4_pealed_2 rfl (lv_at hl 2 rfl) ?_
  refine RO.callV S kv_X4_193 (c_X4_wantsFor_miss l D cI cJ a f σ sh hsh y hms) hK hP rfl ⟨Nat.le_of_ble_eq_true rfl, Nat.le_of_ble_eq_true rfl⟩ hl.1 rfl rfl (Nat.le_of_ble_eq_true rfl) (Nat.zero_le _) (Nat.zero_le _) dX4_pealed_3 ?_
  refine lv_istore_n (lv' := [(3, .int (-1000006)), (0, .ref (a 0)), (1, .int (nI sh)), (2, .int y)]) hx hb dX4_pealed_6 rfl hl (by decide) rfl (fun ls hl => ?_)
  refine lv_iload_n hx hb dX4_pealed_7 rfl (lv_at hl 0 rfl) ?_
  refine lv_if_eq (tgt := 17) hx hb dX4_pealed_8 (by decide) (fun h => absurd h (by decide)) (fun _ => ?_)
  refine lv_aload_n hx hb dX4_pealed_11 rfl (lv_at hl 1 rfl) ?_
  refine lv_iload_n hx hb dX4_pealed_12 rfl (lv_at hl 0 rfl) ?_
  refine WR.callV (w1 := MW cI a f (va_up σ 4 (mFi (σ 4) 5))) S kv_X4_39 (c_X4_fd5 l D cI cJ a f σ) hK hP hD hS hA ([]) ([]) rfl rfl MW_fst rfl ⟨Nat.le_of_ble_eq_true rfl, Nat.le_of_ble_eq_true rfl⟩ hl.1 rfl rfl (Nat.le_of_ble_eq_true rfl) (Nat.zero_le _) (Nat.zero_le _) dX4_pealed_13 (fun H locs hP hD hS => ?_)
  exact WR.iret S hr hlk hP hS (rfl) rfl dX4_pealed_16
set_option maxRecDepth 100000 in
set_option maxHeartbeats 4000000 in
theorem c_X4_pealed_badc (l : Launch) (D : va_G) (cI cJ : ClassId) (a : Nat → Nat) (f : Nat → Int32) (σ : Nat → Nat → Int32) (sh : Nat) (hsh : sh < 4) (y : Int32) (hms : ¬ σ 6 sh < 0) (n : Nat) (hw : Wk f n) (hb0 : ¬ (0 ≤ y ∧ y < nI n)) : WR l yX4_pealed cX4_pealed 4 (some .int) 7 D cI cJ (MW cI a f σ) [.ref (a 0), .int (nI sh), .int y] (some (.int (-1000001))) (MW cI a f (va_up σ 4 (mFi (σ 4) 0))) := by
  refine WR.of (by decide) (Nat.le_of_ble_eq_true rfl) (fun p e s m below meth c ls A S hr hlk hK hP hD hS hA hl => ?_)
  obtain ⟨hx, hb, hml, hown, hU⟩ := id S
  have hl : lv_has ls 4 [(0, .ref (a 0)), (1, .int (nI sh)), (2, .int y)] := hl
  refine lv_aload_n hx hb dX4_pealed_0 rfl (lv_at hl 0 rfl) ?_
  refine lv_iload_n hx hb dX4_pealed_1 rfl (lv_at hl 1 rfl) ?_
  refine lv_iload_n hx hb dX4_pealed_2 rfl (lv_at hl 2 rfl) ?_
  refine RO.callV S kv_X4_193 (c_X4_wantsFor_badc l D cI cJ a f σ sh hsh y hms n hw hb0) hK hP rfl ⟨Nat.le_of_ble_eq_true rfl, Nat.le_of_ble_eq_true rfl⟩ hl.1 rfl rfl (Nat.le_of_ble_eq_true rfl) (Nat.zero_le _) (Nat.zero_le _) dX4_pealed_3 ?_
  refine lv_istore_n (lv' := [(3, .int (-1000001)), (0, .ref (a 0)), (1, .int (nI sh)), (2, .int y)]) hx hb dX4_pealed_6 rfl hl (by decide) rfl (fun ls hl => ?_)
  refine lv_iload_n hx hb dX4_pealed_7 rfl (lv_at hl 0 rfl) ?_
  refine lv_if_eq (tgt := 17) hx hb dX4_pealed_8 (by decide) (fun h => absurd h (by decide)) (fun _ => ?_)
  refine lv_aload_n hx hb dX4_pealed_11 rfl (lv_at hl 1 rfl) ?_
  refine lv_iload_n hx hb dX4_pealed_12 rfl (lv_at hl 0 rfl) ?_
  refine WR.callV (w1 := MW cI a f (va_up σ 4 (mFi (σ 4) 0))) S kv_X4_39 (c_X4_fd0 l D cI cJ a f σ) hK hP hD hS hA ([]) ([]) rfl rfl MW_fst rfl ⟨Nat.le_of_ble_eq_true rfl, Nat.le_of_ble_eq_true rfl⟩ hl.1 rfl rfl (Nat.le_of_ble_eq_true rfl) (Nat.zero_le _) (Nat.zero_le _) dX4_pealed_13 (fun H locs hP hD hS => ?_)
  exact WR.iret S hr hlk hP hS (rfl) rfl dX4_pealed_16
set_option maxRecDepth 100000 in
set_option maxHeartbeats 4000000 in
theorem c_X4_kinds_bad (l : Launch) (D : va_G) (cI cJ : ClassId) (a : Nat → Nat) (f : Nat → Int32) (σ : Nat → Nat → Int32) (x : Int32) (y : Int32) (hs0 : ¬ (nI 0 ≤ x ∧ x ≤ nI 3)) : WR l yX4_kinds cX4_kinds 7 (some .int) 6 D cI cJ (MW cI a f σ) [.ref (a 0), .int x, .int y] (some (.int (-1000001))) (MW cI a f (va_up σ 4 (mFi (σ 4) 0))) := by
  refine WR.of (by decide) (Nat.le_of_ble_eq_true rfl) (fun p e s m below meth c ls A S hr hlk hK hP hD hS hA hl => ?_)
  obtain ⟨hx, hb, hml, hown, hU⟩ := id S
  have hl : lv_has ls 7 [(0, .ref (a 0)), (1, .int x), (2, .int y)] := hl
  refine lv_aload_n hx hb dX4_kinds_0 rfl (lv_at hl 0 rfl) ?_
  refine lv_iload_n hx hb dX4_kinds_1 rfl (lv_at hl 1 rfl) ?_
  refine lv_iload_n hx hb dX4_kinds_2 rfl (lv_at hl 2 rfl) ?_
  refine RO.callV S kv_X4_193 (c_X4_wantsFor_bad l D cI cJ a f σ x y hs0) hK hP rfl ⟨Nat.le_of_ble_eq_true rfl, Nat.le_of_ble_eq_true rfl⟩ hl.1 rfl rfl (Nat.le_of_ble_eq_true rfl) (Nat.zero_le _) (Nat.zero_le _) dX4_kinds_3 ?_
  refine lv_istore_n (lv' := [(3, .int (-1000001)), (0, .ref (a 0)), (1, .int x), (2, .int y)]) hx hb dX4_kinds_6 rfl hl (by decide) rfl (fun ls hl => ?_)
  refine lv_iload_n hx hb dX4_kinds_7 rfl (lv_at hl 0 rfl) ?_
  refine lv_if_eq (tgt := 17) hx hb dX4_kinds_8 (by decide) (fun h => absurd h (by decide)) (fun _ => ?_)
  refine lv_aload_n hx hb dX4_kinds_11 rfl (lv_at hl 1 rfl) ?_
  refine lv_iload_n hx hb dX4_kinds_12 rfl (lv_at hl 0 rfl) ?_
  refine WR.callV (w1 := MW cI a f (va_up σ 4 (mFi (σ 4) 0))) S kv_X4_39 (c_X4_fd0 l D cI cJ a f σ) hK hP hD hS hA ([]) ([]) rfl rfl MW_fst rfl ⟨Nat.le_of_ble_eq_true rfl, Nat.le_of_ble_eq_true rfl⟩ hl.1 rfl rfl (Nat.le_of_ble_eq_true rfl) (Nat.zero_le _) (Nat.zero_le _) dX4_kinds_13 (fun H locs hP hD hS => ?_)
  exact WR.iret S hr hlk hP hS (rfl) rfl dX4_kinds_16
set_option maxRecDepth 100000 in
set_option maxHeartbeats 4000000 in
theorem c_X4_kinds_miss (l : Launch) (D : va_G) (cI cJ : ClassId) (a : Nat → Nat) (f : Nat → Int32) (σ : Nat → Nat → Int32) (sh : Nat) (hsh : sh < 4) (y : Int32) (hms : σ 6 sh < 0) : WR l yX4_kinds cX4_kinds 7 (some .int) 6 D cI cJ (MW cI a f σ) [.ref (a 0), .int (nI sh), .int y] (some (.int (-1000006))) (MW cI a f (va_up σ 4 (mFi (σ 4) 5))) := by
  refine WR.of (by decide) (Nat.le_of_ble_eq_true rfl) (fun p e s m below meth c ls A S hr hlk hK hP hD hS hA hl => ?_)
  obtain ⟨hx, hb, hml, hown, hU⟩ := id S
  have hl : lv_has ls 7 [(0, .ref (a 0)), (1, .int (nI sh)), (2, .int y)] := hl
  refine lv_aload_n hx hb dX4_kinds_0 rfl (lv_at hl 0 rfl) ?_
  refine lv_iload_n hx hb dX4_kinds_1 rfl (lv_at hl 1 rfl) ?_
  refine lv_iload_n hx hb dX4_kinds_2 rfl (lv_at hl 2 rfl) ?_
  refine RO.callV S kv_X4_193 (c_X4_wantsFor_miss l D cI cJ a f σ sh hsh y hms) hK hP rfl ⟨Nat.le_of_ble_eq_true rfl, Nat.le_of_ble_eq_true rfl⟩ hl.1 rfl rfl (Nat.le_of_ble_eq_true rfl) (Nat.zero_le _) (Nat.zero_le _) dX4_kinds_3 ?_
  refine lv_istore_n (lv' := [(3, .int (-1000006)), (0, .ref (a 0)), (1, .int (nI sh)), (2, .int y)]) hx hb dX4_kinds_6 rfl hl (by decide) rfl (fun ls hl => ?_)
  refine lv_iload_n hx hb dX4_kinds_7 rfl (lv_at hl 0 rfl) ?_
  refine lv_if_eq (tgt := 17) hx hb dX4_kinds_8 (by decide) (fun h => absurd h (by decide)) (fun _ => ?_)
  refine lv_aload_n hx hb dX4_kinds_11 rfl (lv_at hl 1 rfl) ?_
  refine lv_iload_n hx hb dX4_kinds_12 rfl (lv_at hl 0 rfl) ?_
  refine WR.callV (w1 := MW cI a f (va_up σ 4 (mFi (σ 4) 5))) S kv_X4_39 (c_X4_fd5 l D cI cJ a f σ) hK hP hD hS hA ([]) ([]) rfl rfl MW_fst rfl ⟨Nat.le_of_ble_eq_true rfl, Nat.le_of_ble_eq_true rfl⟩ hl.1 rfl rfl (Nat.le_of_ble_eq_true rfl) (Nat.zero_le _) (Nat.zero_le _) dX4_kinds_13 (fun H locs hP hD hS => ?_)
  exact WR.iret S hr hlk hP hS (rfl) rfl dX4_kinds_16
set_option maxRecDepth 100000 in
set_option maxHeartbeats 4000000 in
theorem c_X4_kinds_badc (l : Launch) (D : va_G) (cI cJ : ClassId) (a : Nat → Nat) (f : Nat → Int32) (σ : Nat → Nat → Int32) (sh : Nat) (hsh : sh < 4) (y : Int32) (hms : ¬ σ 6 sh < 0) (n : Nat) (hw : Wk f n) (hb0 : ¬ (0 ≤ y ∧ y < nI n)) : WR l yX4_kinds cX4_kinds 7 (some .int) 6 D cI cJ (MW cI a f σ) [.ref (a 0), .int (nI sh), .int y] (some (.int (-1000001))) (MW cI a f (va_up σ 4 (mFi (σ 4) 0))) := by
  refine WR.of (by decide) (Nat.le_of_ble_eq_true rfl) (fun p e s m below meth c ls A S hr hlk hK hP hD hS hA hl => ?_)
  obtain ⟨hx, hb, hml, hown, hU⟩ := id S
  have hl : lv_has ls 7 [(0, .ref (a 0)), (1, .int (nI sh)), (2, .int y)] := hl
  refine lv_aload_n hx hb dX4_kinds_0 rfl (lv_at hl 0 rfl) ?_
  refine lv_iload_n hx hb dX4_kinds_1 rfl (lv_at hl 1 rfl) ?_
  refine lv_iload_n hx hb dX4_kinds_2 rfl (lv_at hl 2 rfl) ?_
  refine RO.callV S kv_X4_193 (c_X4_wantsFor_badc l D cI cJ a f σ sh hsh y hms n hw hb0) hK hP rfl ⟨Nat.le_of_ble_eq_true rfl, Nat.le_of_ble_eq_true rfl⟩ hl.1 rfl rfl (Nat.le_of_ble_eq_true rfl) (Nat.zero_le _) (Nat.zero_le _) dX4_kinds_3 ?_
  refine lv_istore_n (lv' := [(3, .int (-1000001)), (0, .ref (a 0)), (1, .int (nI sh)), (2, .int y)]) hx hb dX4_kinds_6 rfl hl (by decide) rfl (fun ls hl => ?_)
  refine lv_iload_n hx hb dX4_kinds_7 rfl (lv_at hl 0 rfl) ?_
  refine lv_if_eq (tgt := 17) hx hb dX4_kinds_8 (by decide) (fun h => absurd h (by decide)) (fun _ => ?_)
  refine lv_aload_n hx hb dX4_kinds_11 rfl (lv_at hl 1 rfl) ?_
  refine lv_iload_n hx hb dX4_kinds_12 rfl (lv_at hl 0 rfl) ?_
  refine WR.callV (w1 := MW cI a f (va_up σ 4 (mFi (σ 4) 0))) S kv_X4_39 (c_X4_fd0 l D cI cJ a f σ) hK hP hD hS hA ([]) ([]) rfl rfl MW_fst rfl ⟨Nat.le_of_ble_eq_true rfl, Nat.le_of_ble_eq_true rfl⟩ hl.1 rfl rfl (Nat.le_of_ble_eq_true rfl) (Nat.zero_le _) (Nat.zero_le _) dX4_kinds_13 (fun H locs hP hD hS => ?_)
  exact WR.iret S hr hlk hP hS (rfl) rfl dX4_kinds_16
set_option maxRecDepth 100000 in
set_option maxHeartbeats 4000000 in
theorem c_X4_fits_ok (l : Launch) (D : va_G) (cI cJ : ClassId) (a : Nat → Nat) (f : Nat → Int32) (σ : Nat → Nat → Int32) (sh : Nat) (hsh : sh < 4) (k : Nat) (hms : ¬ σ 6 sh < 0) (sz : Nat) (hm : σ 7 sh = nI sz) (hm40 : sz ≤ 40) (n : Nat) (hw : Wk f n) (d : Nat) (hd : f 1 = nI d) (hk : k < n) (hd2 : d + 100 ≤ 99999) : WR l yX4_fits cX4_fits 4 (some .int) 7 D cI cJ (MW cI a f σ) [.ref (a 0), .int (nI sh), .int (nI k)] (some (.int (nI ((fcD (fun q7 => sTd (shR (σ 8) sh) 3 (fu f k 2 (nI q7)) n sz) 101).1)))) (MW cI a f (NF σ (fu f k 2 (nI 0)) (upd (upd (σ 9) 2 (nI (fcD (fun q7 => sTd (shR (σ 8) sh) 3 (fu f k 2 (nI q7)) n sz) 101).1)) 3 (olf (σ 9 3) (fcD (fun q7 => sTd (shR (σ 8) sh) 3 (fu f k 2 (nI q7)) n sz) 101).2)))) := by
  have h8 := hw.2.1
  refine WR.of (by decide) (Nat.le_of_ble_eq_true rfl) (fun p e s m below meth c ls A S hr hlk hK hP hD hS hA hl => ?_)
  obtain ⟨hx, hb, hml, hown, hU⟩ := id S
  have hl : lv_has ls 4 [(0, .ref (a 0)), (1, .int (nI sh)), (2, .int (nI k))] := hl
  refine lv_aload_n hx hb dX4_fits_0 rfl (lv_at hl 0 rfl) ?_
  refine lv_iload_n hx hb dX4_fits_1 rfl (lv_at hl 1 rfl) ?_
  refine lv_iload_n hx hb dX4_fits_2 rfl (lv_at hl 2 rfl) ?_
  refine RO.callV S kv_X4_193 (c_X4_wantsFor_ok l D cI cJ a f σ sh hsh k hms n hw hk) hK hP rfl ⟨Nat.le_of_ble_eq_true rfl, Nat.le_of_ble_eq_true rfl⟩ hl.1 rfl rfl (Nat.le_of_ble_eq_true rfl) (Nat.zero_le _) (Nat.zero_le _) dX4_fits_3 ?_
  refine lv_istore_n (lv' := [(3, .int (nI 0)), (0, .ref (a 0)), (1, .int (nI sh)), (2, .int (nI k))]) hx hb dX4_fits_6 rfl hl (by decide) rfl (fun ls hl => ?_)
  refine lv_iload_n hx hb dX4_fits_7 rfl (lv_at hl 0 rfl) ?_
  refine q_if_eqN (tgt := 17) (a := 0) hx hb dX4_fits_8 (by decide) (by omega) (fun _ => ?_) (fun h => absurd h (by omega))
  refine lv_aload_n hx hb dX4_fits_17 rfl (lv_at hl 1 rfl) ?_
  refine lv_iload_n hx hb dX4_fits_18 rfl (lv_at hl 2 rfl) ?_
  refine lv_iload_n hx hb dX4_fits_19 rfl (lv_at hl 3 rfl) ?_
  refine WR.callV (w1 := MW cI a f (NF σ (fu f k 2 (nI 0)) (upd (upd (σ 9) 2 (nI (fcD (fun q7 => sTd (shR (σ 8) sh) 3 (fu f k 2 (nI q7)) n sz) 101).1)) 3 (olf (σ 9 3) (fcD (fun q7 => sTd (shR (σ 8) sh) 3 (fu f k 2 (nI q7)) n sz) 101).2)))) S kv_X4_196 (c_X4_findsFits l D cI cJ a f σ sh hsh k sz hm hm40 n hw d hd hk (by omega)) hK hP hD hS hA ([]) ([]) rfl rfl MW_fst rfl ⟨Nat.le_of_ble_eq_true rfl, Nat.le_of_ble_eq_true rfl⟩ hl.1 rfl rfl (Nat.le_of_ble_eq_true rfl) (Nat.zero_le _) (Nat.zero_le _) dX4_fits_20 (fun H locs hP hD hS => ?_)
  refine W.eq (g2 := F0 m 23 ls []) rfl ?_
  refine lv_aload_n hx hb dX4_fits_23 rfl (lv_at hl 1 rfl) ?_
  refine g4_fitting S hK hP dX4_fits_24 ?_
  refine q_eqi (y := nI ((fcD (fun q7 => sTd (shR (σ 8) sh) 3 (fu f k 2 (nI q7)) n sz) 101).1)) (rfl) ?_
  exact WR.iret S hr hlk hP hS (rfl) rfl dX4_fits_27
set_option maxRecDepth 100000 in
set_option maxHeartbeats 4000000 in
theorem c_X4_pealed_ok (l : Launch) (D : va_G) (cI cJ : ClassId) (a : Nat → Nat) (f : Nat → Int32) (σ : Nat → Nat → Int32) (sh : Nat) (hsh : sh < 4) (k : Nat) (hms : ¬ σ 6 sh < 0) (sz : Nat) (hm : σ 7 sh = nI sz) (hm40 : sz ≤ 40) (n : Nat) (hw : Wk f n) (d : Nat) (hd : f 1 = nI d) (hk : k < n) (hd2 : d + 100 ≤ 99999) : WR l yX4_pealed cX4_pealed 4 (some .int) 7 D cI cJ (MW cI a f σ) [.ref (a 0), .int (nI sh), .int (nI k)] (some (.int (aN (fcD (fun q7 => sTd (shR (σ 8) sh) 3 (fu f k 2 (nI q7)) n sz) 101).2))) (MW cI a f (sgN (NF σ (fu f k 2 (nI 0)) (upd (upd (σ 9) 2 (nI (fcD (fun q7 => sTd (shR (σ 8) sh) 3 (fu f k 2 (nI q7)) n sz) 101).1)) 3 (olf (σ 9 3) (fcD (fun q7 => sTd (shR (σ 8) sh) 3 (fu f k 2 (nI q7)) n sz) 101).2))) (fcD (fun q7 => sTd (shR (σ 8) sh) 3 (fu f k 2 (nI q7)) n sz) 101).2)) := by
  have h8 := hw.2.1
  have hcz := fcD_z (T := fun q7 => sTd (shR (σ 8) sh) 3 (fu f k 2 (nI q7)) n sz) (j := 101)
  have hcl := fcD_le (T := fun q7 => sTd (shR (σ 8) sh) 3 (fu f k 2 (nI q7)) n sz) (j := 101)
  refine WR.of (by decide) (Nat.le_of_ble_eq_true rfl) (fun p e s m below meth c ls A S hr hlk hK hP hD hS hA hl => ?_)
  obtain ⟨hx, hb, hml, hown, hU⟩ := id S
  have hl : lv_has ls 4 [(0, .ref (a 0)), (1, .int (nI sh)), (2, .int (nI k))] := hl
  refine lv_aload_n hx hb dX4_pealed_0 rfl (lv_at hl 0 rfl) ?_
  refine lv_iload_n hx hb dX4_pealed_1 rfl (lv_at hl 1 rfl) ?_
  refine lv_iload_n hx hb dX4_pealed_2 rfl (lv_at hl 2 rfl) ?_
  refine RO.callV S kv_X4_193 (c_X4_wantsFor_ok l D cI cJ a f σ sh hsh k hms n hw hk) hK hP rfl ⟨Nat.le_of_ble_eq_true rfl, Nat.le_of_ble_eq_true rfl⟩ hl.1 rfl rfl (Nat.le_of_ble_eq_true rfl) (Nat.zero_le _) (Nat.zero_le _) dX4_pealed_3 ?_
  refine lv_istore_n (lv' := [(3, .int (nI 0)), (0, .ref (a 0)), (1, .int (nI sh)), (2, .int (nI k))]) hx hb dX4_pealed_6 rfl hl (by decide) rfl (fun ls hl => ?_)
  refine lv_iload_n hx hb dX4_pealed_7 rfl (lv_at hl 0 rfl) ?_
  refine q_if_eqN (tgt := 17) (a := 0) hx hb dX4_pealed_8 (by decide) (by omega) (fun _ => ?_) (fun h => absurd h (by omega))
  refine lv_aload_n hx hb dX4_pealed_17 rfl (lv_at hl 1 rfl) ?_
  refine lv_iload_n hx hb dX4_pealed_18 rfl (lv_at hl 2 rfl) ?_
  refine lv_iload_n hx hb dX4_pealed_19 rfl (lv_at hl 3 rfl) ?_
  refine WR.callV (w1 := MW cI a f (NF σ (fu f k 2 (nI 0)) (upd (upd (σ 9) 2 (nI (fcD (fun q7 => sTd (shR (σ 8) sh) 3 (fu f k 2 (nI q7)) n sz) 101).1)) 3 (olf (σ 9 3) (fcD (fun q7 => sTd (shR (σ 8) sh) 3 (fu f k 2 (nI q7)) n sz) 101).2)))) S kv_X4_196 (c_X4_findsFits l D cI cJ a f σ sh hsh k sz hm hm40 n hw d hd hk (by omega)) hK hP hD hS hA ([]) ([]) rfl rfl MW_fst rfl ⟨Nat.le_of_ble_eq_true rfl, Nat.le_of_ble_eq_true rfl⟩ hl.1 rfl rfl (Nat.le_of_ble_eq_true rfl) (Nat.zero_le _) (Nat.zero_le _) dX4_pealed_20 (fun H locs hP hD hS => ?_)
  refine W.eq (g2 := F0 m 23 ls []) rfl ?_
  refine lv_aload_n hx hb dX4_pealed_23 rfl (lv_at hl 1 rfl) ?_
  refine g4_fitting S hK hP dX4_pealed_24 ?_
  refine q_eqi (y := nI ((fcD (fun q7 => sTd (shR (σ 8) sh) 3 (fu f k 2 (nI q7)) n sz) 101).1)) (rfl) ?_
  refine q_if_leN (tgt := 37) (a := (fcD (fun q7 => sTd (shR (σ 8) sh) 3 (fu f k 2 (nI q7)) n sz) 101).1) hx hb dX4_pealed_27 (by decide) (by omega) (fun c_27 => ?_) (fun c_27 => ?_)
  · have hb9 := hcz.1 c_27
    refine lv_aload_n hx hb dX4_pealed_37 rfl (lv_at hl 1 rfl) ?_
    refine lv_ldc (v := (-1000004)) hx hb hown (hU _ mK_X4_38) dX4_pealed_38 ?_
    refine WR.callV (w1 := MW cI a f (va_up (NF σ (fu f k 2 (nI 0)) (upd (upd (σ 9) 2 (nI (fcD (fun q7 => sTd (shR (σ 8) sh) 3 (fu f k 2 (nI q7)) n sz) 101).1)) 3 (olf (σ 9 3) (fcD (fun q7 => sTd (shR (σ 8) sh) 3 (fu f k 2 (nI q7)) n sz) 101).2))) 4 (mFi ((NF σ (fu f k 2 (nI 0)) (upd (upd (σ 9) 2 (nI (fcD (fun q7 => sTd (shR (σ 8) sh) 3 (fu f k 2 (nI q7)) n sz) 101).1)) 3 (olf (σ 9 3) (fcD (fun q7 => sTd (shR (σ 8) sh) 3 (fu f k 2 (nI q7)) n sz) 101).2))) 4) 3))) S kv_X4_39 (c_X4_fd3 l D cI cJ a f (NF σ (fu f k 2 (nI 0)) (upd (upd (σ 9) 2 (nI (fcD (fun q7 => sTd (shR (σ 8) sh) 3 (fu f k 2 (nI q7)) n sz) 101).1)) 3 (olf (σ 9 3) (fcD (fun q7 => sTd (shR (σ 8) sh) 3 (fu f k 2 (nI q7)) n sz) 101).2)))) hK hP hD hS hA ([]) ([]) rfl rfl MW_fst rfl ⟨Nat.le_of_ble_eq_true rfl, Nat.le_of_ble_eq_true rfl⟩ hl.1 rfl rfl (Nat.le_of_ble_eq_true rfl) (Nat.zero_le _) (Nat.zero_le _) dX4_pealed_40 (fun H locs hP hD hS => ?_)
    exact WR.iret S hr hlk hP hS (by rw [hb9]; rfl) (congrArg (fun z => some (Value.int z)) (by rw [hb9]; rfl)) dX4_pealed_43
  · obtain ⟨b, hb9⟩ := hcz.2 c_27
    refine lv_aload_n hx hb dX4_pealed_30 rfl (lv_at hl 1 rfl) ?_
    refine g4_leastFit S hK hP dX4_pealed_31 ?_
    refine lv_goto (tgt := 43) hx hb dX4_pealed_34 (by decide) ?_
    exact WR.iret S hr hlk hP hS (by rw [hb9]; rfl) (congrArg (fun z => some (Value.int z)) (by show aN _ = olf (σ 9 3) (fcD (fun q7 => sTd (shR (σ 8) sh) 3 (fu f k 2 (nI q7)) n sz) 101).2; rw [hb9]; rfl)) dX4_pealed_43
set_option maxRecDepth 100000 in
set_option maxHeartbeats 4000000 in
theorem c_X4_kinds_ok (l : Launch) (D : va_G) (cI cJ : ClassId) (a : Nat → Nat) (f : Nat → Int32) (σ : Nat → Nat → Int32) (sh : Nat) (hsh : sh < 4) (k : Nat) (hms : ¬ σ 6 sh < 0) (sz : Nat) (hm : σ 7 sh = nI sz) (hm40 : sz ≤ 40) (n : Nat) (hw : Wk f n) (d : Nat) (hd : f 1 = nI d) (hk : k < n) (hd2 : d + 100 ≤ 99999) : WR l yX4_kinds cX4_kinds 7 (some .int) 6 D cI cJ (MW cI a f σ) [.ref (a 0), .int (nI sh), .int (nI k)] (some (.int (nI (sKd (fun q7 => sTd (shR (σ 8) sh) (16 + 7 * k + 2) (fu f k 0 (nI q7)) n sz) 7)))) (MW cI a f (va_up σ 3 (fu f k 0 (nI 6)))) := by
  have h8 := hw.2.1
  refine WR.of (by decide) (Nat.le_of_ble_eq_true rfl) (fun p e s m below meth c ls A S hr hlk hK hP hD hS hA hl => ?_)
  obtain ⟨hx, hb, hml, hown, hU⟩ := id S
  have hl : lv_has ls 7 [(0, .ref (a 0)), (1, .int (nI sh)), (2, .int (nI k))] := hl
  refine lv_aload_n hx hb dX4_kinds_0 rfl (lv_at hl 0 rfl) ?_
  refine lv_iload_n hx hb dX4_kinds_1 rfl (lv_at hl 1 rfl) ?_
  refine lv_iload_n hx hb dX4_kinds_2 rfl (lv_at hl 2 rfl) ?_
  refine RO.callV S kv_X4_193 (c_X4_wantsFor_ok l D cI cJ a f σ sh hsh k hms n hw hk) hK hP rfl ⟨Nat.le_of_ble_eq_true rfl, Nat.le_of_ble_eq_true rfl⟩ hl.1 rfl rfl (Nat.le_of_ble_eq_true rfl) (Nat.zero_le _) (Nat.zero_le _) dX4_kinds_3 ?_
  refine lv_istore_n (lv' := [(3, .int (nI 0)), (0, .ref (a 0)), (1, .int (nI sh)), (2, .int (nI k))]) hx hb dX4_kinds_6 rfl hl (by decide) rfl (fun ls hl => ?_)
  refine lv_iload_n hx hb dX4_kinds_7 rfl (lv_at hl 0 rfl) ?_
  refine q_if_eqN (tgt := 17) (a := 0) hx hb dX4_kinds_8 (by decide) (by omega) (fun _ => ?_) (fun h => absurd h (by omega))
  refine lv_aload_n hx hb dX4_kinds_17 rfl (lv_at hl 1 rfl) ?_
  refine lv_iload_n hx hb dX4_kinds_18 rfl (lv_at hl 3 rfl) ?_
  refine lv_iconst (v := nI 0) hx hb dX4_kinds_19 (by decide) ?_
  refine RO.callV S kv_X4_57 (c_X4_its l D cI cJ a f σ k 0 (by omega)) hK hP rfl ⟨Nat.le_of_ble_eq_true rfl, Nat.le_of_ble_eq_true rfl⟩ hl.1 rfl rfl (Nat.le_of_ble_eq_true rfl) (Nat.zero_le _) (Nat.zero_le _) dX4_kinds_20 ?_
  refine lv_istore (lv' := [(4, .int (fi f k 0)), (3, .int (nI 0)), (0, .ref (a 0)), (1, .int (nI sh)), (2, .int (nI k))]) hx hb dX4_kinds_23 hl (by decide) rfl (fun ls hl => ?_)
  refine lv_iconst (v := nI 0) hx hb dX4_kinds_25 (by decide) ?_
  refine lv_istore (lv' := [(5, .int (nI 0)), (4, .int (fi f k 0)), (3, .int (nI 0)), (0, .ref (a 0)), (1, .int (nI sh)), (2, .int (nI k))]) hx hb dX4_kinds_26 hl (by decide) rfl (fun ls hl => ?_)
  refine lv_iconst (v := nI 0) hx hb dX4_kinds_28 (by decide) ?_
  refine lv_istore (lv' := [(6, .int (nI 0)), (5, .int (nI 0)), (4, .int (fi f k 0)), (3, .int (nI 0)), (0, .ref (a 0)), (1, .int (nI sh)), (2, .int (nI k))]) hx hb dX4_kinds_29 hl (by decide) rfl (fun ls hl => ?_)
  have L_31 : ∀ (n9 : Nat) (v : Nat) (H : Heap) (locs : List Loc) (ls : Array Slot), 7 - v < n9 → (v ≤ 7) → va_P D vwCl (MW cI a (lbS f k 0 v) (lbT σ f k 0 v)) H → va_D A (MW cI a (lbS f k 0 v) (lbT σ f k 0 v)) → va_S A s.heap H locs → lv_has ls 7 [(0, .ref (a 0)), (1, .int (nI sh)), (2, .int (nI k)), (4, .int (fi f k 0)), (5, .int (nI (sKd (fun q7 => sTd (shR (σ 8) sh) (16 + 7 * k + 2) (fu f k 0 (nI q7)) n sz) v))), (6, .int (nI v))] → W p l e (rmd 6) s m ([.ref (a 0), .int (nI sh), .int (nI k)] : List Value).toArray below meth c H locs 0 0 (ZW below ([.ref (a 0), .int (nI sh), .int (nI k)] : List Value).toArray s D (some (.int (nI (sKd (fun q7 => sTd (shR (σ 8) sh) (16 + 7 * k + 2) (fu f k 0 (nI q7)) n sz) 7)))) (MW cI a f (va_up σ 3 (fu f k 0 (nI 6)))) A) (F0 m 31 ls []) := by
    intro n9
    induction n9 with
    | zero => intro v H locs ls hmeas; exact absurd hmeas (Nat.not_lt_zero _)
    | succ n9 ih_31 =>
      intro v H locs ls hmeas hv hP hD hS hl
      have lt := sKd_lt (T := fun q7 => sTd (shR (σ 8) sh) (16 + 7 * k + 2) (fu f k 0 (nI q7)) n sz) (j := v) (by omega)
      have l31 : sKd (fun q7 => sTd (shR (σ 8) sh) (16 + 7 * k + 2) (fu f k 0 (nI q7)) n sz) v < 2147483648 := Nat.lt_of_lt_of_le lt (Nat.le_trans (Nat.pow_le_pow_right (n := 2) (by decide) (show v ≤ 8 by omega)) (by decide))
      have p31 : 2 ^ v < 2147483648 := Nat.lt_of_le_of_lt (Nat.pow_le_pow_right (n := 2) (by decide) (show v ≤ 8 by omega)) (by decide)
      refine lv_iload hx hb dX4_kinds_31 (lv_at hl 5 rfl) ?_
      refine lv_bipush (v := nI 6) hx hb dX4_kinds_33 (by decide) ?_
      refine q_icmp_gtN (tgt := 82) (a := v) (b := 6) hx hb dX4_kinds_35 (by decide) (by omega) (by omega) (fun c_35 => ?_) (fun c_35 => ?_)
      · refine lv_aload_n hx hb dX4_kinds_82 rfl (lv_at hl 0 rfl) ?_
        refine g4_s S hK hP dX4_kinds_83 ?_
        refine lv_iload_n hx hb dX4_kinds_86 rfl (lv_at hl 2 rfl) ?_
        refine lv_iconst (v := nI 0) hx hb dX4_kinds_87 (by decide) ?_
        refine RO.callS S ks_X4_70 (c_X4_at l D cI cJ a (lbS f k 0 v) (lbT σ f k 0 v) k 0) hK hP ⟨Nat.le_of_ble_eq_true rfl, Nat.le_of_ble_eq_true rfl⟩ hl.1 rfl rfl (Nat.le_of_ble_eq_true rfl) (Nat.zero_le _) (Nat.zero_le _) dX4_kinds_88 ?_
        refine lv_iload hx hb dX4_kinds_91 (lv_at hl 3 rfl) ?_
        refine s4_s S hK hP hD hS (j := 16 + 7 * k + 0) (by omega) dX4_kinds_93 (fun H locs hP hD hS => ?_)
        rw [lbS_up (w := 0)] at hP hD
        rw [show fu f k 0 (fi f k 0) = f from fu_self] at hP hD
        refine lv_iload hx hb dX4_kinds_94 (lv_at hl 4 rfl) ?_
        exact WR.iret S hr hlk hP hS (by rw [show v = 7 by omega]; rfl) (congrArg (fun z => some (Value.int z)) (by rw [show v = 7 by omega])) dX4_kinds_96
      · refine lv_aload_n hx hb dX4_kinds_38 rfl (lv_at hl 0 rfl) ?_
        refine g4_s S hK hP dX4_kinds_39 ?_
        refine lv_iload_n hx hb dX4_kinds_42 rfl (lv_at hl 2 rfl) ?_
        refine lv_iconst (v := nI 0) hx hb dX4_kinds_43 (by decide) ?_
        refine RO.callS S ks_X4_70 (c_X4_at l D cI cJ a (lbS f k 0 v) (lbT σ f k 0 v) k 0) hK hP ⟨Nat.le_of_ble_eq_true rfl, Nat.le_of_ble_eq_true rfl⟩ hl.1 rfl rfl (Nat.le_of_ble_eq_true rfl) (Nat.zero_le _) (Nat.zero_le _) dX4_kinds_44 ?_
        refine lv_iload hx hb dX4_kinds_47 (lv_at hl 5 rfl) ?_
        refine s4_s S hK hP hD hS (j := 16 + 7 * k + 0) (by omega) dX4_kinds_49 (fun H locs hP hD hS => ?_)
        rw [lbS_up (w := 0)] at hP hD
        refine lv_iload hx hb dX4_kinds_50 (lv_at hl 4 rfl) ?_
        refine lv_aload_n hx hb dX4_kinds_52 rfl (lv_at hl 0 rfl) ?_
        refine lv_iload_n hx hb dX4_kinds_53 rfl (lv_at hl 1 rfl) ?_
        refine lv_iload_n hx hb dX4_kinds_54 rfl (lv_at hl 2 rfl) ?_
        refine lv_iconst (v := nI 2) hx hb dX4_kinds_55 (by decide) ?_
        refine RO.callS S ks_X4_70 (c_X4_at l D cI cJ a (fu f k 0 (nI v)) (lbT σ f k 0 v) k 2) hK hP ⟨Nat.le_of_ble_eq_true rfl, Nat.le_of_ble_eq_true rfl⟩ hl.1 rfl rfl (Nat.le_of_ble_eq_true rfl) (Nat.zero_le _) (Nat.zero_le _) dX4_kinds_56 ?_
        refine WR.callV (w1 := MW cI a (fu f k 0 (nI v)) (va_up (lbT σ f k 0 v) 3 (fu f k 0 (nI v)))) S kv_X4_184 (c_X4_isTold l D cI cJ a (fu f k 0 (nI v)) (lbT σ f k 0 v) sh (hsh) (16 + 7 * k + 2) (by omega) sz (lbT_7.trans hm) (hm40) n (hw.fuw (by decide) (by decide)) d ((fu_lo (by decide)).trans hd) (by omega)) hK hP hD hS hA ([]) ([]) rfl rfl MW_fst rfl ⟨Nat.le_of_ble_eq_true rfl, Nat.le_of_ble_eq_true rfl⟩ hl.1 rfl rfl (Nat.le_of_ble_eq_true rfl) (Nat.zero_le _) (Nat.zero_le _) dX4_kinds_59 (fun H locs hP hD hS => ?_)
        rw [lbT_up] at hP hD
        rw [lbT_8]
        refine q_if_eqB (tgt := 72) hx hb dX4_kinds_62 (by decide) (fun c_62 => ?_) (fun c_62 => ?_)
        · refine lv_iconst (v := nI 0) hx hb dX4_kinds_72 (by decide) ?_
          refine lv_ior hx hb dX4_kinds_73 ?_
          refine q_eqi (y := nI (sKd (fun q7 => sTd (shR (σ 8) sh) (16 + 7 * k + 2) (fu f k 0 (nI q7)) n sz) v ||| 0)) (nI_or l31 (by decide)) ?_
          refine lv_istore (lv' := [(5, .int (nI (sKd (fun q7 => sTd (shR (σ 8) sh) (16 + 7 * k + 2) (fu f k 0 (nI q7)) n sz) v ||| 0))), (0, .ref (a 0)), (1, .int (nI sh)), (2, .int (nI k)), (4, .int (fi f k 0)), (6, .int (nI v))]) hx hb dX4_kinds_74 hl (by decide) rfl (fun ls hl => ?_)
          refine lv_iinc (v := nI (v + 1)) (lv' := [(6, .int (nI (v + 1))), (5, .int (nI (sKd (fun q7 => sTd (shR (σ 8) sh) (16 + 7 * k + 2) (fu f k 0 (nI q7)) n sz) v ||| 0))), (0, .ref (a 0)), (1, .int (nI sh)), (2, .int (nI k)), (4, .int (fi f k 0))]) hx hb dX4_kinds_76 hl (k := 5) rfl (q_inc _) (by decide) rfl (fun ls hl => ?_)
          refine lv_goto (tgt := 31) hx hb dX4_kinds_79 (by decide) ?_
          exact ih_31 (v + 1) _ _ ls (by omega) (by omega) hP hD hS (by rw [show nI (sKd (fun q7 => sTd (shR (σ 8) sh) (16 + 7 * k + 2) (fu f k 0 (nI q7)) n sz) (v + 1)) = nI (sKd (fun q7 => sTd (shR (σ 8) sh) (16 + 7 * k + 2) (fu f k 0 (nI q7)) n sz) v ||| 0) from by rw [sKd_0 (T := fun q7 => sTd (shR (σ 8) sh) (16 + 7 * k + 2) (fu f k 0 (nI q7)) n sz) c_62]; exact congrArg nI (Nat.or_zero _).symm]; exact lv_sub hl [2, 3, 4, 5, 1, 0] rfl)
        · refine lv_iconst (v := nI 1) hx hb dX4_kinds_65 (by decide) ?_
          refine lv_iload hx hb dX4_kinds_66 (lv_at hl 5 rfl) ?_
          refine lv_ishl hx hb dX4_kinds_68 ?_
          refine q_eqi (y := nI (2 ^ v)) (nI_shl1 _ (by omega)) ?_
          refine lv_goto (tgt := 73) hx hb dX4_kinds_69 (by decide) ?_
          refine lv_ior hx hb dX4_kinds_73 ?_
          refine q_eqi (y := nI (sKd (fun q7 => sTd (shR (σ 8) sh) (16 + 7 * k + 2) (fu f k 0 (nI q7)) n sz) v ||| 2 ^ v)) (nI_or l31 p31) ?_
          refine lv_istore (lv' := [(5, .int (nI (sKd (fun q7 => sTd (shR (σ 8) sh) (16 + 7 * k + 2) (fu f k 0 (nI q7)) n sz) v ||| 2 ^ v))), (0, .ref (a 0)), (1, .int (nI sh)), (2, .int (nI k)), (4, .int (fi f k 0)), (6, .int (nI v))]) hx hb dX4_kinds_74 hl (by decide) rfl (fun ls hl => ?_)
          refine lv_iinc (v := nI (v + 1)) (lv' := [(6, .int (nI (v + 1))), (5, .int (nI (sKd (fun q7 => sTd (shR (σ 8) sh) (16 + 7 * k + 2) (fu f k 0 (nI q7)) n sz) v ||| 2 ^ v))), (0, .ref (a 0)), (1, .int (nI sh)), (2, .int (nI k)), (4, .int (fi f k 0))]) hx hb dX4_kinds_76 hl (k := 5) rfl (q_inc _) (by decide) rfl (fun ls hl => ?_)
          refine lv_goto (tgt := 31) hx hb dX4_kinds_79 (by decide) ?_
          exact ih_31 (v + 1) _ _ ls (by omega) (by omega) hP hD hS (by rw [show nI (sKd (fun q7 => sTd (shR (σ 8) sh) (16 + 7 * k + 2) (fu f k 0 (nI q7)) n sz) (v + 1)) = nI (sKd (fun q7 => sTd (shR (σ 8) sh) (16 + 7 * k + 2) (fu f k 0 (nI q7)) n sz) v ||| 2 ^ v) from by rw [sKd_1 (T := fun q7 => sTd (shR (σ 8) sh) (16 + 7 * k + 2) (fu f k 0 (nI q7)) n sz) c_62]]; exact lv_sub hl [2, 3, 4, 5, 1, 0] rfl)
  exact L_31 ((7 - 0) + 1) 0 _ _ ls (Nat.lt_succ_self _) (Nat.zero_le _) hP hD hS (lv_sub hl [4, 5, 6, 2, 1, 0] rfl)

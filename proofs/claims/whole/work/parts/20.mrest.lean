/-- a byte of a number -/
def byt (x : Int32) (i : Nat) : Int32 := (x >>> (nI (8 * i) &&& 31)) &&& nI 255
def fdT (r : Nat → Int32) (b : Nat) (x : Int32) (q : Nat) : Nat → (Nat → Int32)
  | 0 => r
  | j + 1 => upd (fdT r b x q j) (b + j) (byt x (q - 1 - j))
theorem fdT_s {r : Nat → Int32} {b q j i : Nat} {x : Int32} (h : q - 1 - j = i) : fdT r b x q (j + 1) = upd (fdT r b x q j) (b + j) (byt x i) := by
  subst h
  rfl
def NT (σ : Nat → Nat → Int32) (A R : Nat → Int32) : Nat → Nat → Int32 := va_up (va_up σ 5 A) 9 R
theorem NT_5 {σ : Nat → Nat → Int32} {A R B : Nat → Int32} : va_up (NT σ A R) 5 B = NT σ B R := by
  funext j
  unfold NT va_up
  by_cases e : j = 5
  · simp [e]
  · simp [e]
theorem NT_9 {σ : Nat → Nat → Int32} {A R : Nat → Int32} {i : Nat} {v : Int32} : m9 (NT σ A R) i v = NT σ A (upd R i v) := by
  show va_up (NT σ A R) 9 (upd (NT σ A R 9) i v) = NT σ A (upd R i v)
  rw [show NT σ A R 9 = R from rfl]
  exact bx_uu _ _ _ _
theorem NT_0 {σ : Nat → Nat → Int32} {b q : Nat} {x : Int32} (h : σ 9 1 = nI b) : NT σ (fdT (σ 5) b x q 0) (upd (σ 9) 1 (nI (b + 0))) = σ := by
  show va_up (va_up σ 5 (σ 5)) 9 (upd (σ 9) 1 (nI b)) = σ
  rw [va_up_self2, ← h, upd_self, va_up_self2]
theorem nI_nem {k : Nat} (h : k < 2147483648) : ¬ nI k = -1 := fun e => by
  have h1 := nI_neg1 h
  rw [e] at h1
  exact absurd h1 (by decide)
/-- a kind is one, or under one -/
abbrev uU (q w : Nat) : Prop := w = 0 ∨ q = w ∨ (w = 2 ∧ (q = 3 ∨ q = 4)) ∨ (w = 3 ∧ q = 4) ∨ (w = 1 ∧ q = 6)
theorem i32_pos40 {z : Int32} (h : nI 40 < z) : 0 ≤ z := by
  rw [Int32.lt_iff_toInt_lt] at h
  rw [Int32.le_iff_toInt_le]
  have e1 : (nI 40).toInt = 40 := rfl
  have e2 : (0 : Int32).toInt = 0 := rfl
  omega
def zrw (u : Nat → Int32) (sh : Nat) : Nat → (Nat → Int32)
  | 0 => u
  | k + 1 => upd (zrw u sh k) (40 * sh + k) (nI 0)
theorem rgs {y : Int32} {sz : Nat} (hs : sz ≤ 40) (h : nI 0 ≤ y ∧ y ≤ nI sz - nI 1) : 0 ≤ y ∧ y < nI sz := ⟨h.1, by
  have h2 := h.2
  rw [Int32.le_iff_toInt_le, pk_sub_toInt (by omega) (by decide)] at h2
  rw [Int32.lt_iff_toInt_lt, nI_toInt (by omega)]
  omega⟩
/-- storms taken from a row: how many, and the list then -/
def ldR (u : Nat → Int32) (sz : Nat) : Nat → Nat → (Nat → Int32) → Nat × (Nat → Int32)
  | 0, k, f => (k, f)
  | m + 1, k, f => if k < sz ∧ k < 6 ∧ (nI 0 ≤ u k ∧ u k ≤ nI 99) then ldR u sz m (k + 1) (upd f (10 + k) (u k)) else (k, f)
theorem ldR_1 {u : Nat → Int32} {sz m k : Nat} {f : Nat → Int32} (h : k < sz ∧ k < 6 ∧ (nI 0 ≤ u k ∧ u k ≤ nI 99)) : ldR u sz (m + 1) k f = ldR u sz m (k + 1) (upd f (10 + k) (u k)) := if_pos h
theorem ldR_0 {u : Nat → Int32} {sz m k : Nat} {f : Nat → Int32} (h : ¬ (k < sz ∧ k < 6 ∧ (nI 0 ≤ u k ∧ u k ≤ nI 99))) : ldR u sz m k f = (k, f) := by
  cases m
  · rfl
  · exact if_neg h
def oJd (u f : Nat → Int32) (n sz : Nat) : Option Nat := fst1 (fun q7 => decide (¬ (q7 < n ∧ u q7 = fi f q7 2))) sz 0
def jdA (o : Option Nat) : Nat := match o with
  | none => 0
  | some k => 1 + k
theorem popc_le6 : ∀ s, s < 64 → popc s ≤ 6 := by decide +kernel
theorem pow6_lt (q : Nat) (h : q ≤ 23) : 6 ^ q < 9223372036854775808 := Nat.lt_of_le_of_lt (Nat.pow_le_pow_right (n := 6) (by decide) h) (by decide)
theorem lN_inj0 {y : Nat} (h : y < 9223372036854775808) (e : lN y = lN 0) : y = 0 := (pk_lEQ h (by decide)).mp e
theorem lN_ne0 {y : Nat} (h0 : 0 < y) (h : y < 9223372036854775808) : ¬ lN y = 0 := fun e => by
  have := lN_inj0 h e
  omega
set_option maxRecDepth 100000 in
set_option maxHeartbeats 4000000 in
theorem c_X4_wipe_ok (l : Launch) (D : va_G) (cI cJ : ClassId) (a : Nat → Nat) (f : Nat → Int32) (σ : Nat → Nat → Int32) : WR l yX4_wipe cX4_wipe 2 (some .int) 0 D cI cJ (MW cI a f σ) [.ref (a 0)] (some (.int (σ 9 1))) (MW cI a f (m9 σ 1 (nI 0))) := by
  refine WR.of (by decide) (Nat.le_of_ble_eq_true rfl) (fun p e s m below meth c ls A S hr hlk hK hP hD hS hA hl => ?_)
  obtain ⟨hx, hb, hml, hown, hU⟩ := id S
  have hl : lv_has ls 2 [(0, .ref (a 0))] := hl
  refine lv_aload_n hx hb dX4_wipe_0 rfl (lv_at hl 0 rfl) ?_
  refine g4_taped S hK hP dX4_wipe_1 ?_
  refine lv_istore_n (lv' := [(1, .int (σ 9 1)), (0, .ref (a 0))]) hx hb dX4_wipe_4 rfl hl (by decide) rfl (fun ls hl => ?_)
  refine lv_aload_n hx hb dX4_wipe_5 rfl (lv_at hl 1 rfl) ?_
  refine lv_iconst (v := nI 0) hx hb dX4_wipe_6 (by decide) ?_
  refine p4_taped S hK hP hD hS dX4_wipe_7 (fun H locs hP hD hS => ?_)
  refine lv_iload_n hx hb dX4_wipe_10 rfl (lv_at hl 0 rfl) ?_
  exact WR.iret S hr hlk hP hS (rfl) rfl dX4_wipe_11
set_option maxRecDepth 100000 in
set_option maxHeartbeats 4000000 in
theorem c_X4_feed_ok (l : Launch) (D : va_G) (cI cJ : ClassId) (a : Nat → Nat) (f : Nat → Int32) (σ : Nat → Nat → Int32) (x : Int32) (q : Nat) (b : Nat) (hb9 : σ 9 1 = nI b) (hb120 : b ≤ 120) (hq1 : 1 ≤ q) (hq : q ≤ 4) (hbq : b + q ≤ 120) : WR l yX4_feed cX4_feed 4 (some .int) 1 D cI cJ (MW cI a f σ) [.ref (a 0), .int x, .int (nI q)] (some (.int (nI (b + q)))) (MW cI a f (NT σ (fdT (σ 5) b x q q) (upd (σ 9) 1 (nI (b + q))))) := by
  refine WR.of (by decide) (Nat.le_of_ble_eq_true rfl) (fun p e s m below meth c ls A S hr hlk hK hP hD hS hA hl => ?_)
  obtain ⟨hx, hb, hml, hown, hU⟩ := id S
  have hl : lv_has ls 4 [(0, .ref (a 0)), (1, .int x), (2, .int (nI q))] := hl
  refine lv_iload_n hx hb dX4_feed_0 rfl (lv_at hl 2 rfl) ?_
  refine lv_i2l hx hb dX4_feed_1 rfl ?_
  refine lv_lconst (v := 1) hx hb dX4_feed_2 (by decide) ?_
  refine lv_ldc2 (v := 4) hx hb hown (hU _ mK_X4_205) dX4_feed_3 ?_
  refine RO.callS S ks_X4_49 (c_X4_isIn l D cI cJ a f σ (nI q) (nI 1) (nI 4)) hK hP ⟨Nat.le_of_ble_eq_true rfl, Nat.le_of_ble_eq_true rfl⟩ hl.1 rfl rfl (Nat.le_of_ble_eq_true rfl) (Nat.zero_le _) (Nat.zero_le _) dX4_feed_6 ?_
  refine q_if_neB (tgt := 19) hx hb dX4_feed_9 (by decide) (fun _ => ?_) (fun h => absurd (⟨nI_le (by omega) (by omega), nI_le (by omega) (by omega)⟩) h)
  refine lv_aload_n hx hb dX4_feed_19 rfl (lv_at hl 0 rfl) ?_
  refine g4_taped S hK hP dX4_feed_20 ?_
  refine q_eqi (y := nI b) (hb9) ?_
  refine lv_iload_n hx hb dX4_feed_23 rfl (lv_at hl 2 rfl) ?_
  refine q_iaddN (a := b) (b := q) hx hb dX4_feed_24 ?_
  refine lv_bipush (v := nI 120) hx hb dX4_feed_25 (by decide) ?_
  refine q_icmp_leN (tgt := 37) (a := b + q) (b := 120) hx hb dX4_feed_27 (by decide) (by omega) (by omega) (fun _ => ?_) (fun h => absurd h (by omega))
  refine lv_iload_n hx hb dX4_feed_37 rfl (lv_at hl 2 rfl) ?_
  refine lv_iconst (v := nI 1) hx hb dX4_feed_38 (by decide) ?_
  refine q_isubN (a := q) (b := 1) hx hb dX4_feed_39 (by omega) ?_
  refine lv_istore_n (lv' := [(3, .int (nI (q - 1))), (0, .ref (a 0)), (1, .int x), (2, .int (nI q))]) hx hb dX4_feed_40 rfl hl (by decide) rfl (fun ls hl => ?_)
  have L_41 : ∀ (n9 : Nat) (j : Nat) (H : Heap) (locs : List Loc) (ls : Array Slot), q - j < n9 → (j ≤ q) → va_P D vwCl (MW cI a f (NT σ (fdT (σ 5) b x q j) (upd (σ 9) 1 (nI (b + j))))) H → va_D A (MW cI a f (NT σ (fdT (σ 5) b x q j) (upd (σ 9) 1 (nI (b + j))))) → va_S A s.heap H locs → lv_has ls 4 [(0, .ref (a 0)), (1, .int x), (2, .int (nI q)), (3, .int (dnI (q - j)))] → W p l e (rmd 1) s m ([.ref (a 0), .int x, .int (nI q)] : List Value).toArray below meth c H locs 0 0 (ZW below ([.ref (a 0), .int x, .int (nI q)] : List Value).toArray s D (some (.int (nI (b + q)))) (MW cI a f (NT σ (fdT (σ 5) b x q q) (upd (σ 9) 1 (nI (b + q))))) A) (F0 m 41 ls []) := by
    intro n9
    induction n9 with
    | zero => intro j H locs ls hmeas; exact absurd hmeas (Nat.not_lt_zero _)
    | succ n9 ih_41 =>
      intro j H locs ls hmeas hj hP hD hS hl
      cases hu : q - j with
      | zero =>
        have hl : lv_has ls 4 [(0, .ref (a 0)), (1, .int x), (2, .int (nI q)), (3, .int (-1))] := by rw [hu] at hl; exact hl
        refine lv_iload_n hx hb dX4_feed_41 rfl (lv_at hl 3 rfl) ?_
        refine lv_if_lt (tgt := 80) hx hb dX4_feed_42 (by decide) (fun _ => ?_) (fun h => absurd (by decide) h)
        refine lv_aload_n hx hb dX4_feed_80 rfl (lv_at hl 0 rfl) ?_
        refine g4_taped S hK hP dX4_feed_81 ?_
        refine q_eqi (y := nI (b + j)) (rfl) ?_
        exact WR.iret S hr hlk hP hS (by rw [show j = q by omega]) (congrArg (fun z => some (Value.int z)) (by rw [show j = q by omega])) dX4_feed_84
      | succ i =>
        have hl : lv_has ls 4 [(0, .ref (a 0)), (1, .int x), (2, .int (nI q)), (3, .int (nI i))] := by rw [hu] at hl; exact hl
        refine lv_iload_n hx hb dX4_feed_41 rfl (lv_at hl 3 rfl) ?_
        refine q_if_ltN (tgt := 80) (a := i) hx hb dX4_feed_42 (by decide) (by omega) ?_
        refine lv_aload_n hx hb dX4_feed_45 rfl (lv_at hl 0 rfl) ?_
        refine g4_tape S hK hP dX4_feed_46 ?_
        refine lv_aload_n hx hb dX4_feed_49 rfl (lv_at hl 0 rfl) ?_
        refine g4_taped S hK hP dX4_feed_50 ?_
        refine q_eqi (y := nI (b + j)) (rfl) ?_
        refine lv_iload_n hx hb dX4_feed_53 rfl (lv_at hl 1 rfl) ?_
        refine lv_bipush (v := nI 8) hx hb dX4_feed_54 (by decide) ?_
        refine lv_iload_n hx hb dX4_feed_56 rfl (lv_at hl 3 rfl) ?_
        refine q_imulN (a := 8) (b := i) hx hb dX4_feed_57 ?_
        refine lv_ishr hx hb dX4_feed_58 ?_
        refine lv_sipush (v := nI 255) hx hb dX4_feed_59 (by decide) ?_
        refine lv_iand hx hb dX4_feed_62 ?_
        refine q_eqi (y := byt x i) (rfl) ?_
        refine s4_tape S hK hP hD hS (j := b + j) (by omega) dX4_feed_63 (fun H locs hP hD hS => ?_)
        rw [NT_5] at hP hD
        refine lv_aload_n hx hb dX4_feed_64 rfl (lv_at hl 0 rfl) ?_
        refine lv_dup hx hb dX4_feed_65 rfl ?_
        refine g4_taped S hK hP dX4_feed_66 ?_
        refine q_eqi (y := nI (b + j)) (rfl) ?_
        refine lv_iconst (v := nI 1) hx hb dX4_feed_69 (by decide) ?_
        refine q_iaddN (a := b + j) (b := 1) hx hb dX4_feed_70 ?_
        refine p4_taped S hK hP hD hS dX4_feed_71 (fun H locs hP hD hS => ?_)
        rw [NT_9, upd_upd] at hP hD
        refine lv_iinc (v := nI i + Int32.ofInt (-1)) (lv' := [(3, .int (nI i + Int32.ofInt (-1))), (0, .ref (a 0)), (1, .int x), (2, .int (nI q))]) hx hb dX4_feed_74 hl (k := 3) rfl rfl (by decide) rfl (fun ls hl => ?_)
        refine lv_goto (tgt := 41) hx hb dX4_feed_77 (by decide) ?_
        exact ih_41 (j + 1) _ _ ls (by omega) (by omega) (by rw [fdT_s (show q - 1 - j = i by omega)]; exact hP) (by rw [fdT_s (show q - 1 - j = i by omega)]; exact hD) hS (by rw [show dnI (q - (j + 1)) = nI i + Int32.ofInt (-1) from by rw [show q - (j + 1) = i by omega]; exact (dnI_s i).symm]; exact lv_sub hl [1, 2, 3, 0] rfl)
  exact L_41 ((q - 0) + 1) 0 _ _ ls (Nat.lt_succ_self _) (Nat.zero_le _) (by rw [NT_0 hb9]; exact hP) (by rw [NT_0 hb9]; exact hD) hS (by rw [show dnI (q - 0) = nI (q - 1) from by rw [show q - 0 = (q - 1) + 1 by omega]; rfl]; exact lv_sub hl [1, 2, 3, 0] rfl)
set_option maxRecDepth 100000 in
set_option maxHeartbeats 4000000 in
theorem c_X4_feed_full (l : Launch) (D : va_G) (cI cJ : ClassId) (a : Nat → Nat) (f : Nat → Int32) (σ : Nat → Nat → Int32) (x : Int32) (q : Nat) (b : Nat) (hb9 : σ 9 1 = nI b) (hb120 : b ≤ 120) (hq1 : 1 ≤ q) (hq : q ≤ 4) (hbq : 120 < b + q) : WR l yX4_feed cX4_feed 4 (some .int) 1 D cI cJ (MW cI a f σ) [.ref (a 0), .int x, .int (nI q)] (some (.int (-1000002))) (MW cI a f (va_up σ 4 (mFi (σ 4) 1))) := by
  refine WR.of (by decide) (Nat.le_of_ble_eq_true rfl) (fun p e s m below meth c ls A S hr hlk hK hP hD hS hA hl => ?_)
  obtain ⟨hx, hb, hml, hown, hU⟩ := id S
  have hl : lv_has ls 4 [(0, .ref (a 0)), (1, .int x), (2, .int (nI q))] := hl
  refine lv_iload_n hx hb dX4_feed_0 rfl (lv_at hl 2 rfl) ?_
  refine lv_i2l hx hb dX4_feed_1 rfl ?_
  refine lv_lconst (v := 1) hx hb dX4_feed_2 (by decide) ?_
  refine lv_ldc2 (v := 4) hx hb hown (hU _ mK_X4_205) dX4_feed_3 ?_
  refine RO.callS S ks_X4_49 (c_X4_isIn l D cI cJ a f σ (nI q) (nI 1) (nI 4)) hK hP ⟨Nat.le_of_ble_eq_true rfl, Nat.le_of_ble_eq_true rfl⟩ hl.1 rfl rfl (Nat.le_of_ble_eq_true rfl) (Nat.zero_le _) (Nat.zero_le _) dX4_feed_6 ?_
  refine q_if_neB (tgt := 19) hx hb dX4_feed_9 (by decide) (fun _ => ?_) (fun h => absurd (⟨nI_le (by omega) (by omega), nI_le (by omega) (by omega)⟩) h)
  refine lv_aload_n hx hb dX4_feed_19 rfl (lv_at hl 0 rfl) ?_
  refine g4_taped S hK hP dX4_feed_20 ?_
  refine q_eqi (y := nI b) (hb9) ?_
  refine lv_iload_n hx hb dX4_feed_23 rfl (lv_at hl 2 rfl) ?_
  refine q_iaddN (a := b) (b := q) hx hb dX4_feed_24 ?_
  refine lv_bipush (v := nI 120) hx hb dX4_feed_25 (by decide) ?_
  refine q_icmp_leN (tgt := 37) (a := b + q) (b := 120) hx hb dX4_feed_27 (by decide) (by omega) (by omega) (fun h => absurd h (by omega)) (fun _ => ?_)
  refine lv_aload_n hx hb dX4_feed_30 rfl (lv_at hl 0 rfl) ?_
  refine lv_ldc (v := (-1000002)) hx hb hown (hU _ mK_X4_75) dX4_feed_31 ?_
  refine WR.callV (w1 := MW cI a f (va_up σ 4 (mFi (σ 4) 1))) S kv_X4_39 (c_X4_fd1 l D cI cJ a f σ) hK hP hD hS hA ([]) ([]) rfl rfl MW_fst rfl ⟨Nat.le_of_ble_eq_true rfl, Nat.le_of_ble_eq_true rfl⟩ hl.1 rfl rfl (Nat.le_of_ble_eq_true rfl) (Nat.zero_le _) (Nat.zero_le _) dX4_feed_33 (fun H locs hP hD hS => ?_)
  exact WR.iret S hr hlk hP hS (rfl) rfl dX4_feed_36
set_option maxRecDepth 100000 in
set_option maxHeartbeats 4000000 in
theorem c_X4_feed_bad (l : Launch) (D : va_G) (cI cJ : ClassId) (a : Nat → Nat) (f : Nat → Int32) (σ : Nat → Nat → Int32) (x : Int32) (y : Int32) (hb0 : ¬ ((nI 1 ≤ y ∧ y ≤ nI 4))) : WR l yX4_feed cX4_feed 4 (some .int) 1 D cI cJ (MW cI a f σ) [.ref (a 0), .int x, .int y] (some (.int (-1000001))) (MW cI a f (va_up σ 4 (mFi (σ 4) 0))) := by
  refine WR.of (by decide) (Nat.le_of_ble_eq_true rfl) (fun p e s m below meth c ls A S hr hlk hK hP hD hS hA hl => ?_)
  obtain ⟨hx, hb, hml, hown, hU⟩ := id S
  have hl : lv_has ls 4 [(0, .ref (a 0)), (1, .int x), (2, .int y)] := hl
  refine lv_iload_n hx hb dX4_feed_0 rfl (lv_at hl 2 rfl) ?_
  refine lv_i2l hx hb dX4_feed_1 rfl ?_
  refine lv_lconst (v := 1) hx hb dX4_feed_2 (by decide) ?_
  refine lv_ldc2 (v := 4) hx hb hown (hU _ mK_X4_205) dX4_feed_3 ?_
  refine RO.callS S ks_X4_49 (c_X4_isIn l D cI cJ a f σ y (nI 1) (nI 4)) hK hP ⟨Nat.le_of_ble_eq_true rfl, Nat.le_of_ble_eq_true rfl⟩ hl.1 rfl rfl (Nat.le_of_ble_eq_true rfl) (Nat.zero_le _) (Nat.zero_le _) dX4_feed_6 ?_
  refine q_if_neB (tgt := 19) hx hb dX4_feed_9 (by decide) (fun c_9 => ?_) (fun c_9 => ?_)
  · exact absurd (c_9) hb0
  · refine lv_aload_n hx hb dX4_feed_12 rfl (lv_at hl 0 rfl) ?_
    refine lv_ldc (v := (-1000001)) hx hb hown (hU _ mK_X4_37) dX4_feed_13 ?_
    refine WR.callV (w1 := MW cI a f (va_up σ 4 (mFi (σ 4) 0))) S kv_X4_39 (c_X4_fd0 l D cI cJ a f σ) hK hP hD hS hA ([]) ([]) rfl rfl MW_fst rfl ⟨Nat.le_of_ble_eq_true rfl, Nat.le_of_ble_eq_true rfl⟩ hl.1 rfl rfl (Nat.le_of_ble_eq_true rfl) (Nat.zero_le _) (Nat.zero_le _) dX4_feed_15 (fun H locs hP hD hS => ?_)
    exact WR.iret S hr hlk hP hS (rfl) rfl dX4_feed_18
set_option maxRecDepth 100000 in
set_option maxHeartbeats 4000000 in
theorem c_X4_hold_ok (l : Launch) (D : va_G) (cI cJ : ClassId) (a : Nat → Nat) (f : Nat → Int32) (σ : Nat → Nat → Int32) (q : Nat) (k : Nat) (n : Nat) (hw : Wk f n) (hq : q < 10) (hk : k < n) : WR l yX4_hold cX4_hold 3 (some .int) 1 D cI cJ (MW cI a f σ) [.ref (a 0), .int (nI q), .int (nI k)] (some (.int (nI 1))) (MW cI a (upd f (72 + q) (nI k)) σ) := by
  have h8 := hw.2.1
  refine WR.of (by decide) (Nat.le_of_ble_eq_true rfl) (fun p e s m below meth c ls A S hr hlk hK hP hD hS hA hl => ?_)
  obtain ⟨hx, hb, hml, hown, hU⟩ := id S
  have hl : lv_has ls 3 [(0, .ref (a 0)), (1, .int (nI q)), (2, .int (nI k))] := hl
  refine lv_iload_n hx hb dX4_hold_0 rfl (lv_at hl 1 rfl) ?_
  refine lv_i2l hx hb dX4_hold_1 rfl ?_
  refine lv_lconst (v := 0) hx hb dX4_hold_2 (by decide) ?_
  refine lv_ldc2 (v := 9) hx hb hown (hU _ mK_X4_47) dX4_hold_3 ?_
  refine RO.callS S ks_X4_49 (c_X4_isIn l D cI cJ a f σ (nI q) (nI 0) (nI 9)) hK hP ⟨Nat.le_of_ble_eq_true rfl, Nat.le_of_ble_eq_true rfl⟩ hl.1 rfl rfl (Nat.le_of_ble_eq_true rfl) (Nat.zero_le _) (Nat.zero_le _) dX4_hold_6 ?_
  refine q_if_eqB (tgt := 25) hx hb dX4_hold_9 (by decide) (fun h => absurd (⟨nI_le (by omega) (by omega), nI_le (by omega) (by omega)⟩) h) (fun _ => ?_)
  refine lv_iload_n hx hb dX4_hold_12 rfl (lv_at hl 2 rfl) ?_
  refine lv_iconst (v := (-1)) hx hb dX4_hold_13 (by decide) ?_
  refine lv_icmp_eq (tgt := 32) hx hb dX4_hold_14 (by decide) (fun h => absurd h (nI_nem (by omega))) (fun _ => ?_)
  refine lv_aload_n hx hb dX4_hold_17 rfl (lv_at hl 0 rfl) ?_
  refine lv_iload_n hx hb dX4_hold_18 rfl (lv_at hl 2 rfl) ?_
  refine RO.callV S kv_X4_86 (c_X4_isCask l D cI cJ a f σ (nI k) n (hw.1)) hK hP rfl ⟨Nat.le_of_ble_eq_true rfl, Nat.le_of_ble_eq_true rfl⟩ hl.1 rfl rfl (Nat.le_of_ble_eq_true rfl) (Nat.zero_le _) (Nat.zero_le _) dX4_hold_19 ?_
  refine q_if_neB (tgt := 32) hx hb dX4_hold_22 (by decide) (fun _ => ?_) (fun h => absurd (⟨nI_pos' (by omega), nI_lt (by omega) (by omega)⟩) h)
  refine lv_aload_n hx hb dX4_hold_32 rfl (lv_at hl 0 rfl) ?_
  refine g4_s S hK hP dX4_hold_33 ?_
  refine lv_bipush (v := nI 72) hx hb dX4_hold_36 (by decide) ?_
  refine lv_iload_n hx hb dX4_hold_38 rfl (lv_at hl 1 rfl) ?_
  refine q_iaddN (a := 72) (b := q) hx hb dX4_hold_39 ?_
  refine lv_iload_n hx hb dX4_hold_40 rfl (lv_at hl 2 rfl) ?_
  refine s4_s S hK hP hD hS (j := 72 + q) (by omega) dX4_hold_41 (fun H locs hP hD hS => ?_)
  refine lv_iconst (v := nI 1) hx hb dX4_hold_42 (by decide) ?_
  exact WR.iret S hr hlk hP hS (rfl) rfl dX4_hold_43
set_option maxRecDepth 100000 in
set_option maxHeartbeats 4000000 in
theorem c_X4_hold_none (l : Launch) (D : va_G) (cI cJ : ClassId) (a : Nat → Nat) (f : Nat → Int32) (σ : Nat → Nat → Int32) (q : Nat) (n : Nat) (hw : Wk f n) (hq : q < 10) : WR l yX4_hold cX4_hold 3 (some .int) 1 D cI cJ (MW cI a f σ) [.ref (a 0), .int (nI q), .int (-1)] (some (.int (nI 1))) (MW cI a (upd f (72 + q) (-1)) σ) := by
  refine WR.of (by decide) (Nat.le_of_ble_eq_true rfl) (fun p e s m below meth c ls A S hr hlk hK hP hD hS hA hl => ?_)
  obtain ⟨hx, hb, hml, hown, hU⟩ := id S
  have hl : lv_has ls 3 [(0, .ref (a 0)), (1, .int (nI q)), (2, .int (-1))] := hl
  refine lv_iload_n hx hb dX4_hold_0 rfl (lv_at hl 1 rfl) ?_
  refine lv_i2l hx hb dX4_hold_1 rfl ?_
  refine lv_lconst (v := 0) hx hb dX4_hold_2 (by decide) ?_
  refine lv_ldc2 (v := 9) hx hb hown (hU _ mK_X4_47) dX4_hold_3 ?_
  refine RO.callS S ks_X4_49 (c_X4_isIn l D cI cJ a f σ (nI q) (nI 0) (nI 9)) hK hP ⟨Nat.le_of_ble_eq_true rfl, Nat.le_of_ble_eq_true rfl⟩ hl.1 rfl rfl (Nat.le_of_ble_eq_true rfl) (Nat.zero_le _) (Nat.zero_le _) dX4_hold_6 ?_
  refine q_if_eqB (tgt := 25) hx hb dX4_hold_9 (by decide) (fun h => absurd (⟨nI_le (by omega) (by omega), nI_le (by omega) (by omega)⟩) h) (fun _ => ?_)
  refine lv_iload_n hx hb dX4_hold_12 rfl (lv_at hl 2 rfl) ?_
  refine lv_iconst (v := (-1)) hx hb dX4_hold_13 (by decide) ?_
  refine lv_icmp_eq (tgt := 32) hx hb dX4_hold_14 (by decide) (fun _ => ?_) (fun h => absurd h (fun q => q rfl))
  refine lv_aload_n hx hb dX4_hold_32 rfl (lv_at hl 0 rfl) ?_
  refine g4_s S hK hP dX4_hold_33 ?_
  refine lv_bipush (v := nI 72) hx hb dX4_hold_36 (by decide) ?_
  refine lv_iload_n hx hb dX4_hold_38 rfl (lv_at hl 1 rfl) ?_
  refine q_iaddN (a := 72) (b := q) hx hb dX4_hold_39 ?_
  refine lv_iload_n hx hb dX4_hold_40 rfl (lv_at hl 2 rfl) ?_
  refine s4_s S hK hP hD hS (j := 72 + q) (by omega) dX4_hold_41 (fun H locs hP hD hS => ?_)
  refine lv_iconst (v := nI 1) hx hb dX4_hold_42 (by decide) ?_
  exact WR.iret S hr hlk hP hS (rfl) rfl dX4_hold_43
set_option maxRecDepth 100000 in
set_option maxHeartbeats 4000000 in
theorem c_X4_hold_bad (l : Launch) (D : va_G) (cI cJ : ClassId) (a : Nat → Nat) (f : Nat → Int32) (σ : Nat → Nat → Int32) (x : Int32) (y : Int32) (n : Nat) (hw : Wk f n) (hb0 : ¬ ((nI 0 ≤ x ∧ x ≤ nI 9) ∧ (y = -1 ∨ (0 ≤ y ∧ y < nI n)))) : WR l yX4_hold cX4_hold 3 (some .int) 1 D cI cJ (MW cI a f σ) [.ref (a 0), .int x, .int y] (some (.int (-1000001))) (MW cI a f (va_up σ 4 (mFi (σ 4) 0))) := by
  refine WR.of (by decide) (Nat.le_of_ble_eq_true rfl) (fun p e s m below meth c ls A S hr hlk hK hP hD hS hA hl => ?_)
  obtain ⟨hx, hb, hml, hown, hU⟩ := id S
  have hl : lv_has ls 3 [(0, .ref (a 0)), (1, .int x), (2, .int y)] := hl
  refine lv_iload_n hx hb dX4_hold_0 rfl (lv_at hl 1 rfl) ?_
  refine lv_i2l hx hb dX4_hold_1 rfl ?_
  refine lv_lconst (v := 0) hx hb dX4_hold_2 (by decide) ?_
  refine lv_ldc2 (v := 9) hx hb hown (hU _ mK_X4_47) dX4_hold_3 ?_
  refine RO.callS S ks_X4_49 (c_X4_isIn l D cI cJ a f σ x (nI 0) (nI 9)) hK hP ⟨Nat.le_of_ble_eq_true rfl, Nat.le_of_ble_eq_true rfl⟩ hl.1 rfl rfl (Nat.le_of_ble_eq_true rfl) (Nat.zero_le _) (Nat.zero_le _) dX4_hold_6 ?_
  refine q_if_eqB (tgt := 25) hx hb dX4_hold_9 (by decide) (fun c_9 => ?_) (fun c_9 => ?_)
  · refine lv_aload_n hx hb dX4_hold_25 rfl (lv_at hl 0 rfl) ?_
    refine lv_ldc (v := (-1000001)) hx hb hown (hU _ mK_X4_37) dX4_hold_26 ?_
    refine WR.callV (w1 := MW cI a f (va_up σ 4 (mFi (σ 4) 0))) S kv_X4_39 (c_X4_fd0 l D cI cJ a f σ) hK hP hD hS hA ([]) ([]) rfl rfl MW_fst rfl ⟨Nat.le_of_ble_eq_true rfl, Nat.le_of_ble_eq_true rfl⟩ hl.1 rfl rfl (Nat.le_of_ble_eq_true rfl) (Nat.zero_le _) (Nat.zero_le _) dX4_hold_28 (fun H locs hP hD hS => ?_)
    exact WR.iret S hr hlk hP hS (rfl) rfl dX4_hold_31
  · refine lv_iload_n hx hb dX4_hold_12 rfl (lv_at hl 2 rfl) ?_
    refine lv_iconst (v := (-1)) hx hb dX4_hold_13 (by decide) ?_
    refine lv_icmp_eq (tgt := 32) hx hb dX4_hold_14 (by decide) (fun c_14 => ?_) (fun c_14 => ?_)
    · exact absurd (⟨c_9, Or.inl c_14⟩) hb0
    · refine lv_aload_n hx hb dX4_hold_17 rfl (lv_at hl 0 rfl) ?_
      refine lv_iload_n hx hb dX4_hold_18 rfl (lv_at hl 2 rfl) ?_
      refine RO.callV S kv_X4_86 (c_X4_isCask l D cI cJ a f σ y n (hw.1)) hK hP rfl ⟨Nat.le_of_ble_eq_true rfl, Nat.le_of_ble_eq_true rfl⟩ hl.1 rfl rfl (Nat.le_of_ble_eq_true rfl) (Nat.zero_le _) (Nat.zero_le _) dX4_hold_19 ?_
      refine q_if_neB (tgt := 32) hx hb dX4_hold_22 (by decide) (fun c_22 => ?_) (fun c_22 => ?_)
      · exact absurd (⟨c_9, Or.inr c_22⟩) hb0
      · refine lv_aload_n hx hb dX4_hold_25 rfl (lv_at hl 0 rfl) ?_
        refine lv_ldc (v := (-1000001)) hx hb hown (hU _ mK_X4_37) dX4_hold_26 ?_
        refine WR.callV (w1 := MW cI a f (va_up σ 4 (mFi (σ 4) 0))) S kv_X4_39 (c_X4_fd0 l D cI cJ a f σ) hK hP hD hS hA ([]) ([]) rfl rfl MW_fst rfl ⟨Nat.le_of_ble_eq_true rfl, Nat.le_of_ble_eq_true rfl⟩ hl.1 rfl rfl (Nat.le_of_ble_eq_true rfl) (Nat.zero_le _) (Nat.zero_le _) dX4_hold_28 (fun H locs hP hD hS => ?_)
        exact WR.iret S hr hlk hP hS (rfl) rfl dX4_hold_31
set_option maxRecDepth 100000 in
set_option maxHeartbeats 4000000 in
theorem c_X4_isUnder (l : Launch) (D : va_G) (cI cJ : ClassId) (a : Nat → Nat) (f : Nat → Int32) (σ : Nat → Nat → Int32) (q : Nat) (w : Nat) (hq : q ≤ 6) (hw6 : w ≤ 6) : RO l yX4_isUnder cX4_isUnder 2 (some .boolean) 0 D cI cJ (MW cI a f σ) [.int (nI q), .int (nI w)] (.int (bI (uU q w))) := by
  refine RO.of (by decide) (Nat.le_of_ble_eq_true rfl) (fun p e s m below meth c ls S hr hlk hK hP hl => ?_)
  obtain ⟨hx, hb, hml, hown, hU⟩ := id S
  have hl : lv_has ls 2 [(0, .int (nI q)), (1, .int (nI w))] := hl
  refine lv_iload_n hx hb dX4_isUnder_0 rfl (lv_at hl 1 rfl) ?_
  refine q_if_eqN (tgt := 45) (a := w) hx hb dX4_isUnder_1 (by decide) (by omega) (fun c_1 => ?_) (fun c_1 => ?_)
  · refine lv_iconst (v := nI 1) hx hb dX4_isUnder_45 (by decide) ?_
    refine lv_goto (tgt := 50) hx hb dX4_isUnder_46 (by decide) ?_
    exact RO.zret S hr hlk (bI_t (by unfold uU; omega)) dX4_isUnder_50
  · refine lv_iload_n hx hb dX4_isUnder_4 rfl (lv_at hl 0 rfl) ?_
    refine lv_iload_n hx hb dX4_isUnder_5 rfl (lv_at hl 1 rfl) ?_
    refine q_icmp_eqN (tgt := 45) (a := q) (b := w) hx hb dX4_isUnder_6 (by decide) (by omega) (by omega) (fun c_6 => ?_) (fun c_6 => ?_)
    · refine lv_iconst (v := nI 1) hx hb dX4_isUnder_45 (by decide) ?_
      refine lv_goto (tgt := 50) hx hb dX4_isUnder_46 (by decide) ?_
      exact RO.zret S hr hlk (bI_t (by unfold uU; omega)) dX4_isUnder_50
    · refine lv_iload_n hx hb dX4_isUnder_9 rfl (lv_at hl 1 rfl) ?_
      refine lv_iconst (v := nI 2) hx hb dX4_isUnder_10 (by decide) ?_
      refine q_icmp_neN (tgt := 24) (a := w) (b := 2) hx hb dX4_isUnder_11 (by decide) (by omega) (by omega) (fun c_11 => ?_) (fun c_11 => ?_)
      · refine lv_iload_n hx hb dX4_isUnder_24 rfl (lv_at hl 1 rfl) ?_
        refine lv_iconst (v := nI 3) hx hb dX4_isUnder_25 (by decide) ?_
        refine q_icmp_neN (tgt := 34) (a := w) (b := 3) hx hb dX4_isUnder_26 (by decide) (by omega) (by omega) (fun c_26 => ?_) (fun c_26 => ?_)
        · refine lv_iload_n hx hb dX4_isUnder_34 rfl (lv_at hl 1 rfl) ?_
          refine lv_iconst (v := nI 1) hx hb dX4_isUnder_35 (by decide) ?_
          refine q_icmp_neN (tgt := 49) (a := w) (b := 1) hx hb dX4_isUnder_36 (by decide) (by omega) (by omega) (fun c_36 => ?_) (fun c_36 => ?_)
          · refine lv_iconst (v := nI 0) hx hb dX4_isUnder_49 (by decide) ?_
            exact RO.zret S hr hlk (bI_f (by unfold uU; omega)) dX4_isUnder_50
          · refine lv_iload_n hx hb dX4_isUnder_39 rfl (lv_at hl 0 rfl) ?_
            refine lv_bipush (v := nI 6) hx hb dX4_isUnder_40 (by decide) ?_
            refine q_icmp_neN (tgt := 49) (a := q) (b := 6) hx hb dX4_isUnder_42 (by decide) (by omega) (by omega) (fun c_42 => ?_) (fun c_42 => ?_)
            · refine lv_iconst (v := nI 0) hx hb dX4_isUnder_49 (by decide) ?_
              exact RO.zret S hr hlk (bI_f (by unfold uU; omega)) dX4_isUnder_50
            · refine lv_iconst (v := nI 1) hx hb dX4_isUnder_45 (by decide) ?_
              refine lv_goto (tgt := 50) hx hb dX4_isUnder_46 (by decide) ?_
              exact RO.zret S hr hlk (bI_t (by unfold uU; omega)) dX4_isUnder_50
        · refine lv_iload_n hx hb dX4_isUnder_29 rfl (lv_at hl 0 rfl) ?_
          refine lv_iconst (v := nI 4) hx hb dX4_isUnder_30 (by decide) ?_
          refine q_icmp_eqN (tgt := 45) (a := q) (b := 4) hx hb dX4_isUnder_31 (by decide) (by omega) (by omega) (fun c_31 => ?_) (fun c_31 => ?_)
          · refine lv_iconst (v := nI 1) hx hb dX4_isUnder_45 (by decide) ?_
            refine lv_goto (tgt := 50) hx hb dX4_isUnder_46 (by decide) ?_
            exact RO.zret S hr hlk (bI_t (by unfold uU; omega)) dX4_isUnder_50
          · refine lv_iload_n hx hb dX4_isUnder_34 rfl (lv_at hl 1 rfl) ?_
            refine lv_iconst (v := nI 1) hx hb dX4_isUnder_35 (by decide) ?_
            refine q_icmp_neN (tgt := 49) (a := w) (b := 1) hx hb dX4_isUnder_36 (by decide) (by omega) (by omega) (fun c_36 => ?_) (fun c_36 => ?_)
            · refine lv_iconst (v := nI 0) hx hb dX4_isUnder_49 (by decide) ?_
              exact RO.zret S hr hlk (bI_f (by unfold uU; omega)) dX4_isUnder_50
            · refine lv_iload_n hx hb dX4_isUnder_39 rfl (lv_at hl 0 rfl) ?_
              refine lv_bipush (v := nI 6) hx hb dX4_isUnder_40 (by decide) ?_
              refine q_icmp_neN (tgt := 49) (a := q) (b := 6) hx hb dX4_isUnder_42 (by decide) (by omega) (by omega) (fun c_42 => ?_) (fun c_42 => ?_)
              · refine lv_iconst (v := nI 0) hx hb dX4_isUnder_49 (by decide) ?_
                exact RO.zret S hr hlk (bI_f (by unfold uU; omega)) dX4_isUnder_50
              · refine lv_iconst (v := nI 1) hx hb dX4_isUnder_45 (by decide) ?_
                refine lv_goto (tgt := 50) hx hb dX4_isUnder_46 (by decide) ?_
                exact RO.zret S hr hlk (bI_t (by unfold uU; omega)) dX4_isUnder_50
      · refine lv_iload_n hx hb dX4_isUnder_14 rfl (lv_at hl 0 rfl) ?_
        refine lv_iconst (v := nI 3) hx hb dX4_isUnder_15 (by decide) ?_
        refine q_icmp_eqN (tgt := 45) (a := q) (b := 3) hx hb dX4_isUnder_16 (by decide) (by omega) (by omega) (fun c_16 => ?_) (fun c_16 => ?_)
        · refine lv_iconst (v := nI 1) hx hb dX4_isUnder_45 (by decide) ?_
          refine lv_goto (tgt := 50) hx hb dX4_isUnder_46 (by decide) ?_
          exact RO.zret S hr hlk (bI_t (by unfold uU; omega)) dX4_isUnder_50
        · refine lv_iload_n hx hb dX4_isUnder_19 rfl (lv_at hl 0 rfl) ?_
          refine lv_iconst (v := nI 4) hx hb dX4_isUnder_20 (by decide) ?_
          refine q_icmp_eqN (tgt := 45) (a := q) (b := 4) hx hb dX4_isUnder_21 (by decide) (by omega) (by omega) (fun c_21 => ?_) (fun c_21 => ?_)
          · refine lv_iconst (v := nI 1) hx hb dX4_isUnder_45 (by decide) ?_
            refine lv_goto (tgt := 50) hx hb dX4_isUnder_46 (by decide) ?_
            exact RO.zret S hr hlk (bI_t (by unfold uU; omega)) dX4_isUnder_50
          · refine lv_iload_n hx hb dX4_isUnder_24 rfl (lv_at hl 1 rfl) ?_
            refine lv_iconst (v := nI 3) hx hb dX4_isUnder_25 (by decide) ?_
            refine q_icmp_neN (tgt := 34) (a := w) (b := 3) hx hb dX4_isUnder_26 (by decide) (by omega) (by omega) (fun c_26 => ?_) (fun c_26 => ?_)
            · refine lv_iload_n hx hb dX4_isUnder_34 rfl (lv_at hl 1 rfl) ?_
              refine lv_iconst (v := nI 1) hx hb dX4_isUnder_35 (by decide) ?_
              refine q_icmp_neN (tgt := 49) (a := w) (b := 1) hx hb dX4_isUnder_36 (by decide) (by omega) (by omega) (fun c_36 => ?_) (fun c_36 => ?_)
              · refine lv_iconst (v := nI 0) hx hb dX4_isUnder_49 (by decide) ?_
                exact RO.zret S hr hlk (bI_f (by unfold uU; omega)) dX4_isUnder_50
              · refine lv_iload_n hx hb dX4_isUnder_39 rfl (lv_at hl 0 rfl) ?_
                refine lv_bipush (v := nI 6) hx hb dX4_isUnder_40 (by decide) ?_
                refine q_icmp_neN (tgt := 49) (a := q) (b := 6) hx hb dX4_isUnder_42 (by decide) (by omega) (by omega) (fun c_42 => ?_) (fun c_42 => ?_)
                · refine lv_iconst (v := nI 0) hx hb dX4_isUnder_49 (by decide) ?_
                  exact RO.zret S hr hlk (bI_f (by unfold uU; omega)) dX4_isUnder_50
                · refine lv_iconst (v := nI 1) hx hb dX4_isUnder_45 (by decide) ?_
                  refine lv_goto (tgt := 50) hx hb dX4_isUnder_46 (by decide) ?_
                  exact RO.zret S hr hlk (bI_t (by unfold uU; omega)) dX4_isUnder_50
            · refine lv_iload_n hx hb dX4_isUnder_29 rfl (lv_at hl 0 rfl) ?_
              refine lv_iconst (v := nI 4) hx hb dX4_isUnder_30 (by decide) ?_
              refine q_icmp_eqN (tgt := 45) (a := q) (b := 4) hx hb dX4_isUnder_31 (by decide) (by omega) (by omega) (fun c_31 => ?_) (fun c_31 => ?_)
              · refine lv_iconst (v := nI 1) hx hb dX4_isUnder_45 (by decide) ?_
                refine lv_goto (tgt := 50) hx hb dX4_isUnder_46 (by decide) ?_
                exact RO.zret S hr hlk (bI_t (by unfold uU; omega)) dX4_isUnder_50
              · refine lv_iload_n hx hb dX4_isUnder_34 rfl (lv_at hl 1 rfl) ?_
                refine lv_iconst (v := nI 1) hx hb dX4_isUnder_35 (by decide) ?_
                refine q_icmp_neN (tgt := 49) (a := w) (b := 1) hx hb dX4_isUnder_36 (by decide) (by omega) (by omega) (fun c_36 => ?_) (fun c_36 => ?_)
                · refine lv_iconst (v := nI 0) hx hb dX4_isUnder_49 (by decide) ?_
                  exact RO.zret S hr hlk (bI_f (by unfold uU; omega)) dX4_isUnder_50
                · refine lv_iload_n hx hb dX4_isUnder_39 rfl (lv_at hl 0 rfl) ?_
                  refine lv_bipush (v := nI 6) hx hb dX4_isUnder_40 (by decide) ?_
                  refine q_icmp_neN (tgt := 49) (a := q) (b := 6) hx hb dX4_isUnder_42 (by decide) (by omega) (by omega) (fun c_42 => ?_) (fun c_42 => ?_)
                  · refine lv_iconst (v := nI 0) hx hb dX4_isUnder_49 (by decide) ?_
                    exact RO.zret S hr hlk (bI_f (by unfold uU; omega)) dX4_isUnder_50
                  · refine lv_iconst (v := nI 1) hx hb dX4_isUnder_45 (by decide) ?_
                    refine lv_goto (tgt := 50) hx hb dX4_isUnder_46 (by decide) ?_
                    exact RO.zret S hr hlk (bI_t (by unfold uU; omega)) dX4_isUnder_50
set_option maxRecDepth 100000 in
set_option maxHeartbeats 4000000 in
theorem c_X4_as_bad (l : Launch) (D : va_G) (cI cJ : ClassId) (a : Nat → Nat) (f : Nat → Int32) (σ : Nat → Nat → Int32) (x : Int32) (y : Int32) (hb0 : ¬ ((nI 0 ≤ x ∧ x ≤ nI 9) ∧ (nI 0 ≤ y ∧ y ≤ nI 6))) : WR l yX4_as cX4_as 4 (some .int) 1 D cI cJ (MW cI a f σ) [.ref (a 0), .int x, .int y] (some (.int (-1000001))) (MW cI a f (va_up σ 4 (mFi (σ 4) 0))) := by
  refine WR.of (by decide) (Nat.le_of_ble_eq_true rfl) (fun p e s m below meth c ls A S hr hlk hK hP hD hS hA hl => ?_)
  obtain ⟨hx, hb, hml, hown, hU⟩ := id S
  have hl : lv_has ls 4 [(0, .ref (a 0)), (1, .int x), (2, .int y)] := hl
  refine lv_iload_n hx hb dX4_as_0 rfl (lv_at hl 1 rfl) ?_
  refine lv_i2l hx hb dX4_as_1 rfl ?_
  refine lv_lconst (v := 0) hx hb dX4_as_2 (by decide) ?_
  refine lv_ldc2 (v := 9) hx hb hown (hU _ mK_X4_47) dX4_as_3 ?_
  refine RO.callS S ks_X4_49 (c_X4_isIn l D cI cJ a f σ x (nI 0) (nI 9)) hK hP ⟨Nat.le_of_ble_eq_true rfl, Nat.le_of_ble_eq_true rfl⟩ hl.1 rfl rfl (Nat.le_of_ble_eq_true rfl) (Nat.zero_le _) (Nat.zero_le _) dX4_as_6 ?_
  refine q_if_eqB (tgt := 24) hx hb dX4_as_9 (by decide) (fun c_9 => ?_) (fun c_9 => ?_)
  · refine lv_aload_n hx hb dX4_as_24 rfl (lv_at hl 0 rfl) ?_
    refine lv_ldc (v := (-1000001)) hx hb hown (hU _ mK_X4_37) dX4_as_25 ?_
    refine WR.callV (w1 := MW cI a f (va_up σ 4 (mFi (σ 4) 0))) S kv_X4_39 (c_X4_fd0 l D cI cJ a f σ) hK hP hD hS hA ([]) ([]) rfl rfl MW_fst rfl ⟨Nat.le_of_ble_eq_true rfl, Nat.le_of_ble_eq_true rfl⟩ hl.1 rfl rfl (Nat.le_of_ble_eq_true rfl) (Nat.zero_le _) (Nat.zero_le _) dX4_as_27 (fun H locs hP hD hS => ?_)
    exact WR.iret S hr hlk hP hS (rfl) rfl dX4_as_30
  · refine lv_iload_n hx hb dX4_as_12 rfl (lv_at hl 2 rfl) ?_
    refine lv_i2l hx hb dX4_as_13 rfl ?_
    refine lv_lconst (v := 0) hx hb dX4_as_14 (by decide) ?_
    refine lv_ldc2 (v := 6) hx hb hown (hU _ mK_X4_73) dX4_as_15 ?_
    refine RO.callS S ks_X4_49 (c_X4_isIn l D cI cJ a f σ y (nI 0) (nI 6)) hK hP ⟨Nat.le_of_ble_eq_true rfl, Nat.le_of_ble_eq_true rfl⟩ hl.1 rfl rfl (Nat.le_of_ble_eq_true rfl) (Nat.zero_le _) (Nat.zero_le _) dX4_as_18 ?_
    refine q_if_neB (tgt := 31) hx hb dX4_as_21 (by decide) (fun c_21 => ?_) (fun c_21 => ?_)
    · exact absurd (⟨c_9, c_21⟩) hb0
    · refine lv_aload_n hx hb dX4_as_24 rfl (lv_at hl 0 rfl) ?_
      refine lv_ldc (v := (-1000001)) hx hb hown (hU _ mK_X4_37) dX4_as_25 ?_
      refine WR.callV (w1 := MW cI a f (va_up σ 4 (mFi (σ 4) 0))) S kv_X4_39 (c_X4_fd0 l D cI cJ a f σ) hK hP hD hS hA ([]) ([]) rfl rfl MW_fst rfl ⟨Nat.le_of_ble_eq_true rfl, Nat.le_of_ble_eq_true rfl⟩ hl.1 rfl rfl (Nat.le_of_ble_eq_true rfl) (Nat.zero_le _) (Nat.zero_le _) dX4_as_27 (fun H locs hP hD hS => ?_)
      exact WR.iret S hr hlk hP hS (rfl) rfl dX4_as_30
set_option maxRecDepth 100000 in
set_option maxHeartbeats 4000000 in
theorem c_X4_as_miss (l : Launch) (D : va_G) (cI cJ : ClassId) (a : Nat → Nat) (f : Nat → Int32) (σ : Nat → Nat → Int32) (p9 : Nat) (w : Nat) (n : Nat) (hw : Wk f n) (hp9 : p9 < 10) (hw6 : w ≤ 6) (hv : f (72 + p9) = -1) : WR l yX4_as cX4_as 4 (some .int) 1 D cI cJ (MW cI a f σ) [.ref (a 0), .int (nI p9), .int (nI w)] (some (.int (-1000006))) (MW cI a f (va_up σ 4 (mFi (σ 4) 5))) := by
  refine WR.of (by decide) (Nat.le_of_ble_eq_true rfl) (fun p e s m below meth c ls A S hr hlk hK hP hD hS hA hl => ?_)
  obtain ⟨hx, hb, hml, hown, hU⟩ := id S
  have hl : lv_has ls 4 [(0, .ref (a 0)), (1, .int (nI p9)), (2, .int (nI w))] := hl
  refine lv_iload_n hx hb dX4_as_0 rfl (lv_at hl 1 rfl) ?_
  refine lv_i2l hx hb dX4_as_1 rfl ?_
  refine lv_lconst (v := 0) hx hb dX4_as_2 (by decide) ?_
  refine lv_ldc2 (v := 9) hx hb hown (hU _ mK_X4_47) dX4_as_3 ?_
  refine RO.callS S ks_X4_49 (c_X4_isIn l D cI cJ a f σ (nI p9) (nI 0) (nI 9)) hK hP ⟨Nat.le_of_ble_eq_true rfl, Nat.le_of_ble_eq_true rfl⟩ hl.1 rfl rfl (Nat.le_of_ble_eq_true rfl) (Nat.zero_le _) (Nat.zero_le _) dX4_as_6 ?_
  refine q_if_eqB (tgt := 24) hx hb dX4_as_9 (by decide) (fun h => absurd (⟨nI_le (by omega) (by omega), nI_le (by omega) (by omega)⟩) h) (fun _ => ?_)
  refine lv_iload_n hx hb dX4_as_12 rfl (lv_at hl 2 rfl) ?_
  refine lv_i2l hx hb dX4_as_13 rfl ?_
  refine lv_lconst (v := 0) hx hb dX4_as_14 (by decide) ?_
  refine lv_ldc2 (v := 6) hx hb hown (hU _ mK_X4_73) dX4_as_15 ?_
  refine RO.callS S ks_X4_49 (c_X4_isIn l D cI cJ a f σ (nI w) (nI 0) (nI 6)) hK hP ⟨Nat.le_of_ble_eq_true rfl, Nat.le_of_ble_eq_true rfl⟩ hl.1 rfl rfl (Nat.le_of_ble_eq_true rfl) (Nat.zero_le _) (Nat.zero_le _) dX4_as_18 ?_
  refine q_if_neB (tgt := 31) hx hb dX4_as_21 (by decide) (fun _ => ?_) (fun h => absurd (⟨nI_le (by omega) (by omega), nI_le (by omega) (by omega)⟩) h)
  refine lv_aload_n hx hb dX4_as_31 rfl (lv_at hl 0 rfl) ?_
  refine g4_s S hK hP dX4_as_32 ?_
  refine lv_bipush (v := nI 72) hx hb dX4_as_35 (by decide) ?_
  refine lv_iload_n hx hb dX4_as_37 rfl (lv_at hl 1 rfl) ?_
  refine q_iaddN (a := 72) (b := p9) hx hb dX4_as_38 ?_
  refine l4_s S hK hP (j := 72 + p9) (by omega) dX4_as_39 ?_
  refine q_eqi (y := (-1)) (hv) ?_
  refine lv_istore_n (lv' := [(3, .int (-1)), (0, .ref (a 0)), (1, .int (nI p9)), (2, .int (nI w))]) hx hb dX4_as_40 rfl hl (by decide) rfl (fun ls hl => ?_)
  refine lv_iload_n hx hb dX4_as_41 rfl (lv_at hl 0 rfl) ?_
  refine lv_if_ge (tgt := 53) hx hb dX4_as_42 (by decide) (fun h => absurd h (by decide)) (fun _ => ?_)
  refine lv_aload_n hx hb dX4_as_45 rfl (lv_at hl 1 rfl) ?_
  refine lv_ldcw (v := (-1000006)) hx hb hown (hU _ mK_X4_278) dX4_as_46 ?_
  refine WR.callV (w1 := MW cI a f (va_up σ 4 (mFi (σ 4) 5))) S kv_X4_39 (c_X4_fd5 l D cI cJ a f σ) hK hP hD hS hA ([]) ([]) rfl rfl MW_fst rfl ⟨Nat.le_of_ble_eq_true rfl, Nat.le_of_ble_eq_true rfl⟩ hl.1 rfl rfl (Nat.le_of_ble_eq_true rfl) (Nat.zero_le _) (Nat.zero_le _) dX4_as_49 (fun H locs hP hD hS => ?_)
  exact WR.iret S hr hlk hP hS (rfl) rfl dX4_as_52
set_option maxRecDepth 100000 in
set_option maxHeartbeats 4000000 in
theorem c_X4_as_ok (l : Launch) (D : va_G) (cI cJ : ClassId) (a : Nat → Nat) (f : Nat → Int32) (σ : Nat → Nat → Int32) (p9 : Nat) (w : Nat) (n : Nat) (hw : Wk f n) (hp9 : p9 < 10) (hw6 : w ≤ 6) (k : Nat) (hk : k < n) (hv : f (72 + p9) = nI k) (q : Nat) (hq9 : fi f k 0 = nI q) (hq : q ≤ 6) (huu : uU q w) : WR l yX4_as cX4_as 4 (some .int) 1 D cI cJ (MW cI a f σ) [.ref (a 0), .int (nI p9), .int (nI w)] (some (.int (nI k))) (MW cI a f σ) := by
  have h8 := hw.2.1
  refine WR.of (by decide) (Nat.le_of_ble_eq_true rfl) (fun p e s m below meth c ls A S hr hlk hK hP hD hS hA hl => ?_)
  obtain ⟨hx, hb, hml, hown, hU⟩ := id S
  have hl : lv_has ls 4 [(0, .ref (a 0)), (1, .int (nI p9)), (2, .int (nI w))] := hl
  refine lv_iload_n hx hb dX4_as_0 rfl (lv_at hl 1 rfl) ?_
  refine lv_i2l hx hb dX4_as_1 rfl ?_
  refine lv_lconst (v := 0) hx hb dX4_as_2 (by decide) ?_
  refine lv_ldc2 (v := 9) hx hb hown (hU _ mK_X4_47) dX4_as_3 ?_
  refine RO.callS S ks_X4_49 (c_X4_isIn l D cI cJ a f σ (nI p9) (nI 0) (nI 9)) hK hP ⟨Nat.le_of_ble_eq_true rfl, Nat.le_of_ble_eq_true rfl⟩ hl.1 rfl rfl (Nat.le_of_ble_eq_true rfl) (Nat.zero_le _) (Nat.zero_le _) dX4_as_6 ?_
  refine q_if_eqB (tgt := 24) hx hb dX4_as_9 (by decide) (fun h => absurd (⟨nI_le (by omega) (by omega), nI_le (by omega) (by omega)⟩) h) (fun _ => ?_)
  refine lv_iload_n hx hb dX4_as_12 rfl (lv_at hl 2 rfl) ?_
  refine lv_i2l hx hb dX4_as_13 rfl ?_
  refine lv_lconst (v := 0) hx hb dX4_as_14 (by decide) ?_
  refine lv_ldc2 (v := 6) hx hb hown (hU _ mK_X4_73) dX4_as_15 ?_
  refine RO.callS S ks_X4_49 (c_X4_isIn l D cI cJ a f σ (nI w) (nI 0) (nI 6)) hK hP ⟨Nat.le_of_ble_eq_true rfl, Nat.le_of_ble_eq_true rfl⟩ hl.1 rfl rfl (Nat.le_of_ble_eq_true rfl) (Nat.zero_le _) (Nat.zero_le _) dX4_as_18 ?_
  refine q_if_neB (tgt := 31) hx hb dX4_as_21 (by decide) (fun _ => ?_) (fun h => absurd (⟨nI_le (by omega) (by omega), nI_le (by omega) (by omega)⟩) h)
  refine lv_aload_n hx hb dX4_as_31 rfl (lv_at hl 0 rfl) ?_
  refine g4_s S hK hP dX4_as_32 ?_
  refine lv_bipush (v := nI 72) hx hb dX4_as_35 (by decide) ?_
  refine lv_iload_n hx hb dX4_as_37 rfl (lv_at hl 1 rfl) ?_
  refine q_iaddN (a := 72) (b := p9) hx hb dX4_as_38 ?_
  refine l4_s S hK hP (j := 72 + p9) (by omega) dX4_as_39 ?_
  refine q_eqi (y := nI k) (hv) ?_
  refine lv_istore_n (lv' := [(3, .int (nI k)), (0, .ref (a 0)), (1, .int (nI p9)), (2, .int (nI w))]) hx hb dX4_as_40 rfl hl (by decide) rfl (fun ls hl => ?_)
  refine lv_iload_n hx hb dX4_as_41 rfl (lv_at hl 0 rfl) ?_
  refine q_if_geN (tgt := 53) (a := k) hx hb dX4_as_42 (by decide) (by omega) ?_
  refine lv_aload_n hx hb dX4_as_53 rfl (lv_at hl 1 rfl) ?_
  refine lv_iload_n hx hb dX4_as_54 rfl (lv_at hl 0 rfl) ?_
  refine lv_iconst (v := nI 0) hx hb dX4_as_55 (by decide) ?_
  refine RO.callV S kv_X4_57 (c_X4_its l D cI cJ a f σ k 0 (by omega)) hK hP rfl ⟨Nat.le_of_ble_eq_true rfl, Nat.le_of_ble_eq_true rfl⟩ hl.1 rfl rfl (Nat.le_of_ble_eq_true rfl) (Nat.zero_le _) (Nat.zero_le _) dX4_as_56 ?_
  refine q_eqi (y := nI q) (hq9) ?_
  refine lv_iload_n hx hb dX4_as_59 rfl (lv_at hl 3 rfl) ?_
  refine RO.callS S ks_X4_279 (c_X4_isUnder l D cI cJ a f σ q w (by omega) (by omega)) hK hP ⟨Nat.le_of_ble_eq_true rfl, Nat.le_of_ble_eq_true rfl⟩ hl.1 rfl rfl (Nat.le_of_ble_eq_true rfl) (Nat.zero_le _) (Nat.zero_le _) dX4_as_60 ?_
  refine q_if_eqB (tgt := 70) hx hb dX4_as_63 (by decide) (fun h => absurd (huu) h) (fun _ => ?_)
  refine lv_iload_n hx hb dX4_as_66 rfl (lv_at hl 0 rfl) ?_
  refine lv_goto (tgt := 77) hx hb dX4_as_67 (by decide) ?_
  exact WR.iret S hr hlk hP hS (rfl) rfl dX4_as_77
set_option maxRecDepth 100000 in
set_option maxHeartbeats 4000000 in
theorem c_X4_as_kind (l : Launch) (D : va_G) (cI cJ : ClassId) (a : Nat → Nat) (f : Nat → Int32) (σ : Nat → Nat → Int32) (p9 : Nat) (w : Nat) (n : Nat) (hw : Wk f n) (hp9 : p9 < 10) (hw6 : w ≤ 6) (k : Nat) (hk : k < n) (hv : f (72 + p9) = nI k) (q : Nat) (hq9 : fi f k 0 = nI q) (hq : q ≤ 6) (huu : ¬ uU q w) : WR l yX4_as cX4_as 4 (some .int) 1 D cI cJ (MW cI a f σ) [.ref (a 0), .int (nI p9), .int (nI w)] (some (.int (-1000003))) (MW cI a f (va_up σ 4 (mFi (σ 4) 2))) := by
  have h8 := hw.2.1
  refine WR.of (by decide) (Nat.le_of_ble_eq_true rfl) (fun p e s m below meth c ls A S hr hlk hK hP hD hS hA hl => ?_)
  obtain ⟨hx, hb, hml, hown, hU⟩ := id S
  have hl : lv_has ls 4 [(0, .ref (a 0)), (1, .int (nI p9)), (2, .int (nI w))] := hl
  refine lv_iload_n hx hb dX4_as_0 rfl (lv_at hl 1 rfl) ?_
  refine lv_i2l hx hb dX4_as_1 rfl ?_
  refine lv_lconst (v := 0) hx hb dX4_as_2 (by decide) ?_
  refine lv_ldc2 (v := 9) hx hb hown (hU _ mK_X4_47) dX4_as_3 ?_
  refine RO.callS S ks_X4_49 (c_X4_isIn l D cI cJ a f σ (nI p9) (nI 0) (nI 9)) hK hP ⟨Nat.le_of_ble_eq_true rfl, Nat.le_of_ble_eq_true rfl⟩ hl.1 rfl rfl (Nat.le_of_ble_eq_true rfl) (Nat.zero_le _) (Nat.zero_le _) dX4_as_6 ?_
  refine q_if_eqB (tgt := 24) hx hb dX4_as_9 (by decide) (fun h => absurd (⟨nI_le (by omega) (by omega), nI_le (by omega) (by omega)⟩) h) (fun _ => ?_)
  refine lv_iload_n hx hb dX4_as_12 rfl (lv_at hl 2 rfl) ?_
  refine lv_i2l hx hb dX4_as_13 rfl ?_
  refine lv_lconst (v := 0) hx hb dX4_as_14 (by decide) ?_
  refine lv_ldc2 (v := 6) hx hb hown (hU _ mK_X4_73) dX4_as_15 ?_
  refine RO.callS S ks_X4_49 (c_X4_isIn l D cI cJ a f σ (nI w) (nI 0) (nI 6)) hK hP ⟨Nat.le_of_ble_eq_true rfl, Nat.le_of_ble_eq_true rfl⟩ hl.1 rfl rfl (Nat.le_of_ble_eq_true rfl) (Nat.zero_le _) (Nat.zero_le _) dX4_as_18 ?_
  refine q_if_neB (tgt := 31) hx hb dX4_as_21 (by decide) (fun _ => ?_) (fun h => absurd (⟨nI_le (by omega) (by omega), nI_le (by omega) (by omega)⟩) h)
  refine lv_aload_n hx hb dX4_as_31 rfl (lv_at hl 0 rfl) ?_
  refine g4_s S hK hP dX4_as_32 ?_
  refine lv_bipush (v := nI 72) hx hb dX4_as_35 (by decide) ?_
  refine lv_iload_n hx hb dX4_as_37 rfl (lv_at hl 1 rfl) ?_
  refine q_iaddN (a := 72) (b := p9) hx hb dX4_as_38 ?_
  refine l4_s S hK hP (j := 72 + p9) (by omega) dX4_as_39 ?_
  refine q_eqi (y := nI k) (hv) ?_
  refine lv_istore_n (lv' := [(3, .int (nI k)), (0, .ref (a 0)), (1, .int (nI p9)), (2, .int (nI w))]) hx hb dX4_as_40 rfl hl (by decide) rfl (fun ls hl => ?_)
  refine lv_iload_n hx hb dX4_as_41 rfl (lv_at hl 0 rfl) ?_
  refine q_if_geN (tgt := 53) (a := k) hx hb dX4_as_42 (by decide) (by omega) ?_
  refine lv_aload_n hx hb dX4_as_53 rfl (lv_at hl 1 rfl) ?_
  refine lv_iload_n hx hb dX4_as_54 rfl (lv_at hl 0 rfl) ?_
  refine lv_iconst (v := nI 0) hx hb dX4_as_55 (by decide) ?_
  refine RO.callV S kv_X4_57 (c_X4_its l D cI cJ a f σ k 0 (by omega)) hK hP rfl ⟨Nat.le_of_ble_eq_true rfl, Nat.le_of_ble_eq_true rfl⟩ hl.1 rfl rfl (Nat.le_of_ble_eq_true rfl) (Nat.zero_le _) (Nat.zero_le _) dX4_as_56 ?_
  refine q_eqi (y := nI q) (hq9) ?_
  refine lv_iload_n hx hb dX4_as_59 rfl (lv_at hl 3 rfl) ?_
  refine RO.callS S ks_X4_279 (c_X4_isUnder l D cI cJ a f σ q w (by omega) (by omega)) hK hP ⟨Nat.le_of_ble_eq_true rfl, Nat.le_of_ble_eq_true rfl⟩ hl.1 rfl rfl (Nat.le_of_ble_eq_true rfl) (Nat.zero_le _) (Nat.zero_le _) dX4_as_60 ?_
  refine q_if_eqB (tgt := 70) hx hb dX4_as_63 (by decide) (fun _ => ?_) (fun h => absurd h (huu))
  refine lv_aload_n hx hb dX4_as_70 rfl (lv_at hl 1 rfl) ?_
  refine lv_ldcw (v := (-1000003)) hx hb hown (hU _ mK_X4_282) dX4_as_71 ?_
  refine WR.callV (w1 := MW cI a f (va_up σ 4 (mFi (σ 4) 2))) S kv_X4_39 (c_X4_fd2 l D cI cJ a f σ) hK hP hD hS hA ([]) ([]) rfl rfl MW_fst rfl ⟨Nat.le_of_ble_eq_true rfl, Nat.le_of_ble_eq_true rfl⟩ hl.1 rfl rfl (Nat.le_of_ble_eq_true rfl) (Nat.zero_le _) (Nat.zero_le _) dX4_as_74 (fun H locs hP hD hS => ?_)
  exact WR.iret S hr hlk hP hS (rfl) rfl dX4_as_77
set_option maxRecDepth 100000 in
set_option maxHeartbeats 4000000 in
theorem c_X4_sheet_bad (l : Launch) (D : va_G) (cI cJ : ClassId) (a : Nat → Nat) (f : Nat → Int32) (σ : Nat → Nat → Int32) (x : Int32) (y : Int32) (z : Int32) (hb0 : ¬ ((nI 0 ≤ x ∧ x ≤ nI 3) ∧ (y = 0 ∨ y = nI 8 ∨ y = nI 16 ∨ y = nI 32))) : WR l yX4_sheet cX4_sheet 5 (some .int) 1 D cI cJ (MW cI a f σ) [.ref (a 0), .int x, .int y, .int z] (some (.int (-1000001))) (MW cI a f (va_up σ 4 (mFi (σ 4) 0))) := by
  refine WR.of (by decide) (Nat.le_of_ble_eq_true rfl) (fun p e s m below meth c ls A S hr hlk hK hP hD hS hA hl => ?_)
  obtain ⟨hx, hb, hml, hown, hU⟩ := id S
  have hl : lv_has ls 5 [(0, .ref (a 0)), (1, .int x), (2, .int y), (3, .int z)] := hl
  refine lv_iload_n hx hb dX4_sheet_0 rfl (lv_at hl 1 rfl) ?_
  refine RO.callS S ks_X4_283 (c_X4_isSheet l D cI cJ a f σ x) hK hP ⟨Nat.le_of_ble_eq_true rfl, Nat.le_of_ble_eq_true rfl⟩ hl.1 rfl rfl (Nat.le_of_ble_eq_true rfl) (Nat.zero_le _) (Nat.zero_le _) dX4_sheet_1 ?_
  refine q_if_eqB (tgt := 29) hx hb dX4_sheet_4 (by decide) (fun c_4 => ?_) (fun c_4 => ?_)
  · refine lv_aload_n hx hb dX4_sheet_29 rfl (lv_at hl 0 rfl) ?_
    refine lv_ldc (v := (-1000001)) hx hb hown (hU _ mK_X4_37) dX4_sheet_30 ?_
    refine WR.callV (w1 := MW cI a f (va_up σ 4 (mFi (σ 4) 0))) S kv_X4_39 (c_X4_fd0 l D cI cJ a f σ) hK hP hD hS hA ([]) ([]) rfl rfl MW_fst rfl ⟨Nat.le_of_ble_eq_true rfl, Nat.le_of_ble_eq_true rfl⟩ hl.1 rfl rfl (Nat.le_of_ble_eq_true rfl) (Nat.zero_le _) (Nat.zero_le _) dX4_sheet_32 (fun H locs hP hD hS => ?_)
    exact WR.iret S hr hlk hP hS (rfl) rfl dX4_sheet_35
  · refine lv_iload_n hx hb dX4_sheet_7 rfl (lv_at hl 2 rfl) ?_
    refine lv_if_eq (tgt := 36) hx hb dX4_sheet_8 (by decide) (fun c_8 => ?_) (fun c_8 => ?_)
    · exact absurd (⟨rg3 c_4, Or.inl c_8⟩) hb0
    · refine lv_iload_n hx hb dX4_sheet_11 rfl (lv_at hl 2 rfl) ?_
      refine lv_bipush (v := nI 8) hx hb dX4_sheet_12 (by decide) ?_
      refine lv_icmp_eq (tgt := 36) hx hb dX4_sheet_14 (by decide) (fun c_14 => ?_) (fun c_14 => ?_)
      · exact absurd (⟨rg3 c_4, Or.inr (Or.inl c_14)⟩) hb0
      · refine lv_iload_n hx hb dX4_sheet_17 rfl (lv_at hl 2 rfl) ?_
        refine lv_bipush (v := nI 16) hx hb dX4_sheet_18 (by decide) ?_
        refine lv_icmp_eq (tgt := 36) hx hb dX4_sheet_20 (by decide) (fun c_20 => ?_) (fun c_20 => ?_)
        · exact absurd (⟨rg3 c_4, Or.inr (Or.inr (Or.inl c_20))⟩) hb0
        · refine lv_iload_n hx hb dX4_sheet_23 rfl (lv_at hl 2 rfl) ?_
          refine lv_bipush (v := nI 32) hx hb dX4_sheet_24 (by decide) ?_
          refine lv_icmp_eq (tgt := 36) hx hb dX4_sheet_26 (by decide) (fun c_26 => ?_) (fun c_26 => ?_)
          · exact absurd (⟨rg3 c_4, Or.inr (Or.inr (Or.inr c_26))⟩) hb0
          · refine lv_aload_n hx hb dX4_sheet_29 rfl (lv_at hl 0 rfl) ?_
            refine lv_ldc (v := (-1000001)) hx hb hown (hU _ mK_X4_37) dX4_sheet_30 ?_
            refine WR.callV (w1 := MW cI a f (va_up σ 4 (mFi (σ 4) 0))) S kv_X4_39 (c_X4_fd0 l D cI cJ a f σ) hK hP hD hS hA ([]) ([]) rfl rfl MW_fst rfl ⟨Nat.le_of_ble_eq_true rfl, Nat.le_of_ble_eq_true rfl⟩ hl.1 rfl rfl (Nat.le_of_ble_eq_true rfl) (Nat.zero_le _) (Nat.zero_le _) dX4_sheet_32 (fun H locs hP hD hS => ?_)
            exact WR.iret S hr hlk hP hS (rfl) rfl dX4_sheet_35
set_option maxRecDepth 100000 in
set_option maxHeartbeats 4000000 in
theorem c_X4_sheet_size0 (l : Launch) (D : va_G) (cI cJ : ClassId) (a : Nat → Nat) (f : Nat → Int32) (σ : Nat → Nat → Int32) (sh : Nat) (hsh : sh < 4) (z : Int32) (hz : z < 0) : WR l yX4_sheet cX4_sheet 5 (some .int) 1 D cI cJ (MW cI a f σ) [.ref (a 0), .int (nI sh), .int (nI 0), .int z] (some (.int (-1000007))) (MW cI a f (va_up σ 4 (mFi (σ 4) 6))) := by
  refine WR.of (by decide) (Nat.le_of_ble_eq_true rfl) (fun p e s m below meth c ls A S hr hlk hK hP hD hS hA hl => ?_)
  obtain ⟨hx, hb, hml, hown, hU⟩ := id S
  have hl : lv_has ls 5 [(0, .ref (a 0)), (1, .int (nI sh)), (2, .int (nI 0)), (3, .int z)] := hl
  refine lv_iload_n hx hb dX4_sheet_0 rfl (lv_at hl 1 rfl) ?_
  refine RO.callS S ks_X4_283 (c_X4_isSheet l D cI cJ a f σ (nI sh)) hK hP ⟨Nat.le_of_ble_eq_true rfl, Nat.le_of_ble_eq_true rfl⟩ hl.1 rfl rfl (Nat.le_of_ble_eq_true rfl) (Nat.zero_le _) (Nat.zero_le _) dX4_sheet_1 ?_
  refine q_if_eqB (tgt := 29) hx hb dX4_sheet_4 (by decide) (fun h => absurd (⟨nI_pos' (by omega), nI_lt (by omega) (by decide)⟩) h) (fun _ => ?_)
  refine lv_iload_n hx hb dX4_sheet_7 rfl (lv_at hl 2 rfl) ?_
  refine q_if_eqN (tgt := 36) (a := 0) hx hb dX4_sheet_8 (by decide) (by omega) (fun _ => ?_) (fun h => absurd h (by omega))
  refine lv_iload_n hx hb dX4_sheet_36 rfl (lv_at hl 3 rfl) ?_
  refine lv_if_ge (tgt := 48) hx hb dX4_sheet_37 (by decide) (fun c_37 => ?_) (fun c_37 => ?_)
  · exact absurd c_37 (i32_not_le_of_lt hz)
  · refine lv_aload_n hx hb dX4_sheet_40 rfl (lv_at hl 0 rfl) ?_
    refine lv_ldcw (v := (-1000007)) hx hb hown (hU _ mK_X4_286) dX4_sheet_41 ?_
    refine WR.callV (w1 := MW cI a f (va_up σ 4 (mFi (σ 4) 6))) S kv_X4_39 (c_X4_fd6 l D cI cJ a f σ) hK hP hD hS hA ([]) ([]) rfl rfl MW_fst rfl ⟨Nat.le_of_ble_eq_true rfl, Nat.le_of_ble_eq_true rfl⟩ hl.1 rfl rfl (Nat.le_of_ble_eq_true rfl) (Nat.zero_le _) (Nat.zero_le _) dX4_sheet_44 (fun H locs hP hD hS => ?_)
    exact WR.iret S hr hlk hP hS (rfl) rfl dX4_sheet_47
set_option maxRecDepth 100000 in
set_option maxHeartbeats 4000000 in
theorem c_X4_sheet_big0 (l : Launch) (D : va_G) (cI cJ : ClassId) (a : Nat → Nat) (f : Nat → Int32) (σ : Nat → Nat → Int32) (sh : Nat) (hsh : sh < 4) (z : Int32) (hz : nI 40 < z) : WR l yX4_sheet cX4_sheet 5 (some .int) 1 D cI cJ (MW cI a f σ) [.ref (a 0), .int (nI sh), .int (nI 0), .int z] (some (.int (-1000001))) (MW cI a f (va_up σ 4 (mFi (σ 4) 0))) := by
  refine WR.of (by decide) (Nat.le_of_ble_eq_true rfl) (fun p e s m below meth c ls A S hr hlk hK hP hD hS hA hl => ?_)
  obtain ⟨hx, hb, hml, hown, hU⟩ := id S
  have hl : lv_has ls 5 [(0, .ref (a 0)), (1, .int (nI sh)), (2, .int (nI 0)), (3, .int z)] := hl
  refine lv_iload_n hx hb dX4_sheet_0 rfl (lv_at hl 1 rfl) ?_
  refine RO.callS S ks_X4_283 (c_X4_isSheet l D cI cJ a f σ (nI sh)) hK hP ⟨Nat.le_of_ble_eq_true rfl, Nat.le_of_ble_eq_true rfl⟩ hl.1 rfl rfl (Nat.le_of_ble_eq_true rfl) (Nat.zero_le _) (Nat.zero_le _) dX4_sheet_1 ?_
  refine q_if_eqB (tgt := 29) hx hb dX4_sheet_4 (by decide) (fun h => absurd (⟨nI_pos' (by omega), nI_lt (by omega) (by decide)⟩) h) (fun _ => ?_)
  refine lv_iload_n hx hb dX4_sheet_7 rfl (lv_at hl 2 rfl) ?_
  refine q_if_eqN (tgt := 36) (a := 0) hx hb dX4_sheet_8 (by decide) (by omega) (fun _ => ?_) (fun h => absurd h (by omega))
  refine lv_iload_n hx hb dX4_sheet_36 rfl (lv_at hl 3 rfl) ?_
  refine lv_if_ge (tgt := 48) hx hb dX4_sheet_37 (by decide) (fun c_37 => ?_) (fun c_37 => ?_)
  · refine lv_iload_n hx hb dX4_sheet_48 rfl (lv_at hl 3 rfl) ?_
    refine lv_bipush (v := nI 40) hx hb dX4_sheet_49 (by decide) ?_
    refine lv_icmp_le (tgt := 61) hx hb dX4_sheet_51 (by decide) (fun c_51 => ?_) (fun c_51 => ?_)
    · exact absurd hz (i32_not_lt_of_le c_51)
    · refine lv_aload_n hx hb dX4_sheet_54 rfl (lv_at hl 0 rfl) ?_
      refine lv_ldc (v := (-1000001)) hx hb hown (hU _ mK_X4_37) dX4_sheet_55 ?_
      refine WR.callV (w1 := MW cI a f (va_up σ 4 (mFi (σ 4) 0))) S kv_X4_39 (c_X4_fd0 l D cI cJ a f σ) hK hP hD hS hA ([]) ([]) rfl rfl MW_fst rfl ⟨Nat.le_of_ble_eq_true rfl, Nat.le_of_ble_eq_true rfl⟩ hl.1 rfl rfl (Nat.le_of_ble_eq_true rfl) (Nat.zero_le _) (Nat.zero_le _) dX4_sheet_57 (fun H locs hP hD hS => ?_)
      exact WR.iret S hr hlk hP hS (rfl) rfl dX4_sheet_60
  · exact absurd (i32_pos40 hz) c_37
set_option maxRecDepth 100000 in
set_option maxHeartbeats 4000000 in
theorem c_X4_sheet_ok0 (l : Launch) (D : va_G) (cI cJ : ClassId) (a : Nat → Nat) (f : Nat → Int32) (σ : Nat → Nat → Int32) (sh : Nat) (hsh : sh < 4) (q : Nat) (hq : q ≤ 40) : WR l yX4_sheet cX4_sheet 5 (some .int) 1 D cI cJ (MW cI a f σ) [.ref (a 0), .int (nI sh), .int (nI 0), .int (nI q)] (some (.int (nI 0))) (MW cI a f (va_up (va_up (va_up σ 6 (upd (σ 6) sh (-1))) 7 (upd (σ 7) sh (nI 0))) 8 (zrw (σ 8) sh 40))) := by
  refine WR.of (by decide) (Nat.le_of_ble_eq_true rfl) (fun p e s m below meth c ls A S hr hlk hK hP hD hS hA hl => ?_)
  obtain ⟨hx, hb, hml, hown, hU⟩ := id S
  have hl : lv_has ls 5 [(0, .ref (a 0)), (1, .int (nI sh)), (2, .int (nI 0)), (3, .int (nI q))] := hl
  refine lv_iload_n hx hb dX4_sheet_0 rfl (lv_at hl 1 rfl) ?_
  refine RO.callS S ks_X4_283 (c_X4_isSheet l D cI cJ a f σ (nI sh)) hK hP ⟨Nat.le_of_ble_eq_true rfl, Nat.le_of_ble_eq_true rfl⟩ hl.1 rfl rfl (Nat.le_of_ble_eq_true rfl) (Nat.zero_le _) (Nat.zero_le _) dX4_sheet_1 ?_
  refine q_if_eqB (tgt := 29) hx hb dX4_sheet_4 (by decide) (fun h => absurd (⟨nI_pos' (by omega), nI_lt (by omega) (by decide)⟩) h) (fun _ => ?_)
  refine lv_iload_n hx hb dX4_sheet_7 rfl (lv_at hl 2 rfl) ?_
  refine q_if_eqN (tgt := 36) (a := 0) hx hb dX4_sheet_8 (by decide) (by omega) (fun _ => ?_) (fun h => absurd h (by omega))
  refine lv_iload_n hx hb dX4_sheet_36 rfl (lv_at hl 3 rfl) ?_
  refine q_if_geN (tgt := 48) (a := q) hx hb dX4_sheet_37 (by decide) (by omega) ?_
  refine lv_iload_n hx hb dX4_sheet_48 rfl (lv_at hl 3 rfl) ?_
  refine lv_bipush (v := nI 40) hx hb dX4_sheet_49 (by decide) ?_
  refine q_icmp_leN (tgt := 61) (a := q) (b := 40) hx hb dX4_sheet_51 (by decide) (by omega) (by omega) (fun _ => ?_) (fun h => absurd h (by omega))
  refine lv_aload_n hx hb dX4_sheet_61 rfl (lv_at hl 0 rfl) ?_
  refine g4_bitsOf S hK hP dX4_sheet_62 ?_
  refine lv_iload_n hx hb dX4_sheet_65 rfl (lv_at hl 1 rfl) ?_
  refine lv_iload_n hx hb dX4_sheet_66 rfl (lv_at hl 2 rfl) ?_
  refine q_if_neN (tgt := 74) (a := 0) hx hb dX4_sheet_67 (by decide) (by omega) (fun h => absurd h (by omega)) (fun _ => ?_)
  refine lv_iconst (v := (-1)) hx hb dX4_sheet_70 (by decide) ?_
  refine lv_goto (tgt := 75) hx hb dX4_sheet_71 (by decide) ?_
  refine s4_bitsOf S hK hP hD hS (j := sh) (by omega) dX4_sheet_75 (fun H locs hP hD hS => ?_)
  refine lv_aload_n hx hb dX4_sheet_76 rfl (lv_at hl 0 rfl) ?_
  refine g4_sizes S hK hP dX4_sheet_77 ?_
  refine lv_iload_n hx hb dX4_sheet_80 rfl (lv_at hl 1 rfl) ?_
  refine lv_iload_n hx hb dX4_sheet_81 rfl (lv_at hl 2 rfl) ?_
  refine q_if_neN (tgt := 89) (a := 0) hx hb dX4_sheet_82 (by decide) (by omega) (fun h => absurd h (by omega)) (fun _ => ?_)
  refine lv_iconst (v := nI 0) hx hb dX4_sheet_85 (by decide) ?_
  refine lv_goto (tgt := 90) hx hb dX4_sheet_86 (by decide) ?_
  refine s4_sizes S hK hP hD hS (j := sh) (by omega) dX4_sheet_90 (fun H locs hP hD hS => ?_)
  refine lv_iconst (v := nI 0) hx hb dX4_sheet_91 (by decide) ?_
  refine lv_istore (lv' := [(4, .int (nI 0)), (0, .ref (a 0)), (1, .int (nI sh)), (2, .int (nI 0)), (3, .int (nI q))]) hx hb dX4_sheet_92 hl (by decide) rfl (fun ls hl => ?_)
  have L_94 : ∀ (n9 : Nat) (k : Nat) (H : Heap) (locs : List Loc) (ls : Array Slot), 40 - k < n9 → (k ≤ 40) → va_P D vwCl (MW cI a f (va_up (va_up (va_up σ 6 (upd (σ 6) sh (-1))) 7 (upd (σ 7) sh (nI 0))) 8 (zrw (σ 8) sh k))) H → va_D A (MW cI a f (va_up (va_up (va_up σ 6 (upd (σ 6) sh (-1))) 7 (upd (σ 7) sh (nI 0))) 8 (zrw (σ 8) sh k))) → va_S A s.heap H locs → lv_has ls 5 [(0, .ref (a 0)), (1, .int (nI sh)), (4, .int (nI k))] → W p l e (rmd 1) s m ([.ref (a 0), .int (nI sh), .int (nI 0), .int (nI q)] : List Value).toArray below meth c H locs 0 0 (ZW below ([.ref (a 0), .int (nI sh), .int (nI 0), .int (nI q)] : List Value).toArray s D (some (.int (nI 0))) (MW cI a f (va_up (va_up (va_up σ 6 (upd (σ 6) sh (-1))) 7 (upd (σ 7) sh (nI 0))) 8 (zrw (σ 8) sh 40))) A) (F0 m 94 ls []) := by
    intro n9
    induction n9 with
    | zero => intro k H locs ls hmeas; exact absurd hmeas (Nat.not_lt_zero _)
    | succ n9 ih_94 =>
      intro k H locs ls hmeas hk hP hD hS hl
      refine lv_iload hx hb dX4_sheet_94 (lv_at hl 2 rfl) ?_
      refine lv_bipush (v := nI 40) hx hb dX4_sheet_96 (by decide) ?_
      refine q_icmp_geN (tgt := 120) (a := k) (b := 40) hx hb dX4_sheet_98 (by decide) (by omega) (by omega) (fun c_98 => ?_) (fun c_98 => ?_)
      · rw [show k = 40 by omega] at hP hD
        refine lv_aload_n hx hb dX4_sheet_120 rfl (lv_at hl 0 rfl) ?_
        refine g4_sizes S hK hP dX4_sheet_121 ?_
        refine lv_iload_n hx hb dX4_sheet_124 rfl (lv_at hl 1 rfl) ?_
        refine l4_sizes S hK hP (j := sh) (by omega) dX4_sheet_125 ?_
        refine q_eqi (y := nI 0) (upd_at) ?_
        exact WR.iret S hr hlk hP hS (rfl) rfl dX4_sheet_126
      · refine lv_aload_n hx hb dX4_sheet_101 rfl (lv_at hl 0 rfl) ?_
        refine g4_numbers S hK hP dX4_sheet_102 ?_
        refine lv_bipush (v := nI 40) hx hb dX4_sheet_105 (by decide) ?_
        refine lv_iload_n hx hb dX4_sheet_107 rfl (lv_at hl 1 rfl) ?_
        refine q_imulN (a := 40) (b := sh) hx hb dX4_sheet_108 ?_
        refine lv_iload hx hb dX4_sheet_109 (lv_at hl 2 rfl) ?_
        refine q_iaddN (a := 40 * sh) (b := k) hx hb dX4_sheet_111 ?_
        refine lv_iconst (v := nI 0) hx hb dX4_sheet_112 (by decide) ?_
        refine s4_numbers S hK hP hD hS (j := (40 * sh) + k) (by omega) dX4_sheet_113 (fun H locs hP hD hS => ?_)
        refine lv_iinc (v := nI (k + 1)) (lv' := [(4, .int (nI (k + 1))), (0, .ref (a 0)), (1, .int (nI sh))]) hx hb dX4_sheet_114 hl (k := 2) rfl (q_inc _) (by decide) rfl (fun ls hl => ?_)
        refine lv_goto (tgt := 94) hx hb dX4_sheet_117 (by decide) ?_
        exact ih_94 (k + 1) _ _ ls (by omega) (by omega) (by rw [← show va_up (va_up (va_up (va_up σ 6 (upd (σ 6) sh (-1))) 7 (upd (σ 7) sh (nI 0))) 8 (zrw (σ 8) sh k)) 8 (zrw (σ 8) sh (k + 1)) = va_up (va_up (va_up σ 6 (upd (σ 6) sh (-1))) 7 (upd (σ 7) sh (nI 0))) 8 (zrw (σ 8) sh (k + 1)) from bx_uu _ _ _ _]; exact hP) (by rw [← show va_up (va_up (va_up (va_up σ 6 (upd (σ 6) sh (-1))) 7 (upd (σ 7) sh (nI 0))) 8 (zrw (σ 8) sh k)) 8 (zrw (σ 8) sh (k + 1)) = va_up (va_up (va_up σ 6 (upd (σ 6) sh (-1))) 7 (upd (σ 7) sh (nI 0))) 8 (zrw (σ 8) sh (k + 1)) from bx_uu _ _ _ _]; exact hD) hS (lv_sub hl [1, 2, 0] rfl)
  exact L_94 ((40 - 0) + 1) 0 _ _ ls (Nat.lt_succ_self _) (Nat.zero_le _) (by rw [show va_up (va_up (va_up σ 6 (upd (σ 6) sh (-1))) 7 (upd (σ 7) sh (nI 0))) 8 (zrw (σ 8) sh 0) = va_up (va_up σ 6 (upd (σ 6) sh (-1))) 7 (upd (σ 7) sh (nI 0)) from va_up_self2 (va_up (va_up σ 6 (upd (σ 6) sh (-1))) 7 (upd (σ 7) sh (nI 0))) 8]; exact hP) (by rw [show va_up (va_up (va_up σ 6 (upd (σ 6) sh (-1))) 7 (upd (σ 7) sh (nI 0))) 8 (zrw (σ 8) sh 0) = va_up (va_up σ 6 (upd (σ 6) sh (-1))) 7 (upd (σ 7) sh (nI 0)) from va_up_self2 (va_up (va_up σ 6 (upd (σ 6) sh (-1))) 7 (upd (σ 7) sh (nI 0))) 8]; exact hD) hS (lv_sub hl [1, 2, 0] rfl)
set_option maxRecDepth 100000 in
set_option maxHeartbeats 4000000 in
theorem c_X4_sheet_size8 (l : Launch) (D : va_G) (cI cJ : ClassId) (a : Nat → Nat) (f : Nat → Int32) (σ : Nat → Nat → Int32) (sh : Nat) (hsh : sh < 4) (z : Int32) (hz : z < 0) : WR l yX4_sheet cX4_sheet 5 (some .int) 1 D cI cJ (MW cI a f σ) [.ref (a 0), .int (nI sh), .int (nI 8), .int z] (some (.int (-1000007))) (MW cI a f (va_up σ 4 (mFi (σ 4) 6))) := by
  refine WR.of (by decide) (Nat.le_of_ble_eq_true rfl) (fun p e s m below meth c ls A S hr hlk hK hP hD hS hA hl => ?_)
  obtain ⟨hx, hb, hml, hown, hU⟩ := id S
  have hl : lv_has ls 5 [(0, .ref (a 0)), (1, .int (nI sh)), (2, .int (nI 8)), (3, .int z)] := hl
  refine lv_iload_n hx hb dX4_sheet_0 rfl (lv_at hl 1 rfl) ?_
  refine RO.callS S ks_X4_283 (c_X4_isSheet l D cI cJ a f σ (nI sh)) hK hP ⟨Nat.le_of_ble_eq_true rfl, Nat.le_of_ble_eq_true rfl⟩ hl.1 rfl rfl (Nat.le_of_ble_eq_true rfl) (Nat.zero_le _) (Nat.zero_le _) dX4_sheet_1 ?_
  refine q_if_eqB (tgt := 29) hx hb dX4_sheet_4 (by decide) (fun h => absurd (⟨nI_pos' (by omega), nI_lt (by omega) (by decide)⟩) h) (fun _ => ?_)
  refine lv_iload_n hx hb dX4_sheet_7 rfl (lv_at hl 2 rfl) ?_
  refine q_if_eqN (tgt := 36) (a := 8) hx hb dX4_sheet_8 (by decide) (by omega) (fun h => absurd h (by omega)) (fun _ => ?_)
  refine lv_iload_n hx hb dX4_sheet_11 rfl (lv_at hl 2 rfl) ?_
  refine lv_bipush (v := nI 8) hx hb dX4_sheet_12 (by decide) ?_
  refine q_icmp_eqN (tgt := 36) (a := 8) (b := 8) hx hb dX4_sheet_14 (by decide) (by omega) (by omega) (fun _ => ?_) (fun h => absurd h (by omega))
  refine lv_iload_n hx hb dX4_sheet_36 rfl (lv_at hl 3 rfl) ?_
  refine lv_if_ge (tgt := 48) hx hb dX4_sheet_37 (by decide) (fun c_37 => ?_) (fun c_37 => ?_)
  · exact absurd c_37 (i32_not_le_of_lt hz)
  · refine lv_aload_n hx hb dX4_sheet_40 rfl (lv_at hl 0 rfl) ?_
    refine lv_ldcw (v := (-1000007)) hx hb hown (hU _ mK_X4_286) dX4_sheet_41 ?_
    refine WR.callV (w1 := MW cI a f (va_up σ 4 (mFi (σ 4) 6))) S kv_X4_39 (c_X4_fd6 l D cI cJ a f σ) hK hP hD hS hA ([]) ([]) rfl rfl MW_fst rfl ⟨Nat.le_of_ble_eq_true rfl, Nat.le_of_ble_eq_true rfl⟩ hl.1 rfl rfl (Nat.le_of_ble_eq_true rfl) (Nat.zero_le _) (Nat.zero_le _) dX4_sheet_44 (fun H locs hP hD hS => ?_)
    exact WR.iret S hr hlk hP hS (rfl) rfl dX4_sheet_47
set_option maxRecDepth 100000 in
set_option maxHeartbeats 4000000 in
theorem c_X4_sheet_big8 (l : Launch) (D : va_G) (cI cJ : ClassId) (a : Nat → Nat) (f : Nat → Int32) (σ : Nat → Nat → Int32) (sh : Nat) (hsh : sh < 4) (z : Int32) (hz : nI 40 < z) : WR l yX4_sheet cX4_sheet 5 (some .int) 1 D cI cJ (MW cI a f σ) [.ref (a 0), .int (nI sh), .int (nI 8), .int z] (some (.int (-1000001))) (MW cI a f (va_up σ 4 (mFi (σ 4) 0))) := by
  refine WR.of (by decide) (Nat.le_of_ble_eq_true rfl) (fun p e s m below meth c ls A S hr hlk hK hP hD hS hA hl => ?_)
  obtain ⟨hx, hb, hml, hown, hU⟩ := id S
  have hl : lv_has ls 5 [(0, .ref (a 0)), (1, .int (nI sh)), (2, .int (nI 8)), (3, .int z)] := hl
  refine lv_iload_n hx hb dX4_sheet_0 rfl (lv_at hl 1 rfl) ?_
  refine RO.callS S ks_X4_283 (c_X4_isSheet l D cI cJ a f σ (nI sh)) hK hP ⟨Nat.le_of_ble_eq_true rfl, Nat.le_of_ble_eq_true rfl⟩ hl.1 rfl rfl (Nat.le_of_ble_eq_true rfl) (Nat.zero_le _) (Nat.zero_le _) dX4_sheet_1 ?_
  refine q_if_eqB (tgt := 29) hx hb dX4_sheet_4 (by decide) (fun h => absurd (⟨nI_pos' (by omega), nI_lt (by omega) (by decide)⟩) h) (fun _ => ?_)
  refine lv_iload_n hx hb dX4_sheet_7 rfl (lv_at hl 2 rfl) ?_
  refine q_if_eqN (tgt := 36) (a := 8) hx hb dX4_sheet_8 (by decide) (by omega) (fun h => absurd h (by omega)) (fun _ => ?_)
  refine lv_iload_n hx hb dX4_sheet_11 rfl (lv_at hl 2 rfl) ?_
  refine lv_bipush (v := nI 8) hx hb dX4_sheet_12 (by decide) ?_
  refine q_icmp_eqN (tgt := 36) (a := 8) (b := 8) hx hb dX4_sheet_14 (by decide) (by omega) (by omega) (fun _ => ?_) (fun h => absurd h (by omega))
  refine lv_iload_n hx hb dX4_sheet_36 rfl (lv_at hl 3 rfl) ?_
  refine lv_if_ge (tgt := 48) hx hb dX4_sheet_37 (by decide) (fun c_37 => ?_) (fun c_37 => ?_)
  · refine lv_iload_n hx hb dX4_sheet_48 rfl (lv_at hl 3 rfl) ?_
    refine lv_bipush (v := nI 40) hx hb dX4_sheet_49 (by decide) ?_
    refine lv_icmp_le (tgt := 61) hx hb dX4_sheet_51 (by decide) (fun c_51 => ?_) (fun c_51 => ?_)
    · exact absurd hz (i32_not_lt_of_le c_51)
    · refine lv_aload_n hx hb dX4_sheet_54 rfl (lv_at hl 0 rfl) ?_
      refine lv_ldc (v := (-1000001)) hx hb hown (hU _ mK_X4_37) dX4_sheet_55 ?_
      refine WR.callV (w1 := MW cI a f (va_up σ 4 (mFi (σ 4) 0))) S kv_X4_39 (c_X4_fd0 l D cI cJ a f σ) hK hP hD hS hA ([]) ([]) rfl rfl MW_fst rfl ⟨Nat.le_of_ble_eq_true rfl, Nat.le_of_ble_eq_true rfl⟩ hl.1 rfl rfl (Nat.le_of_ble_eq_true rfl) (Nat.zero_le _) (Nat.zero_le _) dX4_sheet_57 (fun H locs hP hD hS => ?_)
      exact WR.iret S hr hlk hP hS (rfl) rfl dX4_sheet_60
  · exact absurd (i32_pos40 hz) c_37
set_option maxRecDepth 100000 in
set_option maxHeartbeats 4000000 in
theorem c_X4_sheet_ok8 (l : Launch) (D : va_G) (cI cJ : ClassId) (a : Nat → Nat) (f : Nat → Int32) (σ : Nat → Nat → Int32) (sh : Nat) (hsh : sh < 4) (q : Nat) (hq : q ≤ 40) : WR l yX4_sheet cX4_sheet 5 (some .int) 1 D cI cJ (MW cI a f σ) [.ref (a 0), .int (nI sh), .int (nI 8), .int (nI q)] (some (.int (nI q))) (MW cI a f (va_up (va_up (va_up σ 6 (upd (σ 6) sh (nI 8))) 7 (upd (σ 7) sh (nI q))) 8 (zrw (σ 8) sh 40))) := by
  refine WR.of (by decide) (Nat.le_of_ble_eq_true rfl) (fun p e s m below meth c ls A S hr hlk hK hP hD hS hA hl => ?_)
  obtain ⟨hx, hb, hml, hown, hU⟩ := id S
  have hl : lv_has ls 5 [(0, .ref (a 0)), (1, .int (nI sh)), (2, .int (nI 8)), (3, .int (nI q))] := hl
  refine lv_iload_n hx hb dX4_sheet_0 rfl (lv_at hl 1 rfl) ?_
  refine RO.callS S ks_X4_283 (c_X4_isSheet l D cI cJ a f σ (nI sh)) hK hP ⟨Nat.le_of_ble_eq_true rfl, Nat.le_of_ble_eq_true rfl⟩ hl.1 rfl rfl (Nat.le_of_ble_eq_true rfl) (Nat.zero_le _) (Nat.zero_le _) dX4_sheet_1 ?_
  refine q_if_eqB (tgt := 29) hx hb dX4_sheet_4 (by decide) (fun h => absurd (⟨nI_pos' (by omega), nI_lt (by omega) (by decide)⟩) h) (fun _ => ?_)
  refine lv_iload_n hx hb dX4_sheet_7 rfl (lv_at hl 2 rfl) ?_
  refine q_if_eqN (tgt := 36) (a := 8) hx hb dX4_sheet_8 (by decide) (by omega) (fun h => absurd h (by omega)) (fun _ => ?_)
  refine lv_iload_n hx hb dX4_sheet_11 rfl (lv_at hl 2 rfl) ?_
  refine lv_bipush (v := nI 8) hx hb dX4_sheet_12 (by decide) ?_
  refine q_icmp_eqN (tgt := 36) (a := 8) (b := 8) hx hb dX4_sheet_14 (by decide) (by omega) (by omega) (fun _ => ?_) (fun h => absurd h (by omega))
  refine lv_iload_n hx hb dX4_sheet_36 rfl (lv_at hl 3 rfl) ?_
  refine q_if_geN (tgt := 48) (a := q) hx hb dX4_sheet_37 (by decide) (by omega) ?_
  refine lv_iload_n hx hb dX4_sheet_48 rfl (lv_at hl 3 rfl) ?_
  refine lv_bipush (v := nI 40) hx hb dX4_sheet_49 (by decide) ?_
  refine q_icmp_leN (tgt := 61) (a := q) (b := 40) hx hb dX4_sheet_51 (by decide) (by omega) (by omega) (fun _ => ?_) (fun h => absurd h (by omega))
  refine lv_aload_n hx hb dX4_sheet_61 rfl (lv_at hl 0 rfl) ?_
  refine g4_bitsOf S hK hP dX4_sheet_62 ?_
  refine lv_iload_n hx hb dX4_sheet_65 rfl (lv_at hl 1 rfl) ?_
  refine lv_iload_n hx hb dX4_sheet_66 rfl (lv_at hl 2 rfl) ?_
  refine q_if_neN (tgt := 74) (a := 8) hx hb dX4_sheet_67 (by decide) (by omega) (fun _ => ?_) (fun h => absurd h (by omega))
  refine lv_iload_n hx hb dX4_sheet_74 rfl (lv_at hl 2 rfl) ?_
  refine s4_bitsOf S hK hP hD hS (j := sh) (by omega) dX4_sheet_75 (fun H locs hP hD hS => ?_)
  refine lv_aload_n hx hb dX4_sheet_76 rfl (lv_at hl 0 rfl) ?_
  refine g4_sizes S hK hP dX4_sheet_77 ?_
  refine lv_iload_n hx hb dX4_sheet_80 rfl (lv_at hl 1 rfl) ?_
  refine lv_iload_n hx hb dX4_sheet_81 rfl (lv_at hl 2 rfl) ?_
  refine q_if_neN (tgt := 89) (a := 8) hx hb dX4_sheet_82 (by decide) (by omega) (fun _ => ?_) (fun h => absurd h (by omega))
  refine lv_iload_n hx hb dX4_sheet_89 rfl (lv_at hl 3 rfl) ?_
  refine s4_sizes S hK hP hD hS (j := sh) (by omega) dX4_sheet_90 (fun H locs hP hD hS => ?_)
  refine lv_iconst (v := nI 0) hx hb dX4_sheet_91 (by decide) ?_
  refine lv_istore (lv' := [(4, .int (nI 0)), (0, .ref (a 0)), (1, .int (nI sh)), (2, .int (nI 8)), (3, .int (nI q))]) hx hb dX4_sheet_92 hl (by decide) rfl (fun ls hl => ?_)
  have L_94 : ∀ (n9 : Nat) (k : Nat) (H : Heap) (locs : List Loc) (ls : Array Slot), 40 - k < n9 → (k ≤ 40) → va_P D vwCl (MW cI a f (va_up (va_up (va_up σ 6 (upd (σ 6) sh (nI 8))) 7 (upd (σ 7) sh (nI q))) 8 (zrw (σ 8) sh k))) H → va_D A (MW cI a f (va_up (va_up (va_up σ 6 (upd (σ 6) sh (nI 8))) 7 (upd (σ 7) sh (nI q))) 8 (zrw (σ 8) sh k))) → va_S A s.heap H locs → lv_has ls 5 [(0, .ref (a 0)), (1, .int (nI sh)), (4, .int (nI k))] → W p l e (rmd 1) s m ([.ref (a 0), .int (nI sh), .int (nI 8), .int (nI q)] : List Value).toArray below meth c H locs 0 0 (ZW below ([.ref (a 0), .int (nI sh), .int (nI 8), .int (nI q)] : List Value).toArray s D (some (.int (nI q))) (MW cI a f (va_up (va_up (va_up σ 6 (upd (σ 6) sh (nI 8))) 7 (upd (σ 7) sh (nI q))) 8 (zrw (σ 8) sh 40))) A) (F0 m 94 ls []) := by
    intro n9
    induction n9 with
    | zero => intro k H locs ls hmeas; exact absurd hmeas (Nat.not_lt_zero _)
    | succ n9 ih_94 =>
      intro k H locs ls hmeas hk hP hD hS hl
      refine lv_iload hx hb dX4_sheet_94 (lv_at hl 2 rfl) ?_
      refine lv_bipush (v := nI 40) hx hb dX4_sheet_96 (by decide) ?_
      refine q_icmp_geN (tgt := 120) (a := k) (b := 40) hx hb dX4_sheet_98 (by decide) (by omega) (by omega) (fun c_98 => ?_) (fun c_98 => ?_)
      · rw [show k = 40 by omega] at hP hD
        refine lv_aload_n hx hb dX4_sheet_120 rfl (lv_at hl 0 rfl) ?_
        refine g4_sizes S hK hP dX4_sheet_121 ?_
        refine lv_iload_n hx hb dX4_sheet_124 rfl (lv_at hl 1 rfl) ?_
        refine l4_sizes S hK hP (j := sh) (by omega) dX4_sheet_125 ?_
        refine q_eqi (y := nI q) (upd_at) ?_
        exact WR.iret S hr hlk hP hS (rfl) rfl dX4_sheet_126
      · refine lv_aload_n hx hb dX4_sheet_101 rfl (lv_at hl 0 rfl) ?_
        refine g4_numbers S hK hP dX4_sheet_102 ?_
        refine lv_bipush (v := nI 40) hx hb dX4_sheet_105 (by decide) ?_
        refine lv_iload_n hx hb dX4_sheet_107 rfl (lv_at hl 1 rfl) ?_
        refine q_imulN (a := 40) (b := sh) hx hb dX4_sheet_108 ?_
        refine lv_iload hx hb dX4_sheet_109 (lv_at hl 2 rfl) ?_
        refine q_iaddN (a := 40 * sh) (b := k) hx hb dX4_sheet_111 ?_
        refine lv_iconst (v := nI 0) hx hb dX4_sheet_112 (by decide) ?_
        refine s4_numbers S hK hP hD hS (j := (40 * sh) + k) (by omega) dX4_sheet_113 (fun H locs hP hD hS => ?_)
        refine lv_iinc (v := nI (k + 1)) (lv' := [(4, .int (nI (k + 1))), (0, .ref (a 0)), (1, .int (nI sh))]) hx hb dX4_sheet_114 hl (k := 2) rfl (q_inc _) (by decide) rfl (fun ls hl => ?_)
        refine lv_goto (tgt := 94) hx hb dX4_sheet_117 (by decide) ?_
        exact ih_94 (k + 1) _ _ ls (by omega) (by omega) (by rw [← show va_up (va_up (va_up (va_up σ 6 (upd (σ 6) sh (nI 8))) 7 (upd (σ 7) sh (nI q))) 8 (zrw (σ 8) sh k)) 8 (zrw (σ 8) sh (k + 1)) = va_up (va_up (va_up σ 6 (upd (σ 6) sh (nI 8))) 7 (upd (σ 7) sh (nI q))) 8 (zrw (σ 8) sh (k + 1)) from bx_uu _ _ _ _]; exact hP) (by rw [← show va_up (va_up (va_up (va_up σ 6 (upd (σ 6) sh (nI 8))) 7 (upd (σ 7) sh (nI q))) 8 (zrw (σ 8) sh k)) 8 (zrw (σ 8) sh (k + 1)) = va_up (va_up (va_up σ 6 (upd (σ 6) sh (nI 8))) 7 (upd (σ 7) sh (nI q))) 8 (zrw (σ 8) sh (k + 1)) from bx_uu _ _ _ _]; exact hD) hS (lv_sub hl [1, 2, 0] rfl)
  exact L_94 ((40 - 0) + 1) 0 _ _ ls (Nat.lt_succ_self _) (Nat.zero_le _) (by rw [show va_up (va_up (va_up σ 6 (upd (σ 6) sh (nI 8))) 7 (upd (σ 7) sh (nI q))) 8 (zrw (σ 8) sh 0) = va_up (va_up σ 6 (upd (σ 6) sh (nI 8))) 7 (upd (σ 7) sh (nI q)) from va_up_self2 (va_up (va_up σ 6 (upd (σ 6) sh (nI 8))) 7 (upd (σ 7) sh (nI q))) 8]; exact hP) (by rw [show va_up (va_up (va_up σ 6 (upd (σ 6) sh (nI 8))) 7 (upd (σ 7) sh (nI q))) 8 (zrw (σ 8) sh 0) = va_up (va_up σ 6 (upd (σ 6) sh (nI 8))) 7 (upd (σ 7) sh (nI q)) from va_up_self2 (va_up (va_up σ 6 (upd (σ 6) sh (nI 8))) 7 (upd (σ 7) sh (nI q))) 8]; exact hD) hS (lv_sub hl [1, 2, 0] rfl)
set_option maxRecDepth 100000 in
set_option maxHeartbeats 4000000 in
theorem c_X4_sheet_size16 (l : Launch) (D : va_G) (cI cJ : ClassId) (a : Nat → Nat) (f : Nat → Int32) (σ : Nat → Nat → Int32) (sh : Nat) (hsh : sh < 4) (z : Int32) (hz : z < 0) : WR l yX4_sheet cX4_sheet 5 (some .int) 1 D cI cJ (MW cI a f σ) [.ref (a 0), .int (nI sh), .int (nI 16), .int z] (some (.int (-1000007))) (MW cI a f (va_up σ 4 (mFi (σ 4) 6))) := by
  refine WR.of (by decide) (Nat.le_of_ble_eq_true rfl) (fun p e s m below meth c ls A S hr hlk hK hP hD hS hA hl => ?_)
  obtain ⟨hx, hb, hml, hown, hU⟩ := id S
  have hl : lv_has ls 5 [(0, .ref (a 0)), (1, .int (nI sh)), (2, .int (nI 16)), (3, .int z)] := hl
  refine lv_iload_n hx hb dX4_sheet_0 rfl (lv_at hl 1 rfl) ?_
  refine RO.callS S ks_X4_283 (c_X4_isSheet l D cI cJ a f σ (nI sh)) hK hP ⟨Nat.le_of_ble_eq_true rfl, Nat.le_of_ble_eq_true rfl⟩ hl.1 rfl rfl (Nat.le_of_ble_eq_true rfl) (Nat.zero_le _) (Nat.zero_le _) dX4_sheet_1 ?_
  refine q_if_eqB (tgt := 29) hx hb dX4_sheet_4 (by decide) (fun h => absurd (⟨nI_pos' (by omega), nI_lt (by omega) (by decide)⟩) h) (fun _ => ?_)
  refine lv_iload_n hx hb dX4_sheet_7 rfl (lv_at hl 2 rfl) ?_
  refine q_if_eqN (tgt := 36) (a := 16) hx hb dX4_sheet_8 (by decide) (by omega) (fun h => absurd h (by omega)) (fun _ => ?_)
  refine lv_iload_n hx hb dX4_sheet_11 rfl (lv_at hl 2 rfl) ?_
  refine lv_bipush (v := nI 8) hx hb dX4_sheet_12 (by decide) ?_
  refine q_icmp_eqN (tgt := 36) (a := 16) (b := 8) hx hb dX4_sheet_14 (by decide) (by omega) (by omega) (fun h => absurd h (by omega)) (fun _ => ?_)
  refine lv_iload_n hx hb dX4_sheet_17 rfl (lv_at hl 2 rfl) ?_
  refine lv_bipush (v := nI 16) hx hb dX4_sheet_18 (by decide) ?_
  refine q_icmp_eqN (tgt := 36) (a := 16) (b := 16) hx hb dX4_sheet_20 (by decide) (by omega) (by omega) (fun _ => ?_) (fun h => absurd h (by omega))
  refine lv_iload_n hx hb dX4_sheet_36 rfl (lv_at hl 3 rfl) ?_
  refine lv_if_ge (tgt := 48) hx hb dX4_sheet_37 (by decide) (fun c_37 => ?_) (fun c_37 => ?_)
  · exact absurd c_37 (i32_not_le_of_lt hz)
  · refine lv_aload_n hx hb dX4_sheet_40 rfl (lv_at hl 0 rfl) ?_
    refine lv_ldcw (v := (-1000007)) hx hb hown (hU _ mK_X4_286) dX4_sheet_41 ?_
    refine WR.callV (w1 := MW cI a f (va_up σ 4 (mFi (σ 4) 6))) S kv_X4_39 (c_X4_fd6 l D cI cJ a f σ) hK hP hD hS hA ([]) ([]) rfl rfl MW_fst rfl ⟨Nat.le_of_ble_eq_true rfl, Nat.le_of_ble_eq_true rfl⟩ hl.1 rfl rfl (Nat.le_of_ble_eq_true rfl) (Nat.zero_le _) (Nat.zero_le _) dX4_sheet_44 (fun H locs hP hD hS => ?_)
    exact WR.iret S hr hlk hP hS (rfl) rfl dX4_sheet_47
set_option maxRecDepth 100000 in
set_option maxHeartbeats 4000000 in
theorem c_X4_sheet_big16 (l : Launch) (D : va_G) (cI cJ : ClassId) (a : Nat → Nat) (f : Nat → Int32) (σ : Nat → Nat → Int32) (sh : Nat) (hsh : sh < 4) (z : Int32) (hz : nI 40 < z) : WR l yX4_sheet cX4_sheet 5 (some .int) 1 D cI cJ (MW cI a f σ) [.ref (a 0), .int (nI sh), .int (nI 16), .int z] (some (.int (-1000001))) (MW cI a f (va_up σ 4 (mFi (σ 4) 0))) := by
  refine WR.of (by decide) (Nat.le_of_ble_eq_true rfl) (fun p e s m below meth c ls A S hr hlk hK hP hD hS hA hl => ?_)
  obtain ⟨hx, hb, hml, hown, hU⟩ := id S
  have hl : lv_has ls 5 [(0, .ref (a 0)), (1, .int (nI sh)), (2, .int (nI 16)), (3, .int z)] := hl
  refine lv_iload_n hx hb dX4_sheet_0 rfl (lv_at hl 1 rfl) ?_
  refine RO.callS S ks_X4_283 (c_X4_isSheet l D cI cJ a f σ (nI sh)) hK hP ⟨Nat.le_of_ble_eq_true rfl, Nat.le_of_ble_eq_true rfl⟩ hl.1 rfl rfl (Nat.le_of_ble_eq_true rfl) (Nat.zero_le _) (Nat.zero_le _) dX4_sheet_1 ?_
  refine q_if_eqB (tgt := 29) hx hb dX4_sheet_4 (by decide) (fun h => absurd (⟨nI_pos' (by omega), nI_lt (by omega) (by decide)⟩) h) (fun _ => ?_)
  refine lv_iload_n hx hb dX4_sheet_7 rfl (lv_at hl 2 rfl) ?_
  refine q_if_eqN (tgt := 36) (a := 16) hx hb dX4_sheet_8 (by decide) (by omega) (fun h => absurd h (by omega)) (fun _ => ?_)
  refine lv_iload_n hx hb dX4_sheet_11 rfl (lv_at hl 2 rfl) ?_
  refine lv_bipush (v := nI 8) hx hb dX4_sheet_12 (by decide) ?_
  refine q_icmp_eqN (tgt := 36) (a := 16) (b := 8) hx hb dX4_sheet_14 (by decide) (by omega) (by omega) (fun h => absurd h (by omega)) (fun _ => ?_)
  refine lv_iload_n hx hb dX4_sheet_17 rfl (lv_at hl 2 rfl) ?_
  refine lv_bipush (v := nI 16) hx hb dX4_sheet_18 (by decide) ?_
  refine q_icmp_eqN (tgt := 36) (a := 16) (b := 16) hx hb dX4_sheet_20 (by decide) (by omega) (by omega) (fun _ => ?_) (fun h => absurd h (by omega))
  refine lv_iload_n hx hb dX4_sheet_36 rfl (lv_at hl 3 rfl) ?_
  refine lv_if_ge (tgt := 48) hx hb dX4_sheet_37 (by decide) (fun c_37 => ?_) (fun c_37 => ?_)
  · refine lv_iload_n hx hb dX4_sheet_48 rfl (lv_at hl 3 rfl) ?_
    refine lv_bipush (v := nI 40) hx hb dX4_sheet_49 (by decide) ?_
    refine lv_icmp_le (tgt := 61) hx hb dX4_sheet_51 (by decide) (fun c_51 => ?_) (fun c_51 => ?_)
    · exact absurd hz (i32_not_lt_of_le c_51)
    · refine lv_aload_n hx hb dX4_sheet_54 rfl (lv_at hl 0 rfl) ?_
      refine lv_ldc (v := (-1000001)) hx hb hown (hU _ mK_X4_37) dX4_sheet_55 ?_
      refine WR.callV (w1 := MW cI a f (va_up σ 4 (mFi (σ 4) 0))) S kv_X4_39 (c_X4_fd0 l D cI cJ a f σ) hK hP hD hS hA ([]) ([]) rfl rfl MW_fst rfl ⟨Nat.le_of_ble_eq_true rfl, Nat.le_of_ble_eq_true rfl⟩ hl.1 rfl rfl (Nat.le_of_ble_eq_true rfl) (Nat.zero_le _) (Nat.zero_le _) dX4_sheet_57 (fun H locs hP hD hS => ?_)
      exact WR.iret S hr hlk hP hS (rfl) rfl dX4_sheet_60
  · exact absurd (i32_pos40 hz) c_37
set_option maxRecDepth 100000 in
set_option maxHeartbeats 4000000 in
theorem c_X4_sheet_ok16 (l : Launch) (D : va_G) (cI cJ : ClassId) (a : Nat → Nat) (f : Nat → Int32) (σ : Nat → Nat → Int32) (sh : Nat) (hsh : sh < 4) (q : Nat) (hq : q ≤ 40) : WR l yX4_sheet cX4_sheet 5 (some .int) 1 D cI cJ (MW cI a f σ) [.ref (a 0), .int (nI sh), .int (nI 16), .int (nI q)] (some (.int (nI q))) (MW cI a f (va_up (va_up (va_up σ 6 (upd (σ 6) sh (nI 16))) 7 (upd (σ 7) sh (nI q))) 8 (zrw (σ 8) sh 40))) := by
  refine WR.of (by decide) (Nat.le_of_ble_eq_true rfl) (fun p e s m below meth c ls A S hr hlk hK hP hD hS hA hl => ?_)
  obtain ⟨hx, hb, hml, hown, hU⟩ := id S
  have hl : lv_has ls 5 [(0, .ref (a 0)), (1, .int (nI sh)), (2, .int (nI 16)), (3, .int (nI q))] := hl
  refine lv_iload_n hx hb dX4_sheet_0 rfl (lv_at hl 1 rfl) ?_
  refine RO.callS S ks_X4_283 (c_X4_isSheet l D cI cJ a f σ (nI sh)) hK hP ⟨Nat.le_of_ble_eq_true rfl, Nat.le_of_ble_eq_true rfl⟩ hl.1 rfl rfl (Nat.le_of_ble_eq_true rfl) (Nat.zero_le _) (Nat.zero_le _) dX4_sheet_1 ?_
  refine q_if_eqB (tgt := 29) hx hb dX4_sheet_4 (by decide) (fun h => absurd (⟨nI_pos' (by omega), nI_lt (by omega) (by decide)⟩) h) (fun _ => ?_)
  refine lv_iload_n hx hb dX4_sheet_7 rfl (lv_at hl 2 rfl) ?_
  refine q_if_eqN (tgt := 36) (a := 16) hx hb dX4_sheet_8 (by decide) (by omega) (fun h => absurd h (by omega)) (fun _ => ?_)
  refine lv_iload_n hx hb dX4_sheet_11 rfl (lv_at hl 2 rfl) ?_
  refine lv_bipush (v := nI 8) hx hb dX4_sheet_12 (by decide) ?_
  refine q_icmp_eqN (tgt := 36) (a := 16) (b := 8) hx hb dX4_sheet_14 (by decide) (by omega) (by omega) (fun h => absurd h (by omega)) (fun _ => ?_)
  refine lv_iload_n hx hb dX4_sheet_17 rfl (lv_at hl 2 rfl) ?_
  refine lv_bipush (v := nI 16) hx hb dX4_sheet_18 (by decide) ?_
  refine q_icmp_eqN (tgt := 36) (a := 16) (b := 16) hx hb dX4_sheet_20 (by decide) (by omega) (by omega) (fun _ => ?_) (fun h => absurd h (by omega))
  refine lv_iload_n hx hb dX4_sheet_36 rfl (lv_at hl 3 rfl) ?_
  refine q_if_geN (tgt := 48) (a := q) hx hb dX4_sheet_37 (by decide) (by omega) ?_
  refine lv_iload_n hx hb dX4_sheet_48 rfl (lv_at hl 3 rfl) ?_
  refine lv_bipush (v := nI 40) hx hb dX4_sheet_49 (by decide) ?_
  refine q_icmp_leN (tgt := 61) (a := q) (b := 40) hx hb dX4_sheet_51 (by decide) (by omega) (by omega) (fun _ => ?_) (fun h => absurd h (by omega))
  refine lv_aload_n hx hb dX4_sheet_61 rfl (lv_at hl 0 rfl) ?_
  refine g4_bitsOf S hK hP dX4_sheet_62 ?_
  refine lv_iload_n hx hb dX4_sheet_65 rfl (lv_at hl 1 rfl) ?_
  refine lv_iload_n hx hb dX4_sheet_66 rfl (lv_at hl 2 rfl) ?_
  refine q_if_neN (tgt := 74) (a := 16) hx hb dX4_sheet_67 (by decide) (by omega) (fun _ => ?_) (fun h => absurd h (by omega))
  refine lv_iload_n hx hb dX4_sheet_74 rfl (lv_at hl 2 rfl) ?_
  refine s4_bitsOf S hK hP hD hS (j := sh) (by omega) dX4_sheet_75 (fun H locs hP hD hS => ?_)
  refine lv_aload_n hx hb dX4_sheet_76 rfl (lv_at hl 0 rfl) ?_
  refine g4_sizes S hK hP dX4_sheet_77 ?_
  refine lv_iload_n hx hb dX4_sheet_80 rfl (lv_at hl 1 rfl) ?_
  refine lv_iload_n hx hb dX4_sheet_81 rfl (lv_at hl 2 rfl) ?_
  refine q_if_neN (tgt := 89) (a := 16) hx hb dX4_sheet_82 (by decide) (by omega) (fun _ => ?_) (fun h => absurd h (by omega))
  refine lv_iload_n hx hb dX4_sheet_89 rfl (lv_at hl 3 rfl) ?_
  refine s4_sizes S hK hP hD hS (j := sh) (by omega) dX4_sheet_90 (fun H locs hP hD hS => ?_)
  refine lv_iconst (v := nI 0) hx hb dX4_sheet_91 (by decide) ?_
  refine lv_istore (lv' := [(4, .int (nI 0)), (0, .ref (a 0)), (1, .int (nI sh)), (2, .int (nI 16)), (3, .int (nI q))]) hx hb dX4_sheet_92 hl (by decide) rfl (fun ls hl => ?_)
  have L_94 : ∀ (n9 : Nat) (k : Nat) (H : Heap) (locs : List Loc) (ls : Array Slot), 40 - k < n9 → (k ≤ 40) → va_P D vwCl (MW cI a f (va_up (va_up (va_up σ 6 (upd (σ 6) sh (nI 16))) 7 (upd (σ 7) sh (nI q))) 8 (zrw (σ 8) sh k))) H → va_D A (MW cI a f (va_up (va_up (va_up σ 6 (upd (σ 6) sh (nI 16))) 7 (upd (σ 7) sh (nI q))) 8 (zrw (σ 8) sh k))) → va_S A s.heap H locs → lv_has ls 5 [(0, .ref (a 0)), (1, .int (nI sh)), (4, .int (nI k))] → W p l e (rmd 1) s m ([.ref (a 0), .int (nI sh), .int (nI 16), .int (nI q)] : List Value).toArray below meth c H locs 0 0 (ZW below ([.ref (a 0), .int (nI sh), .int (nI 16), .int (nI q)] : List Value).toArray s D (some (.int (nI q))) (MW cI a f (va_up (va_up (va_up σ 6 (upd (σ 6) sh (nI 16))) 7 (upd (σ 7) sh (nI q))) 8 (zrw (σ 8) sh 40))) A) (F0 m 94 ls []) := by
    intro n9
    induction n9 with
    | zero => intro k H locs ls hmeas; exact absurd hmeas (Nat.not_lt_zero _)
    | succ n9 ih_94 =>
      intro k H locs ls hmeas hk hP hD hS hl
      refine lv_iload hx hb dX4_sheet_94 (lv_at hl 2 rfl) ?_
      refine lv_bipush (v := nI 40) hx hb dX4_sheet_96 (by decide) ?_
      refine q_icmp_geN (tgt := 120) (a := k) (b := 40) hx hb dX4_sheet_98 (by decide) (by omega) (by omega) (fun c_98 => ?_) (fun c_98 => ?_)
      · rw [show k = 40 by omega] at hP hD
        refine lv_aload_n hx hb dX4_sheet_120 rfl (lv_at hl 0 rfl) ?_
        refine g4_sizes S hK hP dX4_sheet_121 ?_
        refine lv_iload_n hx hb dX4_sheet_124 rfl (lv_at hl 1 rfl) ?_
        refine l4_sizes S hK hP (j := sh) (by omega) dX4_sheet_125 ?_
        refine q_eqi (y := nI q) (upd_at) ?_
        exact WR.iret S hr hlk hP hS (rfl) rfl dX4_sheet_126
      · refine lv_aload_n hx hb dX4_sheet_101 rfl (lv_at hl 0 rfl) ?_
        refine g4_numbers S hK hP dX4_sheet_102 ?_
        refine lv_bipush (v := nI 40) hx hb dX4_sheet_105 (by decide) ?_
        refine lv_iload_n hx hb dX4_sheet_107 rfl (lv_at hl 1 rfl) ?_
        refine q_imulN (a := 40) (b := sh) hx hb dX4_sheet_108 ?_
        refine lv_iload hx hb dX4_sheet_109 (lv_at hl 2 rfl) ?_
        refine q_iaddN (a := 40 * sh) (b := k) hx hb dX4_sheet_111 ?_
        refine lv_iconst (v := nI 0) hx hb dX4_sheet_112 (by decide) ?_
        refine s4_numbers S hK hP hD hS (j := (40 * sh) + k) (by omega) dX4_sheet_113 (fun H locs hP hD hS => ?_)
        refine lv_iinc (v := nI (k + 1)) (lv' := [(4, .int (nI (k + 1))), (0, .ref (a 0)), (1, .int (nI sh))]) hx hb dX4_sheet_114 hl (k := 2) rfl (q_inc _) (by decide) rfl (fun ls hl => ?_)
        refine lv_goto (tgt := 94) hx hb dX4_sheet_117 (by decide) ?_
        exact ih_94 (k + 1) _ _ ls (by omega) (by omega) (by rw [← show va_up (va_up (va_up (va_up σ 6 (upd (σ 6) sh (nI 16))) 7 (upd (σ 7) sh (nI q))) 8 (zrw (σ 8) sh k)) 8 (zrw (σ 8) sh (k + 1)) = va_up (va_up (va_up σ 6 (upd (σ 6) sh (nI 16))) 7 (upd (σ 7) sh (nI q))) 8 (zrw (σ 8) sh (k + 1)) from bx_uu _ _ _ _]; exact hP) (by rw [← show va_up (va_up (va_up (va_up σ 6 (upd (σ 6) sh (nI 16))) 7 (upd (σ 7) sh (nI q))) 8 (zrw (σ 8) sh k)) 8 (zrw (σ 8) sh (k + 1)) = va_up (va_up (va_up σ 6 (upd (σ 6) sh (nI 16))) 7 (upd (σ 7) sh (nI q))) 8 (zrw (σ 8) sh (k + 1)) from bx_uu _ _ _ _]; exact hD) hS (lv_sub hl [1, 2, 0] rfl)
  exact L_94 ((40 - 0) + 1) 0 _ _ ls (Nat.lt_succ_self _) (Nat.zero_le _) (by rw [show va_up (va_up (va_up σ 6 (upd (σ 6) sh (nI 16))) 7 (upd (σ 7) sh (nI q))) 8 (zrw (σ 8) sh 0) = va_up (va_up σ 6 (upd (σ 6) sh (nI 16))) 7 (upd (σ 7) sh (nI q)) from va_up_self2 (va_up (va_up σ 6 (upd (σ 6) sh (nI 16))) 7 (upd (σ 7) sh (nI q))) 8]; exact hP) (by rw [show va_up (va_up (va_up σ 6 (upd (σ 6) sh (nI 16))) 7 (upd (σ 7) sh (nI q))) 8 (zrw (σ 8) sh 0) = va_up (va_up σ 6 (upd (σ 6) sh (nI 16))) 7 (upd (σ 7) sh (nI q)) from va_up_self2 (va_up (va_up σ 6 (upd (σ 6) sh (nI 16))) 7 (upd (σ 7) sh (nI q))) 8]; exact hD) hS (lv_sub hl [1, 2, 0] rfl)
set_option maxRecDepth 100000 in
set_option maxHeartbeats 4000000 in
theorem c_X4_sheet_size32 (l : Launch) (D : va_G) (cI cJ : ClassId) (a : Nat → Nat) (f : Nat → Int32) (σ : Nat → Nat → Int32) (sh : Nat) (hsh : sh < 4) (z : Int32) (hz : z < 0) : WR l yX4_sheet cX4_sheet 5 (some .int) 1 D cI cJ (MW cI a f σ) [.ref (a 0), .int (nI sh), .int (nI 32), .int z] (some (.int (-1000007))) (MW cI a f (va_up σ 4 (mFi (σ 4) 6))) := by
  refine WR.of (by decide) (Nat.le_of_ble_eq_true rfl) (fun p e s m below meth c ls A S hr hlk hK hP hD hS hA hl => ?_)
  obtain ⟨hx, hb, hml, hown, hU⟩ := id S
  have hl : lv_has ls 5 [(0, .ref (a 0)), (1, .int (nI sh)), (2, .int (nI 32)), (3, .int z)] := hl
  refine lv_iload_n hx hb dX4_sheet_0 rfl (lv_at hl 1 rfl) ?_
  refine RO.callS S ks_X4_283 (c_X4_isSheet l D cI cJ a f σ (nI sh)) hK hP ⟨Nat.le_of_ble_eq_true rfl, Nat.le_of_ble_eq_true rfl⟩ hl.1 rfl rfl (Nat.le_of_ble_eq_true rfl) (Nat.zero_le _) (Nat.zero_le _) dX4_sheet_1 ?_
  refine q_if_eqB (tgt := 29) hx hb dX4_sheet_4 (by decide) (fun h => absurd (⟨nI_pos' (by omega), nI_lt (by omega) (by decide)⟩) h) (fun _ => ?_)
  refine lv_iload_n hx hb dX4_sheet_7 rfl (lv_at hl 2 rfl) ?_
  refine q_if_eqN (tgt := 36) (a := 32) hx hb dX4_sheet_8 (by decide) (by omega) (fun h => absurd h (by omega)) (fun _ => ?_)
  refine lv_iload_n hx hb dX4_sheet_11 rfl (lv_at hl 2 rfl) ?_
  refine lv_bipush (v := nI 8) hx hb dX4_sheet_12 (by decide) ?_
  refine q_icmp_eqN (tgt := 36) (a := 32) (b := 8) hx hb dX4_sheet_14 (by decide) (by omega) (by omega) (fun h => absurd h (by omega)) (fun _ => ?_)
  refine lv_iload_n hx hb dX4_sheet_17 rfl (lv_at hl 2 rfl) ?_
  refine lv_bipush (v := nI 16) hx hb dX4_sheet_18 (by decide) ?_
  refine q_icmp_eqN (tgt := 36) (a := 32) (b := 16) hx hb dX4_sheet_20 (by decide) (by omega) (by omega) (fun h => absurd h (by omega)) (fun _ => ?_)
  refine lv_iload_n hx hb dX4_sheet_23 rfl (lv_at hl 2 rfl) ?_
  refine lv_bipush (v := nI 32) hx hb dX4_sheet_24 (by decide) ?_
  refine q_icmp_eqN (tgt := 36) (a := 32) (b := 32) hx hb dX4_sheet_26 (by decide) (by omega) (by omega) (fun _ => ?_) (fun h => absurd h (by omega))
  refine lv_iload_n hx hb dX4_sheet_36 rfl (lv_at hl 3 rfl) ?_
  refine lv_if_ge (tgt := 48) hx hb dX4_sheet_37 (by decide) (fun c_37 => ?_) (fun c_37 => ?_)
  · exact absurd c_37 (i32_not_le_of_lt hz)
  · refine lv_aload_n hx hb dX4_sheet_40 rfl (lv_at hl 0 rfl) ?_
    refine lv_ldcw (v := (-1000007)) hx hb hown (hU _ mK_X4_286) dX4_sheet_41 ?_
    refine WR.callV (w1 := MW cI a f (va_up σ 4 (mFi (σ 4) 6))) S kv_X4_39 (c_X4_fd6 l D cI cJ a f σ) hK hP hD hS hA ([]) ([]) rfl rfl MW_fst rfl ⟨Nat.le_of_ble_eq_true rfl, Nat.le_of_ble_eq_true rfl⟩ hl.1 rfl rfl (Nat.le_of_ble_eq_true rfl) (Nat.zero_le _) (Nat.zero_le _) dX4_sheet_44 (fun H locs hP hD hS => ?_)
    exact WR.iret S hr hlk hP hS (rfl) rfl dX4_sheet_47
set_option maxRecDepth 100000 in
set_option maxHeartbeats 4000000 in
theorem c_X4_sheet_big32 (l : Launch) (D : va_G) (cI cJ : ClassId) (a : Nat → Nat) (f : Nat → Int32) (σ : Nat → Nat → Int32) (sh : Nat) (hsh : sh < 4) (z : Int32) (hz : nI 40 < z) : WR l yX4_sheet cX4_sheet 5 (some .int) 1 D cI cJ (MW cI a f σ) [.ref (a 0), .int (nI sh), .int (nI 32), .int z] (some (.int (-1000001))) (MW cI a f (va_up σ 4 (mFi (σ 4) 0))) := by
  refine WR.of (by decide) (Nat.le_of_ble_eq_true rfl) (fun p e s m below meth c ls A S hr hlk hK hP hD hS hA hl => ?_)
  obtain ⟨hx, hb, hml, hown, hU⟩ := id S
  have hl : lv_has ls 5 [(0, .ref (a 0)), (1, .int (nI sh)), (2, .int (nI 32)), (3, .int z)] := hl
  refine lv_iload_n hx hb dX4_sheet_0 rfl (lv_at hl 1 rfl) ?_
  refine RO.callS S ks_X4_283 (c_X4_isSheet l D cI cJ a f σ (nI sh)) hK hP ⟨Nat.le_of_ble_eq_true rfl, Nat.le_of_ble_eq_true rfl⟩ hl.1 rfl rfl (Nat.le_of_ble_eq_true rfl) (Nat.zero_le _) (Nat.zero_le _) dX4_sheet_1 ?_
  refine q_if_eqB (tgt := 29) hx hb dX4_sheet_4 (by decide) (fun h => absurd (⟨nI_pos' (by omega), nI_lt (by omega) (by decide)⟩) h) (fun _ => ?_)
  refine lv_iload_n hx hb dX4_sheet_7 rfl (lv_at hl 2 rfl) ?_
  refine q_if_eqN (tgt := 36) (a := 32) hx hb dX4_sheet_8 (by decide) (by omega) (fun h => absurd h (by omega)) (fun _ => ?_)
  refine lv_iload_n hx hb dX4_sheet_11 rfl (lv_at hl 2 rfl) ?_
  refine lv_bipush (v := nI 8) hx hb dX4_sheet_12 (by decide) ?_
  refine q_icmp_eqN (tgt := 36) (a := 32) (b := 8) hx hb dX4_sheet_14 (by decide) (by omega) (by omega) (fun h => absurd h (by omega)) (fun _ => ?_)
  refine lv_iload_n hx hb dX4_sheet_17 rfl (lv_at hl 2 rfl) ?_
  refine lv_bipush (v := nI 16) hx hb dX4_sheet_18 (by decide) ?_
  refine q_icmp_eqN (tgt := 36) (a := 32) (b := 16) hx hb dX4_sheet_20 (by decide) (by omega) (by omega) (fun h => absurd h (by omega)) (fun _ => ?_)
  refine lv_iload_n hx hb dX4_sheet_23 rfl (lv_at hl 2 rfl) ?_
  refine lv_bipush (v := nI 32) hx hb dX4_sheet_24 (by decide) ?_
  refine q_icmp_eqN (tgt := 36) (a := 32) (b := 32) hx hb dX4_sheet_26 (by decide) (by omega) (by omega) (fun _ => ?_) (fun h => absurd h (by omega))
  refine lv_iload_n hx hb dX4_sheet_36 rfl (lv_at hl 3 rfl) ?_
  refine lv_if_ge (tgt := 48) hx hb dX4_sheet_37 (by decide) (fun c_37 => ?_) (fun c_37 => ?_)
  · refine lv_iload_n hx hb dX4_sheet_48 rfl (lv_at hl 3 rfl) ?_
    refine lv_bipush (v := nI 40) hx hb dX4_sheet_49 (by decide) ?_
    refine lv_icmp_le (tgt := 61) hx hb dX4_sheet_51 (by decide) (fun c_51 => ?_) (fun c_51 => ?_)
    · exact absurd hz (i32_not_lt_of_le c_51)
    · refine lv_aload_n hx hb dX4_sheet_54 rfl (lv_at hl 0 rfl) ?_
      refine lv_ldc (v := (-1000001)) hx hb hown (hU _ mK_X4_37) dX4_sheet_55 ?_
      refine WR.callV (w1 := MW cI a f (va_up σ 4 (mFi (σ 4) 0))) S kv_X4_39 (c_X4_fd0 l D cI cJ a f σ) hK hP hD hS hA ([]) ([]) rfl rfl MW_fst rfl ⟨Nat.le_of_ble_eq_true rfl, Nat.le_of_ble_eq_true rfl⟩ hl.1 rfl rfl (Nat.le_of_ble_eq_true rfl) (Nat.zero_le _) (Nat.zero_le _) dX4_sheet_57 (fun H locs hP hD hS => ?_)
      exact WR.iret S hr hlk hP hS (rfl) rfl dX4_sheet_60
  · exact absurd (i32_pos40 hz) c_37
set_option maxRecDepth 100000 in
set_option maxHeartbeats 4000000 in
theorem c_X4_sheet_ok32 (l : Launch) (D : va_G) (cI cJ : ClassId) (a : Nat → Nat) (f : Nat → Int32) (σ : Nat → Nat → Int32) (sh : Nat) (hsh : sh < 4) (q : Nat) (hq : q ≤ 40) : WR l yX4_sheet cX4_sheet 5 (some .int) 1 D cI cJ (MW cI a f σ) [.ref (a 0), .int (nI sh), .int (nI 32), .int (nI q)] (some (.int (nI q))) (MW cI a f (va_up (va_up (va_up σ 6 (upd (σ 6) sh (nI 32))) 7 (upd (σ 7) sh (nI q))) 8 (zrw (σ 8) sh 40))) := by
  refine WR.of (by decide) (Nat.le_of_ble_eq_true rfl) (fun p e s m below meth c ls A S hr hlk hK hP hD hS hA hl => ?_)
  obtain ⟨hx, hb, hml, hown, hU⟩ := id S
  have hl : lv_has ls 5 [(0, .ref (a 0)), (1, .int (nI sh)), (2, .int (nI 32)), (3, .int (nI q))] := hl
  refine lv_iload_n hx hb dX4_sheet_0 rfl (lv_at hl 1 rfl) ?_
  refine RO.callS S ks_X4_283 (c_X4_isSheet l D cI cJ a f σ (nI sh)) hK hP ⟨Nat.le_of_ble_eq_true rfl, Nat.le_of_ble_eq_true rfl⟩ hl.1 rfl rfl (Nat.le_of_ble_eq_true rfl) (Nat.zero_le _) (Nat.zero_le _) dX4_sheet_1 ?_
  refine q_if_eqB (tgt := 29) hx hb dX4_sheet_4 (by decide) (fun h => absurd (⟨nI_pos' (by omega), nI_lt (by omega) (by decide)⟩) h) (fun _ => ?_)
  refine lv_iload_n hx hb dX4_sheet_7 rfl (lv_at hl 2 rfl) ?_
  refine q_if_eqN (tgt := 36) (a := 32) hx hb dX4_sheet_8 (by decide) (by omega) (fun h => absurd h (by omega)) (fun _ => ?_)
  refine lv_iload_n hx hb dX4_sheet_11 rfl (lv_at hl 2 rfl) ?_
  refine lv_bipush (v := nI 8) hx hb dX4_sheet_12 (by decide) ?_
  refine q_icmp_eqN (tgt := 36) (a := 32) (b := 8) hx hb dX4_sheet_14 (by decide) (by omega) (by omega) (fun h => absurd h (by omega)) (fun _ => ?_)
  refine lv_iload_n hx hb dX4_sheet_17 rfl (lv_at hl 2 rfl) ?_
  refine lv_bipush (v := nI 16) hx hb dX4_sheet_18 (by decide) ?_
  refine q_icmp_eqN (tgt := 36) (a := 32) (b := 16) hx hb dX4_sheet_20 (by decide) (by omega) (by omega) (fun h => absurd h (by omega)) (fun _ => ?_)
  refine lv_iload_n hx hb dX4_sheet_23 rfl (lv_at hl 2 rfl) ?_
  refine lv_bipush (v := nI 32) hx hb dX4_sheet_24 (by decide) ?_
  refine q_icmp_eqN (tgt := 36) (a := 32) (b := 32) hx hb dX4_sheet_26 (by decide) (by omega) (by omega) (fun _ => ?_) (fun h => absurd h (by omega))
  refine lv_iload_n hx hb dX4_sheet_36 rfl (lv_at hl 3 rfl) ?_
  refine q_if_geN (tgt := 48) (a := q) hx hb dX4_sheet_37 (by decide) (by omega) ?_
  refine lv_iload_n hx hb dX4_sheet_48 rfl (lv_at hl 3 rfl) ?_
  refine lv_bipush (v := nI 40) hx hb dX4_sheet_49 (by decide) ?_
  refine q_icmp_leN (tgt := 61) (a := q) (b := 40) hx hb dX4_sheet_51 (by decide) (by omega) (by omega) (fun _ => ?_) (fun h => absurd h (by omega))
  refine lv_aload_n hx hb dX4_sheet_61 rfl (lv_at hl 0 rfl) ?_
  refine g4_bitsOf S hK hP dX4_sheet_62 ?_
  refine lv_iload_n hx hb dX4_sheet_65 rfl (lv_at hl 1 rfl) ?_
  refine lv_iload_n hx hb dX4_sheet_66 rfl (lv_at hl 2 rfl) ?_
  refine q_if_neN (tgt := 74) (a := 32) hx hb dX4_sheet_67 (by decide) (by omega) (fun _ => ?_) (fun h => absurd h (by omega))
  refine lv_iload_n hx hb dX4_sheet_74 rfl (lv_at hl 2 rfl) ?_
  refine s4_bitsOf S hK hP hD hS (j := sh) (by omega) dX4_sheet_75 (fun H locs hP hD hS => ?_)
  refine lv_aload_n hx hb dX4_sheet_76 rfl (lv_at hl 0 rfl) ?_
  refine g4_sizes S hK hP dX4_sheet_77 ?_
  refine lv_iload_n hx hb dX4_sheet_80 rfl (lv_at hl 1 rfl) ?_
  refine lv_iload_n hx hb dX4_sheet_81 rfl (lv_at hl 2 rfl) ?_
  refine q_if_neN (tgt := 89) (a := 32) hx hb dX4_sheet_82 (by decide) (by omega) (fun _ => ?_) (fun h => absurd h (by omega))
  refine lv_iload_n hx hb dX4_sheet_89 rfl (lv_at hl 3 rfl) ?_
  refine s4_sizes S hK hP hD hS (j := sh) (by omega) dX4_sheet_90 (fun H locs hP hD hS => ?_)
  refine lv_iconst (v := nI 0) hx hb dX4_sheet_91 (by decide) ?_
  refine lv_istore (lv' := [(4, .int (nI 0)), (0, .ref (a 0)), (1, .int (nI sh)), (2, .int (nI 32)), (3, .int (nI q))]) hx hb dX4_sheet_92 hl (by decide) rfl (fun ls hl => ?_)
  have L_94 : ∀ (n9 : Nat) (k : Nat) (H : Heap) (locs : List Loc) (ls : Array Slot), 40 - k < n9 → (k ≤ 40) → va_P D vwCl (MW cI a f (va_up (va_up (va_up σ 6 (upd (σ 6) sh (nI 32))) 7 (upd (σ 7) sh (nI q))) 8 (zrw (σ 8) sh k))) H → va_D A (MW cI a f (va_up (va_up (va_up σ 6 (upd (σ 6) sh (nI 32))) 7 (upd (σ 7) sh (nI q))) 8 (zrw (σ 8) sh k))) → va_S A s.heap H locs → lv_has ls 5 [(0, .ref (a 0)), (1, .int (nI sh)), (4, .int (nI k))] → W p l e (rmd 1) s m ([.ref (a 0), .int (nI sh), .int (nI 32), .int (nI q)] : List Value).toArray below meth c H locs 0 0 (ZW below ([.ref (a 0), .int (nI sh), .int (nI 32), .int (nI q)] : List Value).toArray s D (some (.int (nI q))) (MW cI a f (va_up (va_up (va_up σ 6 (upd (σ 6) sh (nI 32))) 7 (upd (σ 7) sh (nI q))) 8 (zrw (σ 8) sh 40))) A) (F0 m 94 ls []) := by
    intro n9
    induction n9 with
    | zero => intro k H locs ls hmeas; exact absurd hmeas (Nat.not_lt_zero _)
    | succ n9 ih_94 =>
      intro k H locs ls hmeas hk hP hD hS hl
      refine lv_iload hx hb dX4_sheet_94 (lv_at hl 2 rfl) ?_
      refine lv_bipush (v := nI 40) hx hb dX4_sheet_96 (by decide) ?_
      refine q_icmp_geN (tgt := 120) (a := k) (b := 40) hx hb dX4_sheet_98 (by decide) (by omega) (by omega) (fun c_98 => ?_) (fun c_98 => ?_)
      · rw [show k = 40 by omega] at hP hD
        refine lv_aload_n hx hb dX4_sheet_120 rfl (lv_at hl 0 rfl) ?_
        refine g4_sizes S hK hP dX4_sheet_121 ?_
        refine lv_iload_n hx hb dX4_sheet_124 rfl (lv_at hl 1 rfl) ?_
        refine l4_sizes S hK hP (j := sh) (by omega) dX4_sheet_125 ?_
        refine q_eqi (y := nI q) (upd_at) ?_
        exact WR.iret S hr hlk hP hS (rfl) rfl dX4_sheet_126
      · refine lv_aload_n hx hb dX4_sheet_101 rfl (lv_at hl 0 rfl) ?_
        refine g4_numbers S hK hP dX4_sheet_102 ?_
        refine lv_bipush (v := nI 40) hx hb dX4_sheet_105 (by decide) ?_
        refine lv_iload_n hx hb dX4_sheet_107 rfl (lv_at hl 1 rfl) ?_
        refine q_imulN (a := 40) (b := sh) hx hb dX4_sheet_108 ?_
        refine lv_iload hx hb dX4_sheet_109 (lv_at hl 2 rfl) ?_
        refine q_iaddN (a := 40 * sh) (b := k) hx hb dX4_sheet_111 ?_
        refine lv_iconst (v := nI 0) hx hb dX4_sheet_112 (by decide) ?_
        refine s4_numbers S hK hP hD hS (j := (40 * sh) + k) (by omega) dX4_sheet_113 (fun H locs hP hD hS => ?_)
        refine lv_iinc (v := nI (k + 1)) (lv' := [(4, .int (nI (k + 1))), (0, .ref (a 0)), (1, .int (nI sh))]) hx hb dX4_sheet_114 hl (k := 2) rfl (q_inc _) (by decide) rfl (fun ls hl => ?_)
        refine lv_goto (tgt := 94) hx hb dX4_sheet_117 (by decide) ?_
        exact ih_94 (k + 1) _ _ ls (by omega) (by omega) (by rw [← show va_up (va_up (va_up (va_up σ 6 (upd (σ 6) sh (nI 32))) 7 (upd (σ 7) sh (nI q))) 8 (zrw (σ 8) sh k)) 8 (zrw (σ 8) sh (k + 1)) = va_up (va_up (va_up σ 6 (upd (σ 6) sh (nI 32))) 7 (upd (σ 7) sh (nI q))) 8 (zrw (σ 8) sh (k + 1)) from bx_uu _ _ _ _]; exact hP) (by rw [← show va_up (va_up (va_up (va_up σ 6 (upd (σ 6) sh (nI 32))) 7 (upd (σ 7) sh (nI q))) 8 (zrw (σ 8) sh k)) 8 (zrw (σ 8) sh (k + 1)) = va_up (va_up (va_up σ 6 (upd (σ 6) sh (nI 32))) 7 (upd (σ 7) sh (nI q))) 8 (zrw (σ 8) sh (k + 1)) from bx_uu _ _ _ _]; exact hD) hS (lv_sub hl [1, 2, 0] rfl)
  exact L_94 ((40 - 0) + 1) 0 _ _ ls (Nat.lt_succ_self _) (Nat.zero_le _) (by rw [show va_up (va_up (va_up σ 6 (upd (σ 6) sh (nI 32))) 7 (upd (σ 7) sh (nI q))) 8 (zrw (σ 8) sh 0) = va_up (va_up σ 6 (upd (σ 6) sh (nI 32))) 7 (upd (σ 7) sh (nI q)) from va_up_self2 (va_up (va_up σ 6 (upd (σ 6) sh (nI 32))) 7 (upd (σ 7) sh (nI q))) 8]; exact hP) (by rw [show va_up (va_up (va_up σ 6 (upd (σ 6) sh (nI 32))) 7 (upd (σ 7) sh (nI q))) 8 (zrw (σ 8) sh 0) = va_up (va_up σ 6 (upd (σ 6) sh (nI 32))) 7 (upd (σ 7) sh (nI q)) from va_up_self2 (va_up (va_up σ 6 (upd (σ 6) sh (nI 32))) 7 (upd (σ 7) sh (nI q))) 8]; exact hD) hS (lv_sub hl [1, 2, 0] rfl)
set_option maxRecDepth 100000 in
set_option maxHeartbeats 4000000 in
theorem c_X4_write_bad (l : Launch) (D : va_G) (cI cJ : ClassId) (a : Nat → Nat) (f : Nat → Int32) (σ : Nat → Nat → Int32) (x : Int32) (y : Int32) (z : Int32) (hb0 : ¬ ((nI 0 ≤ x ∧ x ≤ nI 3))) : WR l yX4_write cX4_write 4 (some .int) 1 D cI cJ (MW cI a f σ) [.ref (a 0), .int x, .int y, .int z] (some (.int (-1000001))) (MW cI a f (va_up σ 4 (mFi (σ 4) 0))) := by
  refine WR.of (by decide) (Nat.le_of_ble_eq_true rfl) (fun p e s m below meth c ls A S hr hlk hK hP hD hS hA hl => ?_)
  obtain ⟨hx, hb, hml, hown, hU⟩ := id S
  have hl : lv_has ls 4 [(0, .ref (a 0)), (1, .int x), (2, .int y), (3, .int z)] := hl
  refine lv_iload_n hx hb dX4_write_0 rfl (lv_at hl 1 rfl) ?_
  refine RO.callS S ks_X4_283 (c_X4_isSheet l D cI cJ a f σ x) hK hP ⟨Nat.le_of_ble_eq_true rfl, Nat.le_of_ble_eq_true rfl⟩ hl.1 rfl rfl (Nat.le_of_ble_eq_true rfl) (Nat.zero_le _) (Nat.zero_le _) dX4_write_1 ?_
  refine q_if_neB (tgt := 14) hx hb dX4_write_4 (by decide) (fun c_4 => ?_) (fun c_4 => ?_)
  · exact absurd (rg3 c_4) hb0
  · refine lv_aload_n hx hb dX4_write_7 rfl (lv_at hl 0 rfl) ?_
    refine lv_ldc (v := (-1000001)) hx hb hown (hU _ mK_X4_37) dX4_write_8 ?_
    refine WR.callV (w1 := MW cI a f (va_up σ 4 (mFi (σ 4) 0))) S kv_X4_39 (c_X4_fd0 l D cI cJ a f σ) hK hP hD hS hA ([]) ([]) rfl rfl MW_fst rfl ⟨Nat.le_of_ble_eq_true rfl, Nat.le_of_ble_eq_true rfl⟩ hl.1 rfl rfl (Nat.le_of_ble_eq_true rfl) (Nat.zero_le _) (Nat.zero_le _) dX4_write_10 (fun H locs hP hD hS => ?_)
    exact WR.iret S hr hlk hP hS (rfl) rfl dX4_write_13
set_option maxRecDepth 100000 in
set_option maxHeartbeats 4000000 in
theorem c_X4_write_miss (l : Launch) (D : va_G) (cI cJ : ClassId) (a : Nat → Nat) (f : Nat → Int32) (σ : Nat → Nat → Int32) (sh : Nat) (hsh : sh < 4) (y : Int32) (z : Int32) (hms : σ 6 sh < 0) : WR l yX4_write cX4_write 4 (some .int) 1 D cI cJ (MW cI a f σ) [.ref (a 0), .int (nI sh), .int y, .int z] (some (.int (-1000006))) (MW cI a f (va_up σ 4 (mFi (σ 4) 5))) := by
  refine WR.of (by decide) (Nat.le_of_ble_eq_true rfl) (fun p e s m below meth c ls A S hr hlk hK hP hD hS hA hl => ?_)
  obtain ⟨hx, hb, hml, hown, hU⟩ := id S
  have hl : lv_has ls 4 [(0, .ref (a 0)), (1, .int (nI sh)), (2, .int y), (3, .int z)] := hl
  refine lv_iload_n hx hb dX4_write_0 rfl (lv_at hl 1 rfl) ?_
  refine RO.callS S ks_X4_283 (c_X4_isSheet l D cI cJ a f σ (nI sh)) hK hP ⟨Nat.le_of_ble_eq_true rfl, Nat.le_of_ble_eq_true rfl⟩ hl.1 rfl rfl (Nat.le_of_ble_eq_true rfl) (Nat.zero_le _) (Nat.zero_le _) dX4_write_1 ?_
  refine q_if_neB (tgt := 14) hx hb dX4_write_4 (by decide) (fun _ => ?_) (fun h => absurd (⟨nI_pos' (by omega), nI_lt (by omega) (by decide)⟩) h)
  refine lv_aload_n hx hb dX4_write_14 rfl (lv_at hl 0 rfl) ?_
  refine g4_bitsOf S hK hP dX4_write_15 ?_
  refine lv_iload_n hx hb dX4_write_18 rfl (lv_at hl 1 rfl) ?_
  refine l4_bitsOf S hK hP (j := sh) (by omega) dX4_write_19 ?_
  refine lv_if_ge (tgt := 31) hx hb dX4_write_20 (by decide) (fun c_20 => ?_) (fun c_20 => ?_)
  · exact absurd c_20 (i32_not_le_of_lt hms)
  · refine lv_aload_n hx hb dX4_write_23 rfl (lv_at hl 0 rfl) ?_
    refine lv_ldcw (v := (-1000006)) hx hb hown (hU _ mK_X4_278) dX4_write_24 ?_
    refine WR.callV (w1 := MW cI a f (va_up σ 4 (mFi (σ 4) 5))) S kv_X4_39 (c_X4_fd5 l D cI cJ a f σ) hK hP hD hS hA ([]) ([]) rfl rfl MW_fst rfl ⟨Nat.le_of_ble_eq_true rfl, Nat.le_of_ble_eq_true rfl⟩ hl.1 rfl rfl (Nat.le_of_ble_eq_true rfl) (Nat.zero_le _) (Nat.zero_le _) dX4_write_27 (fun H locs hP hD hS => ?_)
    exact WR.iret S hr hlk hP hS (rfl) rfl dX4_write_30
set_option maxRecDepth 100000 in
set_option maxHeartbeats 4000000 in
theorem c_X4_write_badi (l : Launch) (D : va_G) (cI cJ : ClassId) (a : Nat → Nat) (f : Nat → Int32) (σ : Nat → Nat → Int32) (sh : Nat) (hsh : sh < 4) (y : Int32) (z : Int32) (hms : ¬ σ 6 sh < 0) (sz : Nat) (hm : σ 7 sh = nI sz) (hm40 : sz ≤ 40) (hb0 : ¬ (0 ≤ y ∧ y < nI sz)) : WR l yX4_write cX4_write 4 (some .int) 1 D cI cJ (MW cI a f σ) [.ref (a 0), .int (nI sh), .int y, .int z] (some (.int (-1000001))) (MW cI a f (va_up σ 4 (mFi (σ 4) 0))) := by
  refine WR.of (by decide) (Nat.le_of_ble_eq_true rfl) (fun p e s m below meth c ls A S hr hlk hK hP hD hS hA hl => ?_)
  obtain ⟨hx, hb, hml, hown, hU⟩ := id S
  have hl : lv_has ls 4 [(0, .ref (a 0)), (1, .int (nI sh)), (2, .int y), (3, .int z)] := hl
  refine lv_iload_n hx hb dX4_write_0 rfl (lv_at hl 1 rfl) ?_
  refine RO.callS S ks_X4_283 (c_X4_isSheet l D cI cJ a f σ (nI sh)) hK hP ⟨Nat.le_of_ble_eq_true rfl, Nat.le_of_ble_eq_true rfl⟩ hl.1 rfl rfl (Nat.le_of_ble_eq_true rfl) (Nat.zero_le _) (Nat.zero_le _) dX4_write_1 ?_
  refine q_if_neB (tgt := 14) hx hb dX4_write_4 (by decide) (fun _ => ?_) (fun h => absurd (⟨nI_pos' (by omega), nI_lt (by omega) (by decide)⟩) h)
  refine lv_aload_n hx hb dX4_write_14 rfl (lv_at hl 0 rfl) ?_
  refine g4_bitsOf S hK hP dX4_write_15 ?_
  refine lv_iload_n hx hb dX4_write_18 rfl (lv_at hl 1 rfl) ?_
  refine l4_bitsOf S hK hP (j := sh) (by omega) dX4_write_19 ?_
  refine lv_if_ge (tgt := 31) hx hb dX4_write_20 (by decide) (fun c_20 => ?_) (fun c_20 => ?_)
  · refine lv_iload_n hx hb dX4_write_31 rfl (lv_at hl 2 rfl) ?_
    refine lv_i2l hx hb dX4_write_32 rfl ?_
    refine lv_lconst (v := 0) hx hb dX4_write_33 (by decide) ?_
    refine lv_aload_n hx hb dX4_write_34 rfl (lv_at hl 0 rfl) ?_
    refine g4_sizes S hK hP dX4_write_35 ?_
    refine lv_iload_n hx hb dX4_write_38 rfl (lv_at hl 1 rfl) ?_
    refine l4_sizes S hK hP (j := sh) (by omega) dX4_write_39 ?_
    refine q_eqi (y := nI sz) (hm) ?_
    refine lv_iconst (v := nI 1) hx hb dX4_write_40 (by decide) ?_
    refine lv_isub hx hb dX4_write_41 ?_
    refine lv_i2l hx hb dX4_write_42 rfl ?_
    refine RO.callS S ks_X4_49 (c_X4_isIn l D cI cJ a f σ y (nI 0) ((nI sz) - (nI 1))) hK hP ⟨Nat.le_of_ble_eq_true rfl, Nat.le_of_ble_eq_true rfl⟩ hl.1 rfl rfl (Nat.le_of_ble_eq_true rfl) (Nat.zero_le _) (Nat.zero_le _) dX4_write_43 ?_
    refine q_if_neB (tgt := 56) hx hb dX4_write_46 (by decide) (fun c_46 => ?_) (fun c_46 => ?_)
    · exact absurd (rgs hm40 c_46) hb0
    · refine lv_aload_n hx hb dX4_write_49 rfl (lv_at hl 0 rfl) ?_
      refine lv_ldc (v := (-1000001)) hx hb hown (hU _ mK_X4_37) dX4_write_50 ?_
      refine WR.callV (w1 := MW cI a f (va_up σ 4 (mFi (σ 4) 0))) S kv_X4_39 (c_X4_fd0 l D cI cJ a f σ) hK hP hD hS hA ([]) ([]) rfl rfl MW_fst rfl ⟨Nat.le_of_ble_eq_true rfl, Nat.le_of_ble_eq_true rfl⟩ hl.1 rfl rfl (Nat.le_of_ble_eq_true rfl) (Nat.zero_le _) (Nat.zero_le _) dX4_write_52 (fun H locs hP hD hS => ?_)
      exact WR.iret S hr hlk hP hS (rfl) rfl dX4_write_55
  · exact absurd (i32_le_of_not_lt hms) c_20
set_option maxRecDepth 100000 in
set_option maxHeartbeats 4000000 in
theorem c_X4_write_ok8 (l : Launch) (D : va_G) (cI cJ : ClassId) (a : Nat → Nat) (f : Nat → Int32) (σ : Nat → Nat → Int32) (sh : Nat) (hsh : sh < 4) (i : Nat) (z : Int32) (sz : Nat) (hm : σ 7 sh = nI sz) (hm40 : sz ≤ 40) (hi : i < sz) (hb : σ 6 sh = nI 8) : WR l yX4_write cX4_write 4 (some .int) 1 D cI cJ (MW cI a f σ) [.ref (a 0), .int (nI sh), .int (nI i), .int z] (some (.int (nI 1))) (MW cI a f (va_up σ 8 (upd (σ 8) (40 * sh + i) (z.toInt8.toInt32)))) := by
  have hb6 := hb
  refine WR.of (by decide) (Nat.le_of_ble_eq_true rfl) (fun p e s m below meth c ls A S hr hlk hK hP hD hS hA hl => ?_)
  obtain ⟨hx, hb, hml, hown, hU⟩ := id S
  have hl : lv_has ls 4 [(0, .ref (a 0)), (1, .int (nI sh)), (2, .int (nI i)), (3, .int z)] := hl
  refine lv_iload_n hx hb dX4_write_0 rfl (lv_at hl 1 rfl) ?_
  refine RO.callS S ks_X4_283 (c_X4_isSheet l D cI cJ a f σ (nI sh)) hK hP ⟨Nat.le_of_ble_eq_true rfl, Nat.le_of_ble_eq_true rfl⟩ hl.1 rfl rfl (Nat.le_of_ble_eq_true rfl) (Nat.zero_le _) (Nat.zero_le _) dX4_write_1 ?_
  refine q_if_neB (tgt := 14) hx hb dX4_write_4 (by decide) (fun _ => ?_) (fun h => absurd (⟨nI_pos' (by omega), nI_lt (by omega) (by decide)⟩) h)
  refine lv_aload_n hx hb dX4_write_14 rfl (lv_at hl 0 rfl) ?_
  refine g4_bitsOf S hK hP dX4_write_15 ?_
  refine lv_iload_n hx hb dX4_write_18 rfl (lv_at hl 1 rfl) ?_
  refine l4_bitsOf S hK hP (j := sh) (by omega) dX4_write_19 ?_
  refine q_eqi (y := nI 8) (hb6) ?_
  refine q_if_geN (tgt := 31) (a := 8) hx hb dX4_write_20 (by decide) (by omega) ?_
  refine lv_iload_n hx hb dX4_write_31 rfl (lv_at hl 2 rfl) ?_
  refine lv_i2l hx hb dX4_write_32 rfl ?_
  refine lv_lconst (v := 0) hx hb dX4_write_33 (by decide) ?_
  refine lv_aload_n hx hb dX4_write_34 rfl (lv_at hl 0 rfl) ?_
  refine g4_sizes S hK hP dX4_write_35 ?_
  refine lv_iload_n hx hb dX4_write_38 rfl (lv_at hl 1 rfl) ?_
  refine l4_sizes S hK hP (j := sh) (by omega) dX4_write_39 ?_
  refine q_eqi (y := nI sz) (hm) ?_
  refine lv_iconst (v := nI 1) hx hb dX4_write_40 (by decide) ?_
  refine q_isubN (a := sz) (b := 1) hx hb dX4_write_41 (by omega) ?_
  refine lv_i2l hx hb dX4_write_42 rfl ?_
  refine RO.callS S ks_X4_49 (c_X4_isIn l D cI cJ a f σ (nI i) (nI 0) (nI (sz - 1))) hK hP ⟨Nat.le_of_ble_eq_true rfl, Nat.le_of_ble_eq_true rfl⟩ hl.1 rfl rfl (Nat.le_of_ble_eq_true rfl) (Nat.zero_le _) (Nat.zero_le _) dX4_write_43 ?_
  refine q_if_neB (tgt := 56) hx hb dX4_write_46 (by decide) (fun _ => ?_) (fun h => absurd (⟨nI_le (by omega) (by omega), nI_le (by omega) (by omega)⟩) h)
  refine lv_aload_n hx hb dX4_write_56 rfl (lv_at hl 0 rfl) ?_
  refine g4_numbers S hK hP dX4_write_57 ?_
  refine lv_bipush (v := nI 40) hx hb dX4_write_60 (by decide) ?_
  refine lv_iload_n hx hb dX4_write_62 rfl (lv_at hl 1 rfl) ?_
  refine q_imulN (a := 40) (b := sh) hx hb dX4_write_63 ?_
  refine lv_iload_n hx hb dX4_write_64 rfl (lv_at hl 2 rfl) ?_
  refine q_iaddN (a := 40 * sh) (b := i) hx hb dX4_write_65 ?_
  refine lv_aload_n hx hb dX4_write_66 rfl (lv_at hl 0 rfl) ?_
  refine g4_bitsOf S hK hP dX4_write_67 ?_
  refine lv_iload_n hx hb dX4_write_70 rfl (lv_at hl 1 rfl) ?_
  refine l4_bitsOf S hK hP (j := sh) (by omega) dX4_write_71 ?_
  refine q_eqi (y := nI 8) (hb6) ?_
  refine lv_bipush (v := nI 8) hx hb dX4_write_72 (by decide) ?_
  refine q_icmp_neN (tgt := 82) (a := 8) (b := 8) hx hb dX4_write_74 (by decide) (by omega) (by omega) (fun h => absurd h (by omega)) (fun _ => ?_)
  refine lv_iload_n hx hb dX4_write_77 rfl (lv_at hl 3 rfl) ?_
  refine lv_i2b hx hb dX4_write_78 rfl ?_
  refine lv_goto (tgt := 99) hx hb dX4_write_79 (by decide) ?_
  refine s4_numbers S hK hP hD hS (j := (40 * sh) + i) (by omega) dX4_write_99 (fun H locs hP hD hS => ?_)
  refine lv_iconst (v := nI 1) hx hb dX4_write_100 (by decide) ?_
  exact WR.iret S hr hlk hP hS (rfl) rfl dX4_write_101
set_option maxRecDepth 100000 in
set_option maxHeartbeats 4000000 in
theorem c_X4_write_ok16 (l : Launch) (D : va_G) (cI cJ : ClassId) (a : Nat → Nat) (f : Nat → Int32) (σ : Nat → Nat → Int32) (sh : Nat) (hsh : sh < 4) (i : Nat) (z : Int32) (sz : Nat) (hm : σ 7 sh = nI sz) (hm40 : sz ≤ 40) (hi : i < sz) (hb : σ 6 sh = nI 16) : WR l yX4_write cX4_write 4 (some .int) 1 D cI cJ (MW cI a f σ) [.ref (a 0), .int (nI sh), .int (nI i), .int z] (some (.int (nI 1))) (MW cI a f (va_up σ 8 (upd (σ 8) (40 * sh + i) (z.toInt16.toInt32)))) := by
  have hb6 := hb
  refine WR.of (by decide) (Nat.le_of_ble_eq_true rfl) (fun p e s m below meth c ls A S hr hlk hK hP hD hS hA hl => ?_)
  obtain ⟨hx, hb, hml, hown, hU⟩ := id S
  have hl : lv_has ls 4 [(0, .ref (a 0)), (1, .int (nI sh)), (2, .int (nI i)), (3, .int z)] := hl
  refine lv_iload_n hx hb dX4_write_0 rfl (lv_at hl 1 rfl) ?_
  refine RO.callS S ks_X4_283 (c_X4_isSheet l D cI cJ a f σ (nI sh)) hK hP ⟨Nat.le_of_ble_eq_true rfl, Nat.le_of_ble_eq_true rfl⟩ hl.1 rfl rfl (Nat.le_of_ble_eq_true rfl) (Nat.zero_le _) (Nat.zero_le _) dX4_write_1 ?_
  refine q_if_neB (tgt := 14) hx hb dX4_write_4 (by decide) (fun _ => ?_) (fun h => absurd (⟨nI_pos' (by omega), nI_lt (by omega) (by decide)⟩) h)
  refine lv_aload_n hx hb dX4_write_14 rfl (lv_at hl 0 rfl) ?_
  refine g4_bitsOf S hK hP dX4_write_15 ?_
  refine lv_iload_n hx hb dX4_write_18 rfl (lv_at hl 1 rfl) ?_
  refine l4_bitsOf S hK hP (j := sh) (by omega) dX4_write_19 ?_
  refine q_eqi (y := nI 16) (hb6) ?_
  refine q_if_geN (tgt := 31) (a := 16) hx hb dX4_write_20 (by decide) (by omega) ?_
  refine lv_iload_n hx hb dX4_write_31 rfl (lv_at hl 2 rfl) ?_
  refine lv_i2l hx hb dX4_write_32 rfl ?_
  refine lv_lconst (v := 0) hx hb dX4_write_33 (by decide) ?_
  refine lv_aload_n hx hb dX4_write_34 rfl (lv_at hl 0 rfl) ?_
  refine g4_sizes S hK hP dX4_write_35 ?_
  refine lv_iload_n hx hb dX4_write_38 rfl (lv_at hl 1 rfl) ?_
  refine l4_sizes S hK hP (j := sh) (by omega) dX4_write_39 ?_
  refine q_eqi (y := nI sz) (hm) ?_
  refine lv_iconst (v := nI 1) hx hb dX4_write_40 (by decide) ?_
  refine q_isubN (a := sz) (b := 1) hx hb dX4_write_41 (by omega) ?_
  refine lv_i2l hx hb dX4_write_42 rfl ?_
  refine RO.callS S ks_X4_49 (c_X4_isIn l D cI cJ a f σ (nI i) (nI 0) (nI (sz - 1))) hK hP ⟨Nat.le_of_ble_eq_true rfl, Nat.le_of_ble_eq_true rfl⟩ hl.1 rfl rfl (Nat.le_of_ble_eq_true rfl) (Nat.zero_le _) (Nat.zero_le _) dX4_write_43 ?_
  refine q_if_neB (tgt := 56) hx hb dX4_write_46 (by decide) (fun _ => ?_) (fun h => absurd (⟨nI_le (by omega) (by omega), nI_le (by omega) (by omega)⟩) h)
  refine lv_aload_n hx hb dX4_write_56 rfl (lv_at hl 0 rfl) ?_
  refine g4_numbers S hK hP dX4_write_57 ?_
  refine lv_bipush (v := nI 40) hx hb dX4_write_60 (by decide) ?_
  refine lv_iload_n hx hb dX4_write_62 rfl (lv_at hl 1 rfl) ?_
  refine q_imulN (a := 40) (b := sh) hx hb dX4_write_63 ?_
  refine lv_iload_n hx hb dX4_write_64 rfl (lv_at hl 2 rfl) ?_
  refine q_iaddN (a := 40 * sh) (b := i) hx hb dX4_write_65 ?_
  refine lv_aload_n hx hb dX4_write_66 rfl (lv_at hl 0 rfl) ?_
  refine g4_bitsOf S hK hP dX4_write_67 ?_
  refine lv_iload_n hx hb dX4_write_70 rfl (lv_at hl 1 rfl) ?_
  refine l4_bitsOf S hK hP (j := sh) (by omega) dX4_write_71 ?_
  refine q_eqi (y := nI 16) (hb6) ?_
  refine lv_bipush (v := nI 8) hx hb dX4_write_72 (by decide) ?_
  refine q_icmp_neN (tgt := 82) (a := 16) (b := 8) hx hb dX4_write_74 (by decide) (by omega) (by omega) (fun _ => ?_) (fun h => absurd h (by omega))
  refine lv_aload_n hx hb dX4_write_82 rfl (lv_at hl 0 rfl) ?_
  refine g4_bitsOf S hK hP dX4_write_83 ?_
  refine lv_iload_n hx hb dX4_write_86 rfl (lv_at hl 1 rfl) ?_
  refine l4_bitsOf S hK hP (j := sh) (by omega) dX4_write_87 ?_
  refine q_eqi (y := nI 16) (hb6) ?_
  refine lv_bipush (v := nI 16) hx hb dX4_write_88 (by decide) ?_
  refine q_icmp_neN (tgt := 98) (a := 16) (b := 16) hx hb dX4_write_90 (by decide) (by omega) (by omega) (fun h => absurd h (by omega)) (fun _ => ?_)
  refine lv_iload_n hx hb dX4_write_93 rfl (lv_at hl 3 rfl) ?_
  refine lv_i2s hx hb dX4_write_94 rfl ?_
  refine lv_goto (tgt := 99) hx hb dX4_write_95 (by decide) ?_
  refine s4_numbers S hK hP hD hS (j := (40 * sh) + i) (by omega) dX4_write_99 (fun H locs hP hD hS => ?_)
  refine lv_iconst (v := nI 1) hx hb dX4_write_100 (by decide) ?_
  exact WR.iret S hr hlk hP hS (rfl) rfl dX4_write_101
set_option maxRecDepth 100000 in
set_option maxHeartbeats 4000000 in
theorem c_X4_write_ok32 (l : Launch) (D : va_G) (cI cJ : ClassId) (a : Nat → Nat) (f : Nat → Int32) (σ : Nat → Nat → Int32) (sh : Nat) (hsh : sh < 4) (i : Nat) (z : Int32) (sz : Nat) (hm : σ 7 sh = nI sz) (hm40 : sz ≤ 40) (hi : i < sz) (hb : σ 6 sh = nI 32) : WR l yX4_write cX4_write 4 (some .int) 1 D cI cJ (MW cI a f σ) [.ref (a 0), .int (nI sh), .int (nI i), .int z] (some (.int (nI 1))) (MW cI a f (va_up σ 8 (upd (σ 8) (40 * sh + i) (z)))) := by
  have hb6 := hb
  refine WR.of (by decide) (Nat.le_of_ble_eq_true rfl) (fun p e s m below meth c ls A S hr hlk hK hP hD hS hA hl => ?_)
  obtain ⟨hx, hb, hml, hown, hU⟩ := id S
  have hl : lv_has ls 4 [(0, .ref (a 0)), (1, .int (nI sh)), (2, .int (nI i)), (3, .int z)] := hl
  refine lv_iload_n hx hb dX4_write_0 rfl (lv_at hl 1 rfl) ?_
  refine RO.callS S ks_X4_283 (c_X4_isSheet l D cI cJ a f σ (nI sh)) hK hP ⟨Nat.le_of_ble_eq_true rfl, Nat.le_of_ble_eq_true rfl⟩ hl.1 rfl rfl (Nat.le_of_ble_eq_true rfl) (Nat.zero_le _) (Nat.zero_le _) dX4_write_1 ?_
  refine q_if_neB (tgt := 14) hx hb dX4_write_4 (by decide) (fun _ => ?_) (fun h => absurd (⟨nI_pos' (by omega), nI_lt (by omega) (by decide)⟩) h)
  refine lv_aload_n hx hb dX4_write_14 rfl (lv_at hl 0 rfl) ?_
  refine g4_bitsOf S hK hP dX4_write_15 ?_
  refine lv_iload_n hx hb dX4_write_18 rfl (lv_at hl 1 rfl) ?_
  refine l4_bitsOf S hK hP (j := sh) (by omega) dX4_write_19 ?_
  refine q_eqi (y := nI 32) (hb6) ?_
  refine q_if_geN (tgt := 31) (a := 32) hx hb dX4_write_20 (by decide) (by omega) ?_
  refine lv_iload_n hx hb dX4_write_31 rfl (lv_at hl 2 rfl) ?_
  refine lv_i2l hx hb dX4_write_32 rfl ?_
  refine lv_lconst (v := 0) hx hb dX4_write_33 (by decide) ?_
  refine lv_aload_n hx hb dX4_write_34 rfl (lv_at hl 0 rfl) ?_
  refine g4_sizes S hK hP dX4_write_35 ?_
  refine lv_iload_n hx hb dX4_write_38 rfl (lv_at hl 1 rfl) ?_
  refine l4_sizes S hK hP (j := sh) (by omega) dX4_write_39 ?_
  refine q_eqi (y := nI sz) (hm) ?_
  refine lv_iconst (v := nI 1) hx hb dX4_write_40 (by decide) ?_
  refine q_isubN (a := sz) (b := 1) hx hb dX4_write_41 (by omega) ?_
  refine lv_i2l hx hb dX4_write_42 rfl ?_
  refine RO.callS S ks_X4_49 (c_X4_isIn l D cI cJ a f σ (nI i) (nI 0) (nI (sz - 1))) hK hP ⟨Nat.le_of_ble_eq_true rfl, Nat.le_of_ble_eq_true rfl⟩ hl.1 rfl rfl (Nat.le_of_ble_eq_true rfl) (Nat.zero_le _) (Nat.zero_le _) dX4_write_43 ?_
  refine q_if_neB (tgt := 56) hx hb dX4_write_46 (by decide) (fun _ => ?_) (fun h => absurd (⟨nI_le (by omega) (by omega), nI_le (by omega) (by omega)⟩) h)
  refine lv_aload_n hx hb dX4_write_56 rfl (lv_at hl 0 rfl) ?_
  refine g4_numbers S hK hP dX4_write_57 ?_
  refine lv_bipush (v := nI 40) hx hb dX4_write_60 (by decide) ?_
  refine lv_iload_n hx hb dX4_write_62 rfl (lv_at hl 1 rfl) ?_
  refine q_imulN (a := 40) (b := sh) hx hb dX4_write_63 ?_
  refine lv_iload_n hx hb dX4_write_64 rfl (lv_at hl 2 rfl) ?_
  refine q_iaddN (a := 40 * sh) (b := i) hx hb dX4_write_65 ?_
  refine lv_aload_n hx hb dX4_write_66 rfl (lv_at hl 0 rfl) ?_
  refine g4_bitsOf S hK hP dX4_write_67 ?_
  refine lv_iload_n hx hb dX4_write_70 rfl (lv_at hl 1 rfl) ?_
  refine l4_bitsOf S hK hP (j := sh) (by omega) dX4_write_71 ?_
  refine q_eqi (y := nI 32) (hb6) ?_
  refine lv_bipush (v := nI 8) hx hb dX4_write_72 (by decide) ?_
  refine q_icmp_neN (tgt := 82) (a := 32) (b := 8) hx hb dX4_write_74 (by decide) (by omega) (by omega) (fun _ => ?_) (fun h => absurd h (by omega))
  refine lv_aload_n hx hb dX4_write_82 rfl (lv_at hl 0 rfl) ?_
  refine g4_bitsOf S hK hP dX4_write_83 ?_
  refine lv_iload_n hx hb dX4_write_86 rfl (lv_at hl 1 rfl) ?_
  refine l4_bitsOf S hK hP (j := sh) (by omega) dX4_write_87 ?_
  refine q_eqi (y := nI 32) (hb6) ?_
  refine lv_bipush (v := nI 16) hx hb dX4_write_88 (by decide) ?_
  refine q_icmp_neN (tgt := 98) (a := 32) (b := 16) hx hb dX4_write_90 (by decide) (by omega) (by omega) (fun _ => ?_) (fun h => absurd h (by omega))
  refine lv_iload_n hx hb dX4_write_98 rfl (lv_at hl 3 rfl) ?_
  refine s4_numbers S hK hP hD hS (j := (40 * sh) + i) (by omega) dX4_write_99 (fun H locs hP hD hS => ?_)
  refine lv_iconst (v := nI 1) hx hb dX4_write_100 (by decide) ?_
  exact WR.iret S hr hlk hP hS (rfl) rfl dX4_write_101
set_option maxRecDepth 100000 in
set_option maxHeartbeats 4000000 in
theorem c_X4_load_bad (l : Launch) (D : va_G) (cI cJ : ClassId) (a : Nat → Nat) (f : Nat → Int32) (σ : Nat → Nat → Int32) (x : Int32) (hb0 : ¬ ((nI 0 ≤ x ∧ x ≤ nI 3))) : WR l yX4_load cX4_load 3 (some .int) 2 D cI cJ (MW cI a f σ) [.ref (a 0), .int x] (some (.int (-1000001))) (MW cI a f (va_up σ 4 (mFi (σ 4) 0))) := by
  have hs0 := hb0
  refine WR.of (by decide) (Nat.le_of_ble_eq_true rfl) (fun p e s m below meth c ls A S hr hlk hK hP hD hS hA hl => ?_)
  obtain ⟨hx, hb, hml, hown, hU⟩ := id S
  have hl : lv_has ls 3 [(0, .ref (a 0)), (1, .int x)] := hl
  refine lv_aload_n hx hb dX4_load_0 rfl (lv_at hl 0 rfl) ?_
  refine lv_iload_n hx hb dX4_load_1 rfl (lv_at hl 1 rfl) ?_
  refine RO.callV S kv_X4_190 (c_X4_wants_bad l D cI cJ a f σ x hs0) hK hP rfl ⟨Nat.le_of_ble_eq_true rfl, Nat.le_of_ble_eq_true rfl⟩ hl.1 rfl rfl (Nat.le_of_ble_eq_true rfl) (Nat.zero_le _) (Nat.zero_le _) dX4_load_2 ?_
  refine lv_if_eq (tgt := 18) hx hb dX4_load_5 (by decide) (fun h => absurd h (by decide)) (fun _ => ?_)
  refine lv_aload_n hx hb dX4_load_8 rfl (lv_at hl 0 rfl) ?_
  refine lv_aload_n hx hb dX4_load_9 rfl (lv_at hl 0 rfl) ?_
  refine lv_iload_n hx hb dX4_load_10 rfl (lv_at hl 1 rfl) ?_
  refine RO.callV S kv_X4_190 (c_X4_wants_bad l D cI cJ a f σ x hs0) hK hP rfl ⟨Nat.le_of_ble_eq_true rfl, Nat.le_of_ble_eq_true rfl⟩ hl.1 rfl rfl (Nat.le_of_ble_eq_true rfl) (Nat.zero_le _) (Nat.zero_le _) dX4_load_11 ?_
  refine WR.callV (w1 := MW cI a f (va_up σ 4 (mFi (σ 4) 0))) S kv_X4_39 (c_X4_fd0 l D cI cJ a f σ) hK hP hD hS hA ([]) ([]) rfl rfl MW_fst rfl ⟨Nat.le_of_ble_eq_true rfl, Nat.le_of_ble_eq_true rfl⟩ hl.1 rfl rfl (Nat.le_of_ble_eq_true rfl) (Nat.zero_le _) (Nat.zero_le _) dX4_load_14 (fun H locs hP hD hS => ?_)
  exact WR.iret S hr hlk hP hS (rfl) rfl dX4_load_17
set_option maxRecDepth 100000 in
set_option maxHeartbeats 4000000 in
theorem c_X4_load_miss (l : Launch) (D : va_G) (cI cJ : ClassId) (a : Nat → Nat) (f : Nat → Int32) (σ : Nat → Nat → Int32) (sh : Nat) (hsh : sh < 4) (hms : σ 6 sh < 0) : WR l yX4_load cX4_load 3 (some .int) 2 D cI cJ (MW cI a f σ) [.ref (a 0), .int (nI sh)] (some (.int (-1000006))) (MW cI a f (va_up σ 4 (mFi (σ 4) 5))) := by
  refine WR.of (by decide) (Nat.le_of_ble_eq_true rfl) (fun p e s m below meth c ls A S hr hlk hK hP hD hS hA hl => ?_)
  obtain ⟨hx, hb, hml, hown, hU⟩ := id S
  have hl : lv_has ls 3 [(0, .ref (a 0)), (1, .int (nI sh))] := hl
  refine lv_aload_n hx hb dX4_load_0 rfl (lv_at hl 0 rfl) ?_
  refine lv_iload_n hx hb dX4_load_1 rfl (lv_at hl 1 rfl) ?_
  refine RO.callV S kv_X4_190 (c_X4_wants_miss l D cI cJ a f σ sh hsh hms) hK hP rfl ⟨Nat.le_of_ble_eq_true rfl, Nat.le_of_ble_eq_true rfl⟩ hl.1 rfl rfl (Nat.le_of_ble_eq_true rfl) (Nat.zero_le _) (Nat.zero_le _) dX4_load_2 ?_
  refine lv_if_eq (tgt := 18) hx hb dX4_load_5 (by decide) (fun h => absurd h (by decide)) (fun _ => ?_)
  refine lv_aload_n hx hb dX4_load_8 rfl (lv_at hl 0 rfl) ?_
  refine lv_aload_n hx hb dX4_load_9 rfl (lv_at hl 0 rfl) ?_
  refine lv_iload_n hx hb dX4_load_10 rfl (lv_at hl 1 rfl) ?_
  refine RO.callV S kv_X4_190 (c_X4_wants_miss l D cI cJ a f σ sh hsh hms) hK hP rfl ⟨Nat.le_of_ble_eq_true rfl, Nat.le_of_ble_eq_true rfl⟩ hl.1 rfl rfl (Nat.le_of_ble_eq_true rfl) (Nat.zero_le _) (Nat.zero_le _) dX4_load_11 ?_
  refine WR.callV (w1 := MW cI a f (va_up σ 4 (mFi (σ 4) 5))) S kv_X4_39 (c_X4_fd5 l D cI cJ a f σ) hK hP hD hS hA ([]) ([]) rfl rfl MW_fst rfl ⟨Nat.le_of_ble_eq_true rfl, Nat.le_of_ble_eq_true rfl⟩ hl.1 rfl rfl (Nat.le_of_ble_eq_true rfl) (Nat.zero_le _) (Nat.zero_le _) dX4_load_14 (fun H locs hP hD hS => ?_)
  exact WR.iret S hr hlk hP hS (rfl) rfl dX4_load_17
set_option maxRecDepth 100000 in
set_option maxHeartbeats 4000000 in
theorem c_X4_load_ok (l : Launch) (D : va_G) (cI cJ : ClassId) (a : Nat → Nat) (f : Nat → Int32) (σ : Nat → Nat → Int32) (sh : Nat) (hsh : sh < 4) (hms : ¬ σ 6 sh < 0) (sz : Nat) (hm : σ 7 sh = nI sz) (hm40 : sz ≤ 40) : WR l yX4_load cX4_load 3 (some .int) 2 D cI cJ (MW cI a f σ) [.ref (a 0), .int (nI sh)] (some (.int (nI ((ldR (shR (σ 8) sh) sz 6 0 f).1)))) (MW cI a ((ldR (shR (σ 8) sh) sz 6 0 f).2) σ) := by
  refine WR.of (by decide) (Nat.le_of_ble_eq_true rfl) (fun p e s m below meth c ls A S hr hlk hK hP hD hS hA hl => ?_)
  obtain ⟨hx, hb, hml, hown, hU⟩ := id S
  have hl : lv_has ls 3 [(0, .ref (a 0)), (1, .int (nI sh))] := hl
  refine lv_aload_n hx hb dX4_load_0 rfl (lv_at hl 0 rfl) ?_
  refine lv_iload_n hx hb dX4_load_1 rfl (lv_at hl 1 rfl) ?_
  refine RO.callV S kv_X4_190 (c_X4_wants_ok l D cI cJ a f σ sh hsh hms) hK hP rfl ⟨Nat.le_of_ble_eq_true rfl, Nat.le_of_ble_eq_true rfl⟩ hl.1 rfl rfl (Nat.le_of_ble_eq_true rfl) (Nat.zero_le _) (Nat.zero_le _) dX4_load_2 ?_
  refine q_if_eqN (tgt := 18) (a := 0) hx hb dX4_load_5 (by decide) (by omega) (fun _ => ?_) (fun h => absurd h (by omega))
  refine lv_iconst (v := nI 0) hx hb dX4_load_18 (by decide) ?_
  refine lv_istore_n (lv' := [(2, .int (nI 0)), (0, .ref (a 0)), (1, .int (nI sh))]) hx hb dX4_load_19 rfl hl (by decide) rfl (fun ls hl => ?_)
  have L_20 : ∀ (n9 : Nat) (k : Nat) (g : Nat → Int32) (H : Heap) (locs : List Loc) (ls : Array Slot), 6 - k < n9 → (k ≤ 6) → (ldR (shR (σ 8) sh) sz (6 - k) k g = ldR (shR (σ 8) sh) sz 6 0 f) → va_P D vwCl (MW cI a g σ) H → va_D A (MW cI a g σ) → va_S A s.heap H locs → lv_has ls 3 [(0, .ref (a 0)), (1, .int (nI sh)), (2, .int (nI k))] → W p l e (rmd 2) s m ([.ref (a 0), .int (nI sh)] : List Value).toArray below meth c H locs 0 0 (ZW below ([.ref (a 0), .int (nI sh)] : List Value).toArray s D (some (.int (nI ((ldR (shR (σ 8) sh) sz 6 0 f).1)))) (MW cI a ((ldR (shR (σ 8) sh) sz 6 0 f).2) σ) A) (F0 m 20 ls []) := by
    intro n9
    induction n9 with
    | zero => intro k g H locs ls hmeas; exact absurd hmeas (Nat.not_lt_zero _)
    | succ n9 ih_20 =>
      intro k g H locs ls hmeas hk hR hP hD hS hl
      refine lv_iload_n hx hb dX4_load_20 rfl (lv_at hl 2 rfl) ?_
      refine lv_aload_n hx hb dX4_load_21 rfl (lv_at hl 0 rfl) ?_
      refine g4_sizes S hK hP dX4_load_22 ?_
      refine lv_iload_n hx hb dX4_load_25 rfl (lv_at hl 1 rfl) ?_
      refine l4_sizes S hK hP (j := sh) (by omega) dX4_load_26 ?_
      refine q_eqi (y := nI sz) (hm) ?_
      refine q_icmp_geN (tgt := 84) (a := k) (b := sz) hx hb dX4_load_27 (by decide) (by omega) (by omega) (fun c_27 => ?_) (fun c_27 => ?_)
      · have hE : ldR (shR (σ 8) sh) sz 6 0 f = (k, g) := by rw [← hR]; exact ldR_0 (fun q => absurd q.1 (by omega))
        refine lv_iload_n hx hb dX4_load_84 rfl (lv_at hl 2 rfl) ?_
        exact WR.iret S hr hlk hP hS (by rw [hE]) (congrArg (fun z => some (Value.int z)) (by rw [hE])) dX4_load_85
      · refine lv_iload_n hx hb dX4_load_30 rfl (lv_at hl 2 rfl) ?_
        refine lv_bipush (v := nI 6) hx hb dX4_load_31 (by decide) ?_
        refine q_icmp_geN (tgt := 84) (a := k) (b := 6) hx hb dX4_load_33 (by decide) (by omega) (by omega) (fun c_33 => ?_) (fun c_33 => ?_)
        · have hE : ldR (shR (σ 8) sh) sz 6 0 f = (k, g) := by rw [← hR]; exact ldR_0 (fun q => absurd q.2.1 (by omega))
          refine lv_iload_n hx hb dX4_load_84 rfl (lv_at hl 2 rfl) ?_
          exact WR.iret S hr hlk hP hS (by rw [hE]) (congrArg (fun z => some (Value.int z)) (by rw [hE])) dX4_load_85
        · refine lv_aload_n hx hb dX4_load_36 rfl (lv_at hl 0 rfl) ?_
          refine g4_numbers S hK hP dX4_load_37 ?_
          refine lv_bipush (v := nI 40) hx hb dX4_load_40 (by decide) ?_
          refine lv_iload_n hx hb dX4_load_42 rfl (lv_at hl 1 rfl) ?_
          refine q_imulN (a := 40) (b := sh) hx hb dX4_load_43 ?_
          refine lv_iload_n hx hb dX4_load_44 rfl (lv_at hl 2 rfl) ?_
          refine q_iaddN (a := 40 * sh) (b := k) hx hb dX4_load_45 ?_
          refine l4_numbers S hK hP (j := (40 * sh) + k) (by omega) dX4_load_46 ?_
          refine lv_i2l hx hb dX4_load_47 rfl ?_
          refine lv_lconst (v := 0) hx hb dX4_load_48 (by decide) ?_
          refine lv_ldc2 (v := 99) hx hb hown (hU _ mK_X4_68) dX4_load_49 ?_
          refine RO.callS S ks_X4_49 (c_X4_isIn l D cI cJ a g σ ((σ 8) ((40 * sh) + k)) (nI 0) (nI 99)) hK hP ⟨Nat.le_of_ble_eq_true rfl, Nat.le_of_ble_eq_true rfl⟩ hl.1 rfl rfl (Nat.le_of_ble_eq_true rfl) (Nat.zero_le _) (Nat.zero_le _) dX4_load_52 ?_
          refine q_if_eqB (tgt := 84) hx hb dX4_load_55 (by decide) (fun c_55 => ?_) (fun c_55 => ?_)
          · have hE : ldR (shR (σ 8) sh) sz 6 0 f = (k, g) := by rw [← hR]; exact ldR_0 (fun q => c_55 q.2.2)
            refine lv_iload_n hx hb dX4_load_84 rfl (lv_at hl 2 rfl) ?_
            exact WR.iret S hr hlk hP hS (by rw [hE]) (congrArg (fun z => some (Value.int z)) (by rw [hE])) dX4_load_85
          · refine lv_aload_n hx hb dX4_load_58 rfl (lv_at hl 0 rfl) ?_
            refine g4_s S hK hP dX4_load_59 ?_
            refine lv_bipush (v := nI 10) hx hb dX4_load_62 (by decide) ?_
            refine lv_iload_n hx hb dX4_load_64 rfl (lv_at hl 2 rfl) ?_
            refine q_iaddN (a := 10) (b := k) hx hb dX4_load_65 ?_
            refine lv_aload_n hx hb dX4_load_66 rfl (lv_at hl 0 rfl) ?_
            refine g4_numbers S hK hP dX4_load_67 ?_
            refine lv_bipush (v := nI 40) hx hb dX4_load_70 (by decide) ?_
            refine lv_iload_n hx hb dX4_load_72 rfl (lv_at hl 1 rfl) ?_
            refine q_imulN (a := 40) (b := sh) hx hb dX4_load_73 ?_
            refine lv_iload_n hx hb dX4_load_74 rfl (lv_at hl 2 rfl) ?_
            refine q_iaddN (a := 40 * sh) (b := k) hx hb dX4_load_75 ?_
            refine l4_numbers S hK hP (j := (40 * sh) + k) (by omega) dX4_load_76 ?_
            refine s4_s S hK hP hD hS (j := 10 + k) (by omega) dX4_load_77 (fun H locs hP hD hS => ?_)
            refine lv_iinc (v := nI (k + 1)) (lv' := [(2, .int (nI (k + 1))), (0, .ref (a 0)), (1, .int (nI sh))]) hx hb dX4_load_78 hl (k := 2) rfl (q_inc _) (by decide) rfl (fun ls hl => ?_)
            refine lv_goto (tgt := 20) hx hb dX4_load_81 (by decide) ?_
            exact ih_20 (k + 1) (upd g (10 + k) ((shR (σ 8) sh) k)) _ _ ls (by omega) (by omega) (by rw [← hR, show 6 - k = (6 - (k + 1)) + 1 by omega]; exact (ldR_1 (u := shR (σ 8) sh) (k := k) (sz := sz) ⟨by omega, by omega, c_55⟩).symm) hP hD hS (lv_sub hl [1, 2, 0] rfl)
  exact L_20 ((6 - 0) + 1) 0 f _ _ ls (Nat.lt_succ_self _) (by omega) (rfl) hP hD hS (lv_sub hl [1, 2, 0] rfl)
set_option maxRecDepth 100000 in
set_option maxHeartbeats 4000000 in
theorem c_X4_judge_bad (l : Launch) (D : va_G) (cI cJ : ClassId) (a : Nat → Nat) (f : Nat → Int32) (σ : Nat → Nat → Int32) (x : Int32) (hb0 : ¬ ((nI 0 ≤ x ∧ x ≤ nI 3))) : WR l yX4_judge cX4_judge 3 (some .int) 2 D cI cJ (MW cI a f σ) [.ref (a 0), .int x] (some (.int (-1000001))) (MW cI a f (va_up σ 4 (mFi (σ 4) 0))) := by
  have hs0 := hb0
  refine WR.of (by decide) (Nat.le_of_ble_eq_true rfl) (fun p e s m below meth c ls A S hr hlk hK hP hD hS hA hl => ?_)
  obtain ⟨hx, hb, hml, hown, hU⟩ := id S
  have hl : lv_has ls 3 [(0, .ref (a 0)), (1, .int x)] := hl
  refine lv_aload_n hx hb dX4_judge_0 rfl (lv_at hl 0 rfl) ?_
  refine lv_iload_n hx hb dX4_judge_1 rfl (lv_at hl 1 rfl) ?_
  refine RO.callV S kv_X4_190 (c_X4_wants_bad l D cI cJ a f σ x hs0) hK hP rfl ⟨Nat.le_of_ble_eq_true rfl, Nat.le_of_ble_eq_true rfl⟩ hl.1 rfl rfl (Nat.le_of_ble_eq_true rfl) (Nat.zero_le _) (Nat.zero_le _) dX4_judge_2 ?_
  refine lv_if_eq (tgt := 18) hx hb dX4_judge_5 (by decide) (fun h => absurd h (by decide)) (fun _ => ?_)
  refine lv_aload_n hx hb dX4_judge_8 rfl (lv_at hl 0 rfl) ?_
  refine lv_aload_n hx hb dX4_judge_9 rfl (lv_at hl 0 rfl) ?_
  refine lv_iload_n hx hb dX4_judge_10 rfl (lv_at hl 1 rfl) ?_
  refine RO.callV S kv_X4_190 (c_X4_wants_bad l D cI cJ a f σ x hs0) hK hP rfl ⟨Nat.le_of_ble_eq_true rfl, Nat.le_of_ble_eq_true rfl⟩ hl.1 rfl rfl (Nat.le_of_ble_eq_true rfl) (Nat.zero_le _) (Nat.zero_le _) dX4_judge_11 ?_
  refine WR.callV (w1 := MW cI a f (va_up σ 4 (mFi (σ 4) 0))) S kv_X4_39 (c_X4_fd0 l D cI cJ a f σ) hK hP hD hS hA ([]) ([]) rfl rfl MW_fst rfl ⟨Nat.le_of_ble_eq_true rfl, Nat.le_of_ble_eq_true rfl⟩ hl.1 rfl rfl (Nat.le_of_ble_eq_true rfl) (Nat.zero_le _) (Nat.zero_le _) dX4_judge_14 (fun H locs hP hD hS => ?_)
  exact WR.iret S hr hlk hP hS (rfl) rfl dX4_judge_17
set_option maxRecDepth 100000 in
set_option maxHeartbeats 4000000 in
theorem c_X4_judge_miss (l : Launch) (D : va_G) (cI cJ : ClassId) (a : Nat → Nat) (f : Nat → Int32) (σ : Nat → Nat → Int32) (sh : Nat) (hsh : sh < 4) (hms : σ 6 sh < 0) : WR l yX4_judge cX4_judge 3 (some .int) 2 D cI cJ (MW cI a f σ) [.ref (a 0), .int (nI sh)] (some (.int (-1000006))) (MW cI a f (va_up σ 4 (mFi (σ 4) 5))) := by
  refine WR.of (by decide) (Nat.le_of_ble_eq_true rfl) (fun p e s m below meth c ls A S hr hlk hK hP hD hS hA hl => ?_)
  obtain ⟨hx, hb, hml, hown, hU⟩ := id S
  have hl : lv_has ls 3 [(0, .ref (a 0)), (1, .int (nI sh))] := hl
  refine lv_aload_n hx hb dX4_judge_0 rfl (lv_at hl 0 rfl) ?_
  refine lv_iload_n hx hb dX4_judge_1 rfl (lv_at hl 1 rfl) ?_
  refine RO.callV S kv_X4_190 (c_X4_wants_miss l D cI cJ a f σ sh hsh hms) hK hP rfl ⟨Nat.le_of_ble_eq_true rfl, Nat.le_of_ble_eq_true rfl⟩ hl.1 rfl rfl (Nat.le_of_ble_eq_true rfl) (Nat.zero_le _) (Nat.zero_le _) dX4_judge_2 ?_
  refine lv_if_eq (tgt := 18) hx hb dX4_judge_5 (by decide) (fun h => absurd h (by decide)) (fun _ => ?_)
  refine lv_aload_n hx hb dX4_judge_8 rfl (lv_at hl 0 rfl) ?_
  refine lv_aload_n hx hb dX4_judge_9 rfl (lv_at hl 0 rfl) ?_
  refine lv_iload_n hx hb dX4_judge_10 rfl (lv_at hl 1 rfl) ?_
  refine RO.callV S kv_X4_190 (c_X4_wants_miss l D cI cJ a f σ sh hsh hms) hK hP rfl ⟨Nat.le_of_ble_eq_true rfl, Nat.le_of_ble_eq_true rfl⟩ hl.1 rfl rfl (Nat.le_of_ble_eq_true rfl) (Nat.zero_le _) (Nat.zero_le _) dX4_judge_11 ?_
  refine WR.callV (w1 := MW cI a f (va_up σ 4 (mFi (σ 4) 5))) S kv_X4_39 (c_X4_fd5 l D cI cJ a f σ) hK hP hD hS hA ([]) ([]) rfl rfl MW_fst rfl ⟨Nat.le_of_ble_eq_true rfl, Nat.le_of_ble_eq_true rfl⟩ hl.1 rfl rfl (Nat.le_of_ble_eq_true rfl) (Nat.zero_le _) (Nat.zero_le _) dX4_judge_14 (fun H locs hP hD hS => ?_)
  exact WR.iret S hr hlk hP hS (rfl) rfl dX4_judge_17
set_option maxRecDepth 100000 in
set_option maxHeartbeats 4000000 in
theorem c_X4_judge_ok (l : Launch) (D : va_G) (cI cJ : ClassId) (a : Nat → Nat) (f : Nat → Int32) (σ : Nat → Nat → Int32) (sh : Nat) (hsh : sh < 4) (hms : ¬ σ 6 sh < 0) (sz : Nat) (hm : σ 7 sh = nI sz) (hm40 : sz ≤ 40) (n : Nat) (hw : Wk f n) : WR l yX4_judge cX4_judge 3 (some .int) 2 D cI cJ (MW cI a f σ) [.ref (a 0), .int (nI sh)] (some (.int (nI (jdA (oJd (shR (σ 8) sh) f n sz))))) (MW cI a f σ) := by
  have h8 := hw.2.1
  refine WR.of (by decide) (Nat.le_of_ble_eq_true rfl) (fun p e s m below meth c ls A S hr hlk hK hP hD hS hA hl => ?_)
  obtain ⟨hx, hb, hml, hown, hU⟩ := id S
  have hl : lv_has ls 3 [(0, .ref (a 0)), (1, .int (nI sh))] := hl
  refine lv_aload_n hx hb dX4_judge_0 rfl (lv_at hl 0 rfl) ?_
  refine lv_iload_n hx hb dX4_judge_1 rfl (lv_at hl 1 rfl) ?_
  refine RO.callV S kv_X4_190 (c_X4_wants_ok l D cI cJ a f σ sh hsh hms) hK hP rfl ⟨Nat.le_of_ble_eq_true rfl, Nat.le_of_ble_eq_true rfl⟩ hl.1 rfl rfl (Nat.le_of_ble_eq_true rfl) (Nat.zero_le _) (Nat.zero_le _) dX4_judge_2 ?_
  refine q_if_eqN (tgt := 18) (a := 0) hx hb dX4_judge_5 (by decide) (by omega) (fun _ => ?_) (fun h => absurd h (by omega))
  refine lv_iconst (v := nI 0) hx hb dX4_judge_18 (by decide) ?_
  refine lv_istore_n (lv' := [(2, .int (nI 0)), (0, .ref (a 0)), (1, .int (nI sh))]) hx hb dX4_judge_19 rfl hl (by decide) rfl (fun ls hl => ?_)
  have L_20 : ∀ (n9 : Nat) (k : Nat) (H : Heap) (locs : List Loc) (ls : Array Slot), sz - k < n9 → (k ≤ sz) → (fst1 (fun q7 => decide (¬ (q7 < n ∧ (shR (σ 8) sh) q7 = fi f q7 2))) (sz - k) k = oJd (shR (σ 8) sh) f n sz) → va_P D vwCl (MW cI a f σ) H → va_D A (MW cI a f σ) → va_S A s.heap H locs → lv_has ls 3 [(0, .ref (a 0)), (1, .int (nI sh)), (2, .int (nI k))] → W p l e (rmd 2) s m ([.ref (a 0), .int (nI sh)] : List Value).toArray below meth c H locs 0 0 (ZW below ([.ref (a 0), .int (nI sh)] : List Value).toArray s D (some (.int (nI (jdA (oJd (shR (σ 8) sh) f n sz))))) (MW cI a f σ) A) (F0 m 20 ls []) := by
    intro n9
    induction n9 with
    | zero => intro k H locs ls hmeas; exact absurd hmeas (Nat.not_lt_zero _)
    | succ n9 ih_20 =>
      intro k H locs ls hmeas hk hR hP hD hS hl
      refine lv_iload_n hx hb dX4_judge_20 rfl (lv_at hl 2 rfl) ?_
      refine lv_aload_n hx hb dX4_judge_21 rfl (lv_at hl 0 rfl) ?_
      refine g4_sizes S hK hP dX4_judge_22 ?_
      refine lv_iload_n hx hb dX4_judge_25 rfl (lv_at hl 1 rfl) ?_
      refine l4_sizes S hK hP (j := sh) (by omega) dX4_judge_26 ?_
      refine q_eqi (y := nI sz) (hm) ?_
      refine q_icmp_geN (tgt := 64) (a := k) (b := sz) hx hb dX4_judge_27 (by decide) (by omega) (by omega) (fun c_27 => ?_) (fun c_27 => ?_)
      · have hE : oJd (shR (σ 8) sh) f n sz = none := by rw [← hR, show sz - k = 0 by omega]; rfl
        refine lv_iload_n hx hb dX4_judge_64 rfl (lv_at hl 2 rfl) ?_
        refine lv_aload_n hx hb dX4_judge_65 rfl (lv_at hl 0 rfl) ?_
        refine g4_sizes S hK hP dX4_judge_66 ?_
        refine lv_iload_n hx hb dX4_judge_69 rfl (lv_at hl 1 rfl) ?_
        refine l4_sizes S hK hP (j := sh) (by omega) dX4_judge_70 ?_
        refine q_eqi (y := nI sz) (hm) ?_
        refine q_icmp_geN (tgt := 80) (a := k) (b := sz) hx hb dX4_judge_71 (by decide) (by omega) (by omega) (fun c_71 => ?_) (fun c_71 => ?_)
        · refine lv_iconst (v := nI 0) hx hb dX4_judge_80 (by decide) ?_
          exact WR.iret S hr hlk hP hS (rfl) (congrArg (fun z => some (Value.int z)) (by rw [hE]; rfl)) dX4_judge_81
        · exact absurd c_71 (by omega)
      · refine lv_aload_n hx hb dX4_judge_30 rfl (lv_at hl 0 rfl) ?_
        refine lv_iload_n hx hb dX4_judge_31 rfl (lv_at hl 2 rfl) ?_
        refine RO.callV S kv_X4_86 (c_X4_isCask l D cI cJ a f σ (nI k) n (hw.1)) hK hP rfl ⟨Nat.le_of_ble_eq_true rfl, Nat.le_of_ble_eq_true rfl⟩ hl.1 rfl rfl (Nat.le_of_ble_eq_true rfl) (Nat.zero_le _) (Nat.zero_le _) dX4_judge_32 ?_
        refine q_if_eqB (tgt := 64) hx hb dX4_judge_35 (by decide) (fun c_35 => ?_) (fun c_35 => ?_)
        · have hE : oJd (shR (σ 8) sh) f n sz = some k := by rw [← hR, show sz - k = (sz - (k + 1)) + 1 by omega]; exact fst1_hit (decide_eq_true (fun q => c_35 ⟨nI_pos' (by omega), nI_lt q.1 (by omega)⟩))
          refine lv_iload_n hx hb dX4_judge_64 rfl (lv_at hl 2 rfl) ?_
          refine lv_aload_n hx hb dX4_judge_65 rfl (lv_at hl 0 rfl) ?_
          refine g4_sizes S hK hP dX4_judge_66 ?_
          refine lv_iload_n hx hb dX4_judge_69 rfl (lv_at hl 1 rfl) ?_
          refine l4_sizes S hK hP (j := sh) (by omega) dX4_judge_70 ?_
          refine q_eqi (y := nI sz) (hm) ?_
          refine q_icmp_geN (tgt := 80) (a := k) (b := sz) hx hb dX4_judge_71 (by decide) (by omega) (by omega) (fun c_71 => ?_) (fun c_71 => ?_)
          · exact absurd c_71 (by omega)
          · refine lv_iconst (v := nI 1) hx hb dX4_judge_74 (by decide) ?_
            refine lv_iload_n hx hb dX4_judge_75 rfl (lv_at hl 2 rfl) ?_
            refine q_iaddN (a := 1) (b := k) hx hb dX4_judge_76 ?_
            refine lv_goto (tgt := 81) hx hb dX4_judge_77 (by decide) ?_
            exact WR.iret S hr hlk hP hS (rfl) (congrArg (fun z => some (Value.int z)) (by rw [hE]; rfl)) dX4_judge_81
        · have hkn : k < n := (nI_ltI (by omega) (by omega)).mp c_35.2
          refine lv_aload_n hx hb dX4_judge_38 rfl (lv_at hl 0 rfl) ?_
          refine g4_numbers S hK hP dX4_judge_39 ?_
          refine lv_bipush (v := nI 40) hx hb dX4_judge_42 (by decide) ?_
          refine lv_iload_n hx hb dX4_judge_44 rfl (lv_at hl 1 rfl) ?_
          refine q_imulN (a := 40) (b := sh) hx hb dX4_judge_45 ?_
          refine lv_iload_n hx hb dX4_judge_46 rfl (lv_at hl 2 rfl) ?_
          refine q_iaddN (a := 40 * sh) (b := k) hx hb dX4_judge_47 ?_
          refine l4_numbers S hK hP (j := (40 * sh) + k) (by omega) dX4_judge_48 ?_
          refine lv_aload_n hx hb dX4_judge_49 rfl (lv_at hl 0 rfl) ?_
          refine lv_iload_n hx hb dX4_judge_50 rfl (lv_at hl 2 rfl) ?_
          refine lv_iconst (v := nI 2) hx hb dX4_judge_51 (by decide) ?_
          refine RO.callV S kv_X4_57 (c_X4_its l D cI cJ a f σ k 2 (by omega)) hK hP rfl ⟨Nat.le_of_ble_eq_true rfl, Nat.le_of_ble_eq_true rfl⟩ hl.1 rfl rfl (Nat.le_of_ble_eq_true rfl) (Nat.zero_le _) (Nat.zero_le _) dX4_judge_52 ?_
          refine lv_icmp_ne (tgt := 64) hx hb dX4_judge_55 (by decide) (fun c_55 => ?_) (fun c_55 => ?_)
          · have hE : oJd (shR (σ 8) sh) f n sz = some k := by rw [← hR, show sz - k = (sz - (k + 1)) + 1 by omega]; exact fst1_hit (decide_eq_true (fun q => c_55 q.2))
            refine lv_iload_n hx hb dX4_judge_64 rfl (lv_at hl 2 rfl) ?_
            refine lv_aload_n hx hb dX4_judge_65 rfl (lv_at hl 0 rfl) ?_
            refine g4_sizes S hK hP dX4_judge_66 ?_
            refine lv_iload_n hx hb dX4_judge_69 rfl (lv_at hl 1 rfl) ?_
            refine l4_sizes S hK hP (j := sh) (by omega) dX4_judge_70 ?_
            refine q_eqi (y := nI sz) (hm) ?_
            refine q_icmp_geN (tgt := 80) (a := k) (b := sz) hx hb dX4_judge_71 (by decide) (by omega) (by omega) (fun c_71 => ?_) (fun c_71 => ?_)
            · exact absurd c_71 (by omega)
            · refine lv_iconst (v := nI 1) hx hb dX4_judge_74 (by decide) ?_
              refine lv_iload_n hx hb dX4_judge_75 rfl (lv_at hl 2 rfl) ?_
              refine q_iaddN (a := 1) (b := k) hx hb dX4_judge_76 ?_
              refine lv_goto (tgt := 81) hx hb dX4_judge_77 (by decide) ?_
              exact WR.iret S hr hlk hP hS (rfl) (congrArg (fun z => some (Value.int z)) (by rw [hE]; rfl)) dX4_judge_81
          · refine lv_iinc (v := nI (k + 1)) (lv' := [(2, .int (nI (k + 1))), (0, .ref (a 0)), (1, .int (nI sh))]) hx hb dX4_judge_58 hl (k := 2) rfl (q_inc _) (by decide) rfl (fun ls hl => ?_)
            refine lv_goto (tgt := 20) hx hb dX4_judge_61 (by decide) ?_
            exact ih_20 (k + 1) _ _ ls (by omega) (by omega) (by rw [← hR, show sz - k = (sz - (k + 1)) + 1 by omega]; exact (fst1_go (by rw [decide_eq_true_eq]; exact fun q => q ⟨hkn, c_55⟩)).symm) hP hD hS (lv_sub hl [1, 2, 0] rfl)
  exact L_20 ((sz - 0) + 1) 0 _ _ ls (Nat.lt_succ_self _) (Nat.zero_le _) (rfl) hP hD hS (lv_sub hl [1, 2, 0] rfl)
set_option maxRecDepth 100000 in
set_option maxHeartbeats 4000000 in
theorem c_X4_image_ok (l : Launch) (D : va_G) (cI cJ : ClassId) (a : Nat → Nat) (f : Nat → Int32) (σ : Nat → Nat → Int32) : WR l yX4_image cX4_image 1 (some .int) 1 D cI cJ (MW cI a f σ) [.ref (a 0)] (some (.int (nI 1))) (MW cI a f (m9 (va_up σ 1 f) 0 (nI 1))) := by
  refine WR.of (by decide) (Nat.le_of_ble_eq_true rfl) (fun p e s m below meth c ls A S hr hlk hK hP hD hS hA hl => ?_)
  obtain ⟨hx, hb, hml, hown, hU⟩ := id S
  have hl : lv_has ls 1 [(0, .ref (a 0))] := hl
  refine lv_aload_n hx hb dX4_image_0 rfl (lv_at hl 0 rfl) ?_
  refine g4_s S hK hP dX4_image_1 ?_
  refine lv_aload_n hx hb dX4_image_4 rfl (lv_at hl 0 rfl) ?_
  refine g4_kept S hK hP dX4_image_5 ?_
  refine WR.callS (w1 := MW cI a f (va_up σ 1 f)) S ks_X4_140 (c_X4_copyRow_s_kept l D cI cJ a f σ) hK hP hD hS hA ([]) ([]) rfl rfl MW_fst ⟨Nat.le_of_ble_eq_true rfl, Nat.le_of_ble_eq_true rfl⟩ hl.1 rfl rfl (Nat.le_of_ble_eq_true rfl) (Nat.zero_le _) (Nat.zero_le _) dX4_image_8 (fun H locs hP hD hS => ?_)
  refine W.eq (g2 := F0 m 11 ls []) rfl ?_
  refine lv_aload_n hx hb dX4_image_11 rfl (lv_at hl 0 rfl) ?_
  refine lv_iconst (v := nI 1) hx hb dX4_image_12 (by decide) ?_
  refine p4_isKept S hK hP hD hS (by decide) dX4_image_13 (fun H locs hP hD hS => ?_)
  refine lv_iconst (v := nI 1) hx hb dX4_image_16 (by decide) ?_
  exact WR.iret S hr hlk hP hS (rfl) rfl dX4_image_17
set_option maxRecDepth 100000 in
set_option maxHeartbeats 4000000 in
theorem c_X4_undo_ok (l : Launch) (D : va_G) (cI cJ : ClassId) (a : Nat → Nat) (f : Nat → Int32) (σ : Nat → Nat → Int32) (hi9 : σ 9 0 = nI 1) : WR l yX4_undo cX4_undo 1 (some .int) 1 D cI cJ (MW cI a f σ) [.ref (a 0)] (some (.int (σ 1 1))) (MW cI a (σ 1) σ) := by
  refine WR.of (by decide) (Nat.le_of_ble_eq_true rfl) (fun p e s m below meth c ls A S hr hlk hK hP hD hS hA hl => ?_)
  obtain ⟨hx, hb, hml, hown, hU⟩ := id S
  have hl : lv_has ls 1 [(0, .ref (a 0))] := hl
  refine lv_aload_n hx hb dX4_undo_0 rfl (lv_at hl 0 rfl) ?_
  refine g4_isKept S hK hP dX4_undo_1 ?_
  refine q_eqi (y := nI 1) (hi9) ?_
  refine q_if_neN (tgt := 14) (a := 1) hx hb dX4_undo_4 (by decide) (by omega) (fun _ => ?_) (fun h => absurd h (by omega))
  refine lv_aload_n hx hb dX4_undo_14 rfl (lv_at hl 0 rfl) ?_
  refine g4_kept S hK hP dX4_undo_15 ?_
  refine lv_aload_n hx hb dX4_undo_18 rfl (lv_at hl 0 rfl) ?_
  refine g4_s S hK hP dX4_undo_19 ?_
  refine WR.callS (w1 := MW cI a (σ 1) σ) S ks_X4_140 (c_X4_copyRow_kept_s l D cI cJ a f σ) hK hP hD hS hA ([]) ([]) rfl rfl MW_fst ⟨Nat.le_of_ble_eq_true rfl, Nat.le_of_ble_eq_true rfl⟩ hl.1 rfl rfl (Nat.le_of_ble_eq_true rfl) (Nat.zero_le _) (Nat.zero_le _) dX4_undo_22 (fun H locs hP hD hS => ?_)
  refine W.eq (g2 := F0 m 25 ls []) rfl ?_
  refine lv_aload_n hx hb dX4_undo_25 rfl (lv_at hl 0 rfl) ?_
  refine g4_s S hK hP dX4_undo_26 ?_
  refine lv_iconst (v := nI 1) hx hb dX4_undo_29 (by decide) ?_
  refine l4_s S hK hP (j := 1) (by omega) dX4_undo_30 ?_
  exact WR.iret S hr hlk hP hS (rfl) rfl dX4_undo_31
set_option maxRecDepth 100000 in
set_option maxHeartbeats 4000000 in
theorem c_X4_undo_none (l : Launch) (D : va_G) (cI cJ : ClassId) (a : Nat → Nat) (f : Nat → Int32) (σ : Nat → Nat → Int32) (hi9 : σ 9 0 = nI 0) : WR l yX4_undo cX4_undo 1 (some .int) 1 D cI cJ (MW cI a f σ) [.ref (a 0)] (some (.int (-1000004))) (MW cI a f (va_up σ 4 (mFi (σ 4) 3))) := by
  refine WR.of (by decide) (Nat.le_of_ble_eq_true rfl) (fun p e s m below meth c ls A S hr hlk hK hP hD hS hA hl => ?_)
  obtain ⟨hx, hb, hml, hown, hU⟩ := id S
  have hl : lv_has ls 1 [(0, .ref (a 0))] := hl
  refine lv_aload_n hx hb dX4_undo_0 rfl (lv_at hl 0 rfl) ?_
  refine g4_isKept S hK hP dX4_undo_1 ?_
  refine q_eqi (y := nI 0) (hi9) ?_
  refine q_if_neN (tgt := 14) (a := 0) hx hb dX4_undo_4 (by decide) (by omega) (fun h => absurd h (by omega)) (fun _ => ?_)
  refine lv_aload_n hx hb dX4_undo_7 rfl (lv_at hl 0 rfl) ?_
  refine lv_ldc (v := (-1000004)) hx hb hown (hU _ mK_X4_38) dX4_undo_8 ?_
  refine WR.callV (w1 := MW cI a f (va_up σ 4 (mFi (σ 4) 3))) S kv_X4_39 (c_X4_fd3 l D cI cJ a f σ) hK hP hD hS hA ([]) ([]) rfl rfl MW_fst rfl ⟨Nat.le_of_ble_eq_true rfl, Nat.le_of_ble_eq_true rfl⟩ hl.1 rfl rfl (Nat.le_of_ble_eq_true rfl) (Nat.zero_le _) (Nat.zero_le _) dX4_undo_10 (fun H locs hP hD hS => ?_)
  exact WR.iret S hr hlk hP hS (rfl) rfl dX4_undo_13
set_option maxRecDepth 100000 in
set_option maxHeartbeats 4000000 in
theorem c_X4_tear_t0 (l : Launch) (D : va_G) (cI cJ : ClassId) (a : Nat → Nat) (f : Nat → Int32) (σ : Nat → Nat → Int32) (hi9 : σ 9 0 = nI 0) : WR l yX4_tear cX4_tear 2 (some .int) 0 D cI cJ (MW cI a f σ) [.ref (a 0)] (some (.int (nI 0))) (MW cI a f (m9 σ 0 (nI 0))) := by
  refine WR.of (by decide) (Nat.le_of_ble_eq_true rfl) (fun p e s m below meth c ls A S hr hlk hK hP hD hS hA hl => ?_)
  obtain ⟨hx, hb, hml, hown, hU⟩ := id S
  have hl : lv_has ls 2 [(0, .ref (a 0))] := hl
  refine lv_aload_n hx hb dX4_tear_0 rfl (lv_at hl 0 rfl) ?_
  refine g4_isKept S hK hP dX4_tear_1 ?_
  refine q_eqi (y := nI 0) (hi9) ?_
  refine lv_istore_n (lv' := [(1, .int (nI 0)), (0, .ref (a 0))]) hx hb dX4_tear_4 rfl hl (by decide) rfl (fun ls hl => ?_)
  refine lv_aload_n hx hb dX4_tear_5 rfl (lv_at hl 1 rfl) ?_
  refine lv_iconst (v := nI 0) hx hb dX4_tear_6 (by decide) ?_
  refine p4_isKept S hK hP hD hS (by decide) dX4_tear_7 (fun H locs hP hD hS => ?_)
  refine lv_iload_n hx hb dX4_tear_10 rfl (lv_at hl 0 rfl) ?_
  refine q_if_eqN (tgt := 18) (a := 0) hx hb dX4_tear_11 (by decide) (by omega) (fun _ => ?_) (fun h => absurd h (by omega))
  refine lv_iconst (v := nI 0) hx hb dX4_tear_18 (by decide) ?_
  exact WR.iret S hr hlk hP hS (rfl) rfl dX4_tear_19
set_option maxRecDepth 100000 in
set_option maxHeartbeats 4000000 in
theorem c_X4_tear_t1 (l : Launch) (D : va_G) (cI cJ : ClassId) (a : Nat → Nat) (f : Nat → Int32) (σ : Nat → Nat → Int32) (hi9 : σ 9 0 = nI 1) : WR l yX4_tear cX4_tear 2 (some .int) 0 D cI cJ (MW cI a f σ) [.ref (a 0)] (some (.int (nI 1))) (MW cI a f (m9 σ 0 (nI 0))) := by
  refine WR.of (by decide) (Nat.le_of_ble_eq_true rfl) (fun p e s m below meth c ls A S hr hlk hK hP hD hS hA hl => ?_)
  obtain ⟨hx, hb, hml, hown, hU⟩ := id S
  have hl : lv_has ls 2 [(0, .ref (a 0))] := hl
  refine lv_aload_n hx hb dX4_tear_0 rfl (lv_at hl 0 rfl) ?_
  refine g4_isKept S hK hP dX4_tear_1 ?_
  refine q_eqi (y := nI 1) (hi9) ?_
  refine lv_istore_n (lv' := [(1, .int (nI 1)), (0, .ref (a 0))]) hx hb dX4_tear_4 rfl hl (by decide) rfl (fun ls hl => ?_)
  refine lv_aload_n hx hb dX4_tear_5 rfl (lv_at hl 1 rfl) ?_
  refine lv_iconst (v := nI 0) hx hb dX4_tear_6 (by decide) ?_
  refine p4_isKept S hK hP hD hS (by decide) dX4_tear_7 (fun H locs hP hD hS => ?_)
  refine lv_iload_n hx hb dX4_tear_10 rfl (lv_at hl 0 rfl) ?_
  refine q_if_eqN (tgt := 18) (a := 1) hx hb dX4_tear_11 (by decide) (by omega) (fun h => absurd h (by omega)) (fun _ => ?_)
  refine lv_iconst (v := nI 1) hx hb dX4_tear_14 (by decide) ?_
  refine lv_goto (tgt := 19) hx hb dX4_tear_15 (by decide) ?_
  exact WR.iret S hr hlk hP hS (rfl) rfl dX4_tear_19
set_option maxRecDepth 100000 in
set_option maxHeartbeats 4000000 in
theorem c_X4_count_ok0 (l : Launch) (D : va_G) (cI cJ : ClassId) (a : Nat → Nat) (f : Nat → Int32) (σ : Nat → Nat → Int32) (n : Nat) (hw : Wk f n) : WR l yX4_count cX4_count 4 (some .int) 4 D cI cJ (MW cI a f σ) [.ref (a 0), .int (nI 0)] (some (.int (f 1))) (MW cI a f σ) := by
  refine WR.of (by decide) (Nat.le_of_ble_eq_true rfl) (fun p e s m below meth c ls A S hr hlk hK hP hD hS hA hl => ?_)
  obtain ⟨hx, hb, hml, hown, hU⟩ := id S
  have hl : lv_has ls 4 [(0, .ref (a 0)), (1, .int (nI 0))] := hl
  refine lv_iconst (v := nI 0) hx hb dX4_count_0 (by decide) ?_
  refine lv_istore_n (lv' := [(2, .int (nI 0)), (0, .ref (a 0)), (1, .int (nI 0))]) hx hb dX4_count_1 rfl hl (by decide) rfl (fun ls hl => ?_)
  refine lv_iload_n hx hb dX4_count_2 rfl (lv_at hl 2 rfl) ?_
  refine lv_tableIn (tgt := 48) hx hb dX4_count_3 (by decide) (by decide) rfl (by decide) ?_
  refine lv_aload_n hx hb dX4_count_48 rfl (lv_at hl 1 rfl) ?_
  refine g4_s S hK hP dX4_count_49 ?_
  refine lv_iconst (v := nI 1) hx hb dX4_count_52 (by decide) ?_
  refine l4_s S hK hP (j := 1) (by omega) dX4_count_53 ?_
  exact WR.iret S hr hlk hP hS (rfl) rfl dX4_count_54
set_option maxRecDepth 100000 in
set_option maxHeartbeats 4000000 in
theorem c_X4_count_ok1 (l : Launch) (D : va_G) (cI cJ : ClassId) (a : Nat → Nat) (f : Nat → Int32) (σ : Nat → Nat → Int32) (n : Nat) (hw : Wk f n) : WR l yX4_count cX4_count 4 (some .int) 4 D cI cJ (MW cI a f σ) [.ref (a 0), .int (nI 1)] (some (.int (nI n))) (MW cI a f σ) := by
  refine WR.of (by decide) (Nat.le_of_ble_eq_true rfl) (fun p e s m below meth c ls A S hr hlk hK hP hD hS hA hl => ?_)
  obtain ⟨hx, hb, hml, hown, hU⟩ := id S
  have hl : lv_has ls 4 [(0, .ref (a 0)), (1, .int (nI 1))] := hl
  refine lv_iconst (v := nI 0) hx hb dX4_count_0 (by decide) ?_
  refine lv_istore_n (lv' := [(2, .int (nI 0)), (0, .ref (a 0)), (1, .int (nI 1))]) hx hb dX4_count_1 rfl hl (by decide) rfl (fun ls hl => ?_)
  refine lv_iload_n hx hb dX4_count_2 rfl (lv_at hl 2 rfl) ?_
  refine lv_tableIn (tgt := 55) hx hb dX4_count_3 (by decide) (by decide) rfl (by decide) ?_
  refine lv_aload_n hx hb dX4_count_55 rfl (lv_at hl 1 rfl) ?_
  refine g4_s S hK hP dX4_count_56 ?_
  refine lv_iconst (v := nI 0) hx hb dX4_count_59 (by decide) ?_
  refine l4_s S hK hP (j := 0) (by omega) dX4_count_60 ?_
  refine q_eqi (y := nI n) (hw.1) ?_
  exact WR.iret S hr hlk hP hS (rfl) rfl dX4_count_61
set_option maxRecDepth 100000 in
set_option maxHeartbeats 4000000 in
theorem c_X4_count_ok2 (l : Launch) (D : va_G) (cI cJ : ClassId) (a : Nat → Nat) (f : Nat → Int32) (σ : Nat → Nat → Int32) (n : Nat) (hw : Wk f n) : WR l yX4_count cX4_count 4 (some .int) 4 D cI cJ (MW cI a f σ) [.ref (a 0), .int (nI 2)] (some (.int (sSm f 2 n))) (MW cI a f σ) := by
  refine WR.of (by decide) (Nat.le_of_ble_eq_true rfl) (fun p e s m below meth c ls A S hr hlk hK hP hD hS hA hl => ?_)
  obtain ⟨hx, hb, hml, hown, hU⟩ := id S
  have hl : lv_has ls 4 [(0, .ref (a 0)), (1, .int (nI 2))] := hl
  refine lv_iconst (v := nI 0) hx hb dX4_count_0 (by decide) ?_
  refine lv_istore_n (lv' := [(2, .int (nI 0)), (0, .ref (a 0)), (1, .int (nI 2))]) hx hb dX4_count_1 rfl hl (by decide) rfl (fun ls hl => ?_)
  refine lv_iload_n hx hb dX4_count_2 rfl (lv_at hl 2 rfl) ?_
  refine lv_tableIn (tgt := 62) hx hb dX4_count_3 (by decide) (by decide) rfl (by decide) ?_
  refine lv_aload_n hx hb dX4_count_62 rfl (lv_at hl 1 rfl) ?_
  refine lv_iconst (v := nI 2) hx hb dX4_count_63 (by decide) ?_
  refine RO.callV S kv_X4_128 (c_X4_sumOf_2 l D cI cJ a f σ n hw) hK hP rfl ⟨Nat.le_of_ble_eq_true rfl, Nat.le_of_ble_eq_true rfl⟩ hl.1 rfl rfl (Nat.le_of_ble_eq_true rfl) (Nat.zero_le _) (Nat.zero_le _) dX4_count_64 ?_
  exact WR.iret S hr hlk hP hS (rfl) rfl dX4_count_67
set_option maxRecDepth 100000 in
set_option maxHeartbeats 4000000 in
theorem c_X4_count_ok3 (l : Launch) (D : va_G) (cI cJ : ClassId) (a : Nat → Nat) (f : Nat → Int32) (σ : Nat → Nat → Int32) (n : Nat) (hw : Wk f n) : WR l yX4_count cX4_count 4 (some .int) 4 D cI cJ (MW cI a f σ) [.ref (a 0), .int (nI 3)] (some (.int (f 3))) (MW cI a f σ) := by
  refine WR.of (by decide) (Nat.le_of_ble_eq_true rfl) (fun p e s m below meth c ls A S hr hlk hK hP hD hS hA hl => ?_)
  obtain ⟨hx, hb, hml, hown, hU⟩ := id S
  have hl : lv_has ls 4 [(0, .ref (a 0)), (1, .int (nI 3))] := hl
  refine lv_iconst (v := nI 0) hx hb dX4_count_0 (by decide) ?_
  refine lv_istore_n (lv' := [(2, .int (nI 0)), (0, .ref (a 0)), (1, .int (nI 3))]) hx hb dX4_count_1 rfl hl (by decide) rfl (fun ls hl => ?_)
  refine lv_iload_n hx hb dX4_count_2 rfl (lv_at hl 2 rfl) ?_
  refine lv_tableIn (tgt := 68) hx hb dX4_count_3 (by decide) (by decide) rfl (by decide) ?_
  refine lv_aload_n hx hb dX4_count_68 rfl (lv_at hl 1 rfl) ?_
  refine g4_s S hK hP dX4_count_69 ?_
  refine lv_iconst (v := nI 3) hx hb dX4_count_72 (by decide) ?_
  refine l4_s S hK hP (j := 3) (by omega) dX4_count_73 ?_
  exact WR.iret S hr hlk hP hS (rfl) rfl dX4_count_74
set_option maxRecDepth 100000 in
set_option maxHeartbeats 4000000 in
theorem c_X4_count_ok4 (l : Launch) (D : va_G) (cI cJ : ClassId) (a : Nat → Nat) (f : Nat → Int32) (σ : Nat → Nat → Int32) (n : Nat) (hw : Wk f n) : WR l yX4_count cX4_count 4 (some .int) 4 D cI cJ (MW cI a f σ) [.ref (a 0), .int (nI 4)] (some (.int (sSm f 6 n))) (MW cI a f σ) := by
  refine WR.of (by decide) (Nat.le_of_ble_eq_true rfl) (fun p e s m below meth c ls A S hr hlk hK hP hD hS hA hl => ?_)
  obtain ⟨hx, hb, hml, hown, hU⟩ := id S
  have hl : lv_has ls 4 [(0, .ref (a 0)), (1, .int (nI 4))] := hl
  refine lv_iconst (v := nI 0) hx hb dX4_count_0 (by decide) ?_
  refine lv_istore_n (lv' := [(2, .int (nI 0)), (0, .ref (a 0)), (1, .int (nI 4))]) hx hb dX4_count_1 rfl hl (by decide) rfl (fun ls hl => ?_)
  refine lv_iload_n hx hb dX4_count_2 rfl (lv_at hl 2 rfl) ?_
  refine lv_tableIn (tgt := 75) hx hb dX4_count_3 (by decide) (by decide) rfl (by decide) ?_
  refine lv_aload_n hx hb dX4_count_75 rfl (lv_at hl 1 rfl) ?_
  refine lv_bipush (v := nI 6) hx hb dX4_count_76 (by decide) ?_
  refine RO.callV S kv_X4_128 (c_X4_sumOf_6 l D cI cJ a f σ n hw) hK hP rfl ⟨Nat.le_of_ble_eq_true rfl, Nat.le_of_ble_eq_true rfl⟩ hl.1 rfl rfl (Nat.le_of_ble_eq_true rfl) (Nat.zero_le _) (Nat.zero_le _) dX4_count_78 ?_
  exact WR.iret S hr hlk hP hS (rfl) rfl dX4_count_81
set_option maxRecDepth 100000 in
set_option maxHeartbeats 4000000 in
theorem c_X4_count_ok5 (l : Launch) (D : va_G) (cI cJ : ClassId) (a : Nat → Nat) (f : Nat → Int32) (σ : Nat → Nat → Int32) (n : Nat) (hw : Wk f n) : WR l yX4_count cX4_count 4 (some .int) 4 D cI cJ (MW cI a f σ) [.ref (a 0), .int (nI 5)] (some (.int (σ 9 1))) (MW cI a f σ) := by
  refine WR.of (by decide) (Nat.le_of_ble_eq_true rfl) (fun p e s m below meth c ls A S hr hlk hK hP hD hS hA hl => ?_)
  obtain ⟨hx, hb, hml, hown, hU⟩ := id S
  have hl : lv_has ls 4 [(0, .ref (a 0)), (1, .int (nI 5))] := hl
  refine lv_iconst (v := nI 0) hx hb dX4_count_0 (by decide) ?_
  refine lv_istore_n (lv' := [(2, .int (nI 0)), (0, .ref (a 0)), (1, .int (nI 5))]) hx hb dX4_count_1 rfl hl (by decide) rfl (fun ls hl => ?_)
  refine lv_iload_n hx hb dX4_count_2 rfl (lv_at hl 2 rfl) ?_
  refine lv_tableIn (tgt := 82) hx hb dX4_count_3 (by decide) (by decide) rfl (by decide) ?_
  refine lv_aload_n hx hb dX4_count_82 rfl (lv_at hl 1 rfl) ?_
  refine g4_taped S hK hP dX4_count_83 ?_
  exact WR.iret S hr hlk hP hS (rfl) rfl dX4_count_86
set_option maxRecDepth 100000 in
set_option maxHeartbeats 4000000 in
theorem c_X4_count_ok6 (l : Launch) (D : va_G) (cI cJ : ClassId) (a : Nat → Nat) (f : Nat → Int32) (σ : Nat → Nat → Int32) (n : Nat) (hw : Wk f n) : WR l yX4_count cX4_count 4 (some .int) 4 D cI cJ (MW cI a f σ) [.ref (a 0), .int (nI 6)] (some (.int (f 2))) (MW cI a f σ) := by
  refine WR.of (by decide) (Nat.le_of_ble_eq_true rfl) (fun p e s m below meth c ls A S hr hlk hK hP hD hS hA hl => ?_)
  obtain ⟨hx, hb, hml, hown, hU⟩ := id S
  have hl : lv_has ls 4 [(0, .ref (a 0)), (1, .int (nI 6))] := hl
  refine lv_iconst (v := nI 0) hx hb dX4_count_0 (by decide) ?_
  refine lv_istore_n (lv' := [(2, .int (nI 0)), (0, .ref (a 0)), (1, .int (nI 6))]) hx hb dX4_count_1 rfl hl (by decide) rfl (fun ls hl => ?_)
  refine lv_iload_n hx hb dX4_count_2 rfl (lv_at hl 2 rfl) ?_
  refine lv_tableIn (tgt := 87) hx hb dX4_count_3 (by decide) (by decide) rfl (by decide) ?_
  refine lv_aload_n hx hb dX4_count_87 rfl (lv_at hl 1 rfl) ?_
  refine g4_s S hK hP dX4_count_88 ?_
  refine lv_iconst (v := nI 2) hx hb dX4_count_91 (by decide) ?_
  refine l4_s S hK hP (j := 2) (by omega) dX4_count_92 ?_
  exact WR.iret S hr hlk hP hS (rfl) rfl dX4_count_93
set_option maxRecDepth 100000 in
set_option maxHeartbeats 4000000 in
theorem c_X4_count_ok7 (l : Launch) (D : va_G) (cI cJ : ClassId) (a : Nat → Nat) (f : Nat → Int32) (σ : Nat → Nat → Int32) (n : Nat) (hw : Wk f n) : WR l yX4_count cX4_count 4 (some .int) 4 D cI cJ (MW cI a f σ) [.ref (a 0), .int (nI 7)] (some (.int (nI (sSp f 10)))) (MW cI a f σ) := by
  refine WR.of (by decide) (Nat.le_of_ble_eq_true rfl) (fun p e s m below meth c ls A S hr hlk hK hP hD hS hA hl => ?_)
  obtain ⟨hx, hb, hml, hown, hU⟩ := id S
  have hl : lv_has ls 4 [(0, .ref (a 0)), (1, .int (nI 7))] := hl
  refine lv_iconst (v := nI 0) hx hb dX4_count_0 (by decide) ?_
  refine lv_istore_n (lv' := [(2, .int (nI 0)), (0, .ref (a 0)), (1, .int (nI 7))]) hx hb dX4_count_1 rfl hl (by decide) rfl (fun ls hl => ?_)
  refine lv_iload_n hx hb dX4_count_2 rfl (lv_at hl 2 rfl) ?_
  refine lv_tableIn (tgt := 94) hx hb dX4_count_3 (by decide) (by decide) rfl (by decide) ?_
  refine lv_iconst (v := nI 0) hx hb dX4_count_94 (by decide) ?_
  refine lv_istore_n (lv' := [(3, .int (nI 0)), (2, .int (nI 0)), (0, .ref (a 0)), (1, .int (nI 7))]) hx hb dX4_count_95 rfl hl (by decide) rfl (fun ls hl => ?_)
  have L_96 : ∀ (n9 : Nat) (j : Nat) (H : Heap) (locs : List Loc) (ls : Array Slot), 10 - j < n9 → (j ≤ 10) → va_P D vwCl (MW cI a f σ) H → va_D A (MW cI a f σ) → va_S A s.heap H locs → lv_has ls 4 [(0, .ref (a 0)), (2, .int (nI (sSp f j))), (3, .int (nI j))] → W p l e (rmd 4) s m ([.ref (a 0), .int (nI 7)] : List Value).toArray below meth c H locs 0 0 (ZW below ([.ref (a 0), .int (nI 7)] : List Value).toArray s D (some (.int (nI (sSp f 10)))) (MW cI a f σ) A) (F0 m 96 ls []) := by
    intro n9
    induction n9 with
    | zero => intro j H locs ls hmeas; exact absurd hmeas (Nat.not_lt_zero _)
    | succ n9 ih_96 =>
      intro j H locs ls hmeas hj hP hD hS hl
      have hsl := sSp_le (f := f) (j := j)
      refine lv_iload_n hx hb dX4_count_96 rfl (lv_at hl 2 rfl) ?_
      refine lv_bipush (v := nI 10) hx hb dX4_count_97 (by decide) ?_
      refine q_icmp_geN (tgt := 128) (a := j) (b := 10) hx hb dX4_count_99 (by decide) (by omega) (by omega) (fun c_99 => ?_) (fun c_99 => ?_)
      · refine lv_iload_n hx hb dX4_count_128 rfl (lv_at hl 1 rfl) ?_
        exact WR.iret S hr hlk hP hS (rfl) (congrArg (fun z => some (Value.int z)) (by rw [show j = 10 by omega])) dX4_count_129
      · refine lv_iload_n hx hb dX4_count_102 rfl (lv_at hl 1 rfl) ?_
        refine lv_aload_n hx hb dX4_count_103 rfl (lv_at hl 0 rfl) ?_
        refine g4_s S hK hP dX4_count_104 ?_
        refine lv_bipush (v := nI 72) hx hb dX4_count_107 (by decide) ?_
        refine lv_iload_n hx hb dX4_count_109 rfl (lv_at hl 2 rfl) ?_
        refine q_iaddN (a := 72) (b := j) hx hb dX4_count_110 ?_
        refine l4_s S hK hP (j := 72 + j) (by omega) dX4_count_111 ?_
        refine lv_if_ge (tgt := 119) hx hb dX4_count_112 (by decide) (fun c_112 => ?_) (fun c_112 => ?_)
        · refine lv_iconst (v := nI 1) hx hb dX4_count_119 (by decide) ?_
          refine q_iaddN (a := sSp f j) (b := 1) hx hb dX4_count_120 ?_
          refine lv_istore_n (lv' := [(2, .int (nI ((sSp f j) + 1))), (0, .ref (a 0)), (3, .int (nI j))]) hx hb dX4_count_121 rfl hl (by decide) rfl (fun ls hl => ?_)
          refine lv_iinc (v := nI (j + 1)) (lv' := [(3, .int (nI (j + 1))), (2, .int (nI ((sSp f j) + 1))), (0, .ref (a 0))]) hx hb dX4_count_122 hl (k := 2) rfl (q_inc _) (by decide) rfl (fun ls hl => ?_)
          refine lv_goto (tgt := 96) hx hb dX4_count_125 (by decide) ?_
          exact ih_96 (j + 1) _ _ ls (by omega) (by omega) hP hD hS (by rw [show nI (sSp f (j + 1)) = nI ((sSp f j) + 1) from by rw [sSp, if_neg (i32_not_lt_of_le c_112)]]; exact lv_sub hl [2, 1, 0] rfl)
        · refine lv_iconst (v := nI 0) hx hb dX4_count_115 (by decide) ?_
          refine lv_goto (tgt := 120) hx hb dX4_count_116 (by decide) ?_
          refine q_iaddN (a := sSp f j) (b := 0) hx hb dX4_count_120 ?_
          refine lv_istore_n (lv' := [(2, .int (nI ((sSp f j) + 0))), (0, .ref (a 0)), (3, .int (nI j))]) hx hb dX4_count_121 rfl hl (by decide) rfl (fun ls hl => ?_)
          refine lv_iinc (v := nI (j + 1)) (lv' := [(3, .int (nI (j + 1))), (2, .int (nI ((sSp f j) + 0))), (0, .ref (a 0))]) hx hb dX4_count_122 hl (k := 2) rfl (q_inc _) (by decide) rfl (fun ls hl => ?_)
          refine lv_goto (tgt := 96) hx hb dX4_count_125 (by decide) ?_
          exact ih_96 (j + 1) _ _ ls (by omega) (by omega) hP hD hS (by rw [show nI (sSp f (j + 1)) = nI ((sSp f j) + 0) from by rw [sSp, if_pos (i32_lt_of_not_le c_112)]; exact congrArg nI (Nat.add_zero _).symm]; exact lv_sub hl [2, 1, 0] rfl)
  exact L_96 ((10 - 0) + 1) 0 _ _ ls (Nat.lt_succ_self _) (Nat.zero_le _) hP hD hS (lv_sub hl [2, 1, 0] rfl)
set_option maxRecDepth 100000 in
set_option maxHeartbeats 4000000 in
theorem c_X4_count_bad (l : Launch) (D : va_G) (cI cJ : ClassId) (a : Nat → Nat) (f : Nat → Int32) (σ : Nat → Nat → Int32) (x : Int32) (hb0 : ¬ ((nI 0 ≤ x ∧ x ≤ nI 7))) : WR l yX4_count cX4_count 4 (some .int) 4 D cI cJ (MW cI a f σ) [.ref (a 0), .int x] (some (.int (-1000001))) (MW cI a f (va_up σ 4 (mFi (σ 4) 0))) := by
  refine WR.of (by decide) (Nat.le_of_ble_eq_true rfl) (fun p e s m below meth c ls A S hr hlk hK hP hD hS hA hl => ?_)
  obtain ⟨hx, hb, hml, hown, hU⟩ := id S
  have hl : lv_has ls 4 [(0, .ref (a 0)), (1, .int x)] := hl
  refine lv_iconst (v := nI 0) hx hb dX4_count_0 (by decide) ?_
  refine lv_istore_n (lv' := [(2, .int (nI 0)), (0, .ref (a 0)), (1, .int x)]) hx hb dX4_count_1 rfl hl (by decide) rfl (fun ls hl => ?_)
  refine lv_iload_n hx hb dX4_count_2 rfl (lv_at hl 2 rfl) ?_
  have k_3_0 : ¬ x = nI 0 := fun q => hb0 (by rw [q]; decide)
  have k_3_1 : ¬ x = nI 1 := fun q => hb0 (by rw [q]; decide)
  have k_3_2 : ¬ x = nI 2 := fun q => hb0 (by rw [q]; decide)
  have k_3_3 : ¬ x = nI 3 := fun q => hb0 (by rw [q]; decide)
  have k_3_4 : ¬ x = nI 4 := fun q => hb0 (by rw [q]; decide)
  have k_3_5 : ¬ x = nI 5 := fun q => hb0 (by rw [q]; decide)
  have k_3_6 : ¬ x = nI 6 := fun q => hb0 (by rw [q]; decide)
  have k_3_7 : ¬ x = nI 7 := fun q => hb0 (by rw [q]; decide)
  refine lv_tableOut (tgt := 130) hx hb dX4_count_3 (tsw_out (fun i h1 h2 => by
    rcases (show i = 0 ∨ i = 1 ∨ i = 2 ∨ i = 3 ∨ i = 4 ∨ i = 5 ∨ i = 6 ∨ i = 7 by omega) with rfl | rfl | rfl | rfl | rfl | rfl | rfl | rfl
    · exact k_3_0
    · exact k_3_1
    · exact k_3_2
    · exact k_3_3
    · exact k_3_4
    · exact k_3_5
    · exact k_3_6
    · exact k_3_7
    )) (by decide) ?_
  refine lv_aload_n hx hb dX4_count_130 rfl (lv_at hl 1 rfl) ?_
  refine lv_ldc (v := (-1000001)) hx hb hown (hU _ mK_X4_37) dX4_count_131 ?_
  refine WR.callV (w1 := MW cI a f (va_up σ 4 (mFi (σ 4) 0))) S kv_X4_39 (c_X4_fd0 l D cI cJ a f σ) hK hP hD hS hA ([]) ([]) rfl rfl MW_fst rfl ⟨Nat.le_of_ble_eq_true rfl, Nat.le_of_ble_eq_true rfl⟩ hl.1 rfl rfl (Nat.le_of_ble_eq_true rfl) (Nat.zero_le _) (Nat.zero_le _) dX4_count_133 (fun H locs hP hD hS => ?_)
  exact WR.iret S hr hlk hP hS (rfl) rfl dX4_count_136
set_option maxRecDepth 100000 in
set_option maxHeartbeats 4000000 in
theorem c_X4_status_okm (l : Launch) (D : va_G) (cI cJ : ClassId) (a : Nat → Nat) (f : Nat → Int32) (σ : Nat → Nat → Int32) : WR l yX4_status cX4_status 2 (some .int) 1 D cI cJ (MW cI a f σ) [.ref (a 0), .int (-1)] (some (.int (σ 4 0))) (MW cI a f σ) := by
  refine WR.of (by decide) (Nat.le_of_ble_eq_true rfl) (fun p e s m below meth c ls A S hr hlk hK hP hD hS hA hl => ?_)
  obtain ⟨hx, hb, hml, hown, hU⟩ := id S
  have hl : lv_has ls 2 [(0, .ref (a 0)), (1, .int (-1))] := hl
  refine lv_iload_n hx hb dX4_status_0 rfl (lv_at hl 1 rfl) ?_
  refine lv_i2l hx hb dX4_status_1 rfl ?_
  refine lv_ldc2 (v := (-1)) hx hb hown (hU _ mK_X4_291) dX4_status_2 ?_
  refine lv_ldc2 (v := 6) hx hb hown (hU _ mK_X4_73) dX4_status_5 ?_
  refine RO.callS S ks_X4_49 (c_X4_isIn l D cI cJ a f σ (-1) (-1) (nI 6)) hK hP ⟨Nat.le_of_ble_eq_true rfl, Nat.le_of_ble_eq_true rfl⟩ hl.1 rfl rfl (Nat.le_of_ble_eq_true rfl) (Nat.zero_le _) (Nat.zero_le _) dX4_status_8 ?_
  refine q_if_eqB (tgt := 25) hx hb dX4_status_11 (by decide) (fun h => absurd (by decide) h) (fun _ => ?_)
  refine lv_aload_n hx hb dX4_status_14 rfl (lv_at hl 0 rfl) ?_
  refine g4_findings S hK hP dX4_status_15 ?_
  refine lv_iload_n hx hb dX4_status_18 rfl (lv_at hl 1 rfl) ?_
  refine lv_iconst (v := nI 1) hx hb dX4_status_19 (by decide) ?_
  refine lv_iadd hx hb dX4_status_20 ?_
  refine q_eqi (y := nI 0) (by decide) ?_
  refine l4_findings S hK hP (j := 0) (by omega) dX4_status_21 ?_
  refine lv_goto (tgt := 31) hx hb dX4_status_22 (by decide) ?_
  exact WR.iret S hr hlk hP hS (rfl) rfl dX4_status_31
set_option maxRecDepth 100000 in
set_option maxHeartbeats 4000000 in
theorem c_X4_status_ok0 (l : Launch) (D : va_G) (cI cJ : ClassId) (a : Nat → Nat) (f : Nat → Int32) (σ : Nat → Nat → Int32) : WR l yX4_status cX4_status 2 (some .int) 1 D cI cJ (MW cI a f σ) [.ref (a 0), .int (nI 0)] (some (.int (σ 4 1))) (MW cI a f σ) := by
  refine WR.of (by decide) (Nat.le_of_ble_eq_true rfl) (fun p e s m below meth c ls A S hr hlk hK hP hD hS hA hl => ?_)
  obtain ⟨hx, hb, hml, hown, hU⟩ := id S
  have hl : lv_has ls 2 [(0, .ref (a 0)), (1, .int (nI 0))] := hl
  refine lv_iload_n hx hb dX4_status_0 rfl (lv_at hl 1 rfl) ?_
  refine lv_i2l hx hb dX4_status_1 rfl ?_
  refine lv_ldc2 (v := (-1)) hx hb hown (hU _ mK_X4_291) dX4_status_2 ?_
  refine lv_ldc2 (v := 6) hx hb hown (hU _ mK_X4_73) dX4_status_5 ?_
  refine RO.callS S ks_X4_49 (c_X4_isIn l D cI cJ a f σ (nI 0) (-1) (nI 6)) hK hP ⟨Nat.le_of_ble_eq_true rfl, Nat.le_of_ble_eq_true rfl⟩ hl.1 rfl rfl (Nat.le_of_ble_eq_true rfl) (Nat.zero_le _) (Nat.zero_le _) dX4_status_8 ?_
  refine q_if_eqB (tgt := 25) hx hb dX4_status_11 (by decide) (fun h => absurd (by decide) h) (fun _ => ?_)
  refine lv_aload_n hx hb dX4_status_14 rfl (lv_at hl 0 rfl) ?_
  refine g4_findings S hK hP dX4_status_15 ?_
  refine lv_iload_n hx hb dX4_status_18 rfl (lv_at hl 1 rfl) ?_
  refine lv_iconst (v := nI 1) hx hb dX4_status_19 (by decide) ?_
  refine q_iaddN (a := 0) (b := 1) hx hb dX4_status_20 ?_
  refine q_eqi (y := nI 1) (rfl) ?_
  refine l4_findings S hK hP (j := 1) (by omega) dX4_status_21 ?_
  refine lv_goto (tgt := 31) hx hb dX4_status_22 (by decide) ?_
  exact WR.iret S hr hlk hP hS (rfl) rfl dX4_status_31
set_option maxRecDepth 100000 in
set_option maxHeartbeats 4000000 in
theorem c_X4_status_ok1 (l : Launch) (D : va_G) (cI cJ : ClassId) (a : Nat → Nat) (f : Nat → Int32) (σ : Nat → Nat → Int32) : WR l yX4_status cX4_status 2 (some .int) 1 D cI cJ (MW cI a f σ) [.ref (a 0), .int (nI 1)] (some (.int (σ 4 2))) (MW cI a f σ) := by
  refine WR.of (by decide) (Nat.le_of_ble_eq_true rfl) (fun p e s m below meth c ls A S hr hlk hK hP hD hS hA hl => ?_)
  obtain ⟨hx, hb, hml, hown, hU⟩ := id S
  have hl : lv_has ls 2 [(0, .ref (a 0)), (1, .int (nI 1))] := hl
  refine lv_iload_n hx hb dX4_status_0 rfl (lv_at hl 1 rfl) ?_
  refine lv_i2l hx hb dX4_status_1 rfl ?_
  refine lv_ldc2 (v := (-1)) hx hb hown (hU _ mK_X4_291) dX4_status_2 ?_
  refine lv_ldc2 (v := 6) hx hb hown (hU _ mK_X4_73) dX4_status_5 ?_
  refine RO.callS S ks_X4_49 (c_X4_isIn l D cI cJ a f σ (nI 1) (-1) (nI 6)) hK hP ⟨Nat.le_of_ble_eq_true rfl, Nat.le_of_ble_eq_true rfl⟩ hl.1 rfl rfl (Nat.le_of_ble_eq_true rfl) (Nat.zero_le _) (Nat.zero_le _) dX4_status_8 ?_
  refine q_if_eqB (tgt := 25) hx hb dX4_status_11 (by decide) (fun h => absurd (by decide) h) (fun _ => ?_)
  refine lv_aload_n hx hb dX4_status_14 rfl (lv_at hl 0 rfl) ?_
  refine g4_findings S hK hP dX4_status_15 ?_
  refine lv_iload_n hx hb dX4_status_18 rfl (lv_at hl 1 rfl) ?_
  refine lv_iconst (v := nI 1) hx hb dX4_status_19 (by decide) ?_
  refine q_iaddN (a := 1) (b := 1) hx hb dX4_status_20 ?_
  refine q_eqi (y := nI 2) (rfl) ?_
  refine l4_findings S hK hP (j := 2) (by omega) dX4_status_21 ?_
  refine lv_goto (tgt := 31) hx hb dX4_status_22 (by decide) ?_
  exact WR.iret S hr hlk hP hS (rfl) rfl dX4_status_31
set_option maxRecDepth 100000 in
set_option maxHeartbeats 4000000 in
theorem c_X4_status_ok2 (l : Launch) (D : va_G) (cI cJ : ClassId) (a : Nat → Nat) (f : Nat → Int32) (σ : Nat → Nat → Int32) : WR l yX4_status cX4_status 2 (some .int) 1 D cI cJ (MW cI a f σ) [.ref (a 0), .int (nI 2)] (some (.int (σ 4 3))) (MW cI a f σ) := by
  refine WR.of (by decide) (Nat.le_of_ble_eq_true rfl) (fun p e s m below meth c ls A S hr hlk hK hP hD hS hA hl => ?_)
  obtain ⟨hx, hb, hml, hown, hU⟩ := id S
  have hl : lv_has ls 2 [(0, .ref (a 0)), (1, .int (nI 2))] := hl
  refine lv_iload_n hx hb dX4_status_0 rfl (lv_at hl 1 rfl) ?_
  refine lv_i2l hx hb dX4_status_1 rfl ?_
  refine lv_ldc2 (v := (-1)) hx hb hown (hU _ mK_X4_291) dX4_status_2 ?_
  refine lv_ldc2 (v := 6) hx hb hown (hU _ mK_X4_73) dX4_status_5 ?_
  refine RO.callS S ks_X4_49 (c_X4_isIn l D cI cJ a f σ (nI 2) (-1) (nI 6)) hK hP ⟨Nat.le_of_ble_eq_true rfl, Nat.le_of_ble_eq_true rfl⟩ hl.1 rfl rfl (Nat.le_of_ble_eq_true rfl) (Nat.zero_le _) (Nat.zero_le _) dX4_status_8 ?_
  refine q_if_eqB (tgt := 25) hx hb dX4_status_11 (by decide) (fun h => absurd (by decide) h) (fun _ => ?_)
  refine lv_aload_n hx hb dX4_status_14 rfl (lv_at hl 0 rfl) ?_
  refine g4_findings S hK hP dX4_status_15 ?_
  refine lv_iload_n hx hb dX4_status_18 rfl (lv_at hl 1 rfl) ?_
  refine lv_iconst (v := nI 1) hx hb dX4_status_19 (by decide) ?_
  refine q_iaddN (a := 2) (b := 1) hx hb dX4_status_20 ?_
  refine q_eqi (y := nI 3) (rfl) ?_
  refine l4_findings S hK hP (j := 3) (by omega) dX4_status_21 ?_
  refine lv_goto (tgt := 31) hx hb dX4_status_22 (by decide) ?_
  exact WR.iret S hr hlk hP hS (rfl) rfl dX4_status_31
set_option maxRecDepth 100000 in
set_option maxHeartbeats 4000000 in
theorem c_X4_status_ok3 (l : Launch) (D : va_G) (cI cJ : ClassId) (a : Nat → Nat) (f : Nat → Int32) (σ : Nat → Nat → Int32) : WR l yX4_status cX4_status 2 (some .int) 1 D cI cJ (MW cI a f σ) [.ref (a 0), .int (nI 3)] (some (.int (σ 4 4))) (MW cI a f σ) := by
  refine WR.of (by decide) (Nat.le_of_ble_eq_true rfl) (fun p e s m below meth c ls A S hr hlk hK hP hD hS hA hl => ?_)
  obtain ⟨hx, hb, hml, hown, hU⟩ := id S
  have hl : lv_has ls 2 [(0, .ref (a 0)), (1, .int (nI 3))] := hl
  refine lv_iload_n hx hb dX4_status_0 rfl (lv_at hl 1 rfl) ?_
  refine lv_i2l hx hb dX4_status_1 rfl ?_
  refine lv_ldc2 (v := (-1)) hx hb hown (hU _ mK_X4_291) dX4_status_2 ?_
  refine lv_ldc2 (v := 6) hx hb hown (hU _ mK_X4_73) dX4_status_5 ?_
  refine RO.callS S ks_X4_49 (c_X4_isIn l D cI cJ a f σ (nI 3) (-1) (nI 6)) hK hP ⟨Nat.le_of_ble_eq_true rfl, Nat.le_of_ble_eq_true rfl⟩ hl.1 rfl rfl (Nat.le_of_ble_eq_true rfl) (Nat.zero_le _) (Nat.zero_le _) dX4_status_8 ?_
  refine q_if_eqB (tgt := 25) hx hb dX4_status_11 (by decide) (fun h => absurd (by decide) h) (fun _ => ?_)
  refine lv_aload_n hx hb dX4_status_14 rfl (lv_at hl 0 rfl) ?_
  refine g4_findings S hK hP dX4_status_15 ?_
  refine lv_iload_n hx hb dX4_status_18 rfl (lv_at hl 1 rfl) ?_
  refine lv_iconst (v := nI 1) hx hb dX4_status_19 (by decide) ?_
  refine q_iaddN (a := 3) (b := 1) hx hb dX4_status_20 ?_
  refine q_eqi (y := nI 4) (rfl) ?_
  refine l4_findings S hK hP (j := 4) (by omega) dX4_status_21 ?_
  refine lv_goto (tgt := 31) hx hb dX4_status_22 (by decide) ?_
  exact WR.iret S hr hlk hP hS (rfl) rfl dX4_status_31
set_option maxRecDepth 100000 in
set_option maxHeartbeats 4000000 in
theorem c_X4_status_ok4 (l : Launch) (D : va_G) (cI cJ : ClassId) (a : Nat → Nat) (f : Nat → Int32) (σ : Nat → Nat → Int32) : WR l yX4_status cX4_status 2 (some .int) 1 D cI cJ (MW cI a f σ) [.ref (a 0), .int (nI 4)] (some (.int (σ 4 5))) (MW cI a f σ) := by
  refine WR.of (by decide) (Nat.le_of_ble_eq_true rfl) (fun p e s m below meth c ls A S hr hlk hK hP hD hS hA hl => ?_)
  obtain ⟨hx, hb, hml, hown, hU⟩ := id S
  have hl : lv_has ls 2 [(0, .ref (a 0)), (1, .int (nI 4))] := hl
  refine lv_iload_n hx hb dX4_status_0 rfl (lv_at hl 1 rfl) ?_
  refine lv_i2l hx hb dX4_status_1 rfl ?_
  refine lv_ldc2 (v := (-1)) hx hb hown (hU _ mK_X4_291) dX4_status_2 ?_
  refine lv_ldc2 (v := 6) hx hb hown (hU _ mK_X4_73) dX4_status_5 ?_
  refine RO.callS S ks_X4_49 (c_X4_isIn l D cI cJ a f σ (nI 4) (-1) (nI 6)) hK hP ⟨Nat.le_of_ble_eq_true rfl, Nat.le_of_ble_eq_true rfl⟩ hl.1 rfl rfl (Nat.le_of_ble_eq_true rfl) (Nat.zero_le _) (Nat.zero_le _) dX4_status_8 ?_
  refine q_if_eqB (tgt := 25) hx hb dX4_status_11 (by decide) (fun h => absurd (by decide) h) (fun _ => ?_)
  refine lv_aload_n hx hb dX4_status_14 rfl (lv_at hl 0 rfl) ?_
  refine g4_findings S hK hP dX4_status_15 ?_
  refine lv_iload_n hx hb dX4_status_18 rfl (lv_at hl 1 rfl) ?_
  refine lv_iconst (v := nI 1) hx hb dX4_status_19 (by decide) ?_
  refine q_iaddN (a := 4) (b := 1) hx hb dX4_status_20 ?_
  refine q_eqi (y := nI 5) (rfl) ?_
  refine l4_findings S hK hP (j := 5) (by omega) dX4_status_21 ?_
  refine lv_goto (tgt := 31) hx hb dX4_status_22 (by decide) ?_
  exact WR.iret S hr hlk hP hS (rfl) rfl dX4_status_31
set_option maxRecDepth 100000 in
set_option maxHeartbeats 4000000 in
theorem c_X4_status_ok5 (l : Launch) (D : va_G) (cI cJ : ClassId) (a : Nat → Nat) (f : Nat → Int32) (σ : Nat → Nat → Int32) : WR l yX4_status cX4_status 2 (some .int) 1 D cI cJ (MW cI a f σ) [.ref (a 0), .int (nI 5)] (some (.int (σ 4 6))) (MW cI a f σ) := by
  refine WR.of (by decide) (Nat.le_of_ble_eq_true rfl) (fun p e s m below meth c ls A S hr hlk hK hP hD hS hA hl => ?_)
  obtain ⟨hx, hb, hml, hown, hU⟩ := id S
  have hl : lv_has ls 2 [(0, .ref (a 0)), (1, .int (nI 5))] := hl
  refine lv_iload_n hx hb dX4_status_0 rfl (lv_at hl 1 rfl) ?_
  refine lv_i2l hx hb dX4_status_1 rfl ?_
  refine lv_ldc2 (v := (-1)) hx hb hown (hU _ mK_X4_291) dX4_status_2 ?_
  refine lv_ldc2 (v := 6) hx hb hown (hU _ mK_X4_73) dX4_status_5 ?_
  refine RO.callS S ks_X4_49 (c_X4_isIn l D cI cJ a f σ (nI 5) (-1) (nI 6)) hK hP ⟨Nat.le_of_ble_eq_true rfl, Nat.le_of_ble_eq_true rfl⟩ hl.1 rfl rfl (Nat.le_of_ble_eq_true rfl) (Nat.zero_le _) (Nat.zero_le _) dX4_status_8 ?_
  refine q_if_eqB (tgt := 25) hx hb dX4_status_11 (by decide) (fun h => absurd (by decide) h) (fun _ => ?_)
  refine lv_aload_n hx hb dX4_status_14 rfl (lv_at hl 0 rfl) ?_
  refine g4_findings S hK hP dX4_status_15 ?_
  refine lv_iload_n hx hb dX4_status_18 rfl (lv_at hl 1 rfl) ?_
  refine lv_iconst (v := nI 1) hx hb dX4_status_19 (by decide) ?_
  refine q_iaddN (a := 5) (b := 1) hx hb dX4_status_20 ?_
  refine q_eqi (y := nI 6) (rfl) ?_
  refine l4_findings S hK hP (j := 6) (by omega) dX4_status_21 ?_
  refine lv_goto (tgt := 31) hx hb dX4_status_22 (by decide) ?_
  exact WR.iret S hr hlk hP hS (rfl) rfl dX4_status_31
set_option maxRecDepth 100000 in
set_option maxHeartbeats 4000000 in
theorem c_X4_status_ok6 (l : Launch) (D : va_G) (cI cJ : ClassId) (a : Nat → Nat) (f : Nat → Int32) (σ : Nat → Nat → Int32) : WR l yX4_status cX4_status 2 (some .int) 1 D cI cJ (MW cI a f σ) [.ref (a 0), .int (nI 6)] (some (.int (σ 4 7))) (MW cI a f σ) := by
  refine WR.of (by decide) (Nat.le_of_ble_eq_true rfl) (fun p e s m below meth c ls A S hr hlk hK hP hD hS hA hl => ?_)
  obtain ⟨hx, hb, hml, hown, hU⟩ := id S
  have hl : lv_has ls 2 [(0, .ref (a 0)), (1, .int (nI 6))] := hl
  refine lv_iload_n hx hb dX4_status_0 rfl (lv_at hl 1 rfl) ?_
  refine lv_i2l hx hb dX4_status_1 rfl ?_
  refine lv_ldc2 (v := (-1)) hx hb hown (hU _ mK_X4_291) dX4_status_2 ?_
  refine lv_ldc2 (v := 6) hx hb hown (hU _ mK_X4_73) dX4_status_5 ?_
  refine RO.callS S ks_X4_49 (c_X4_isIn l D cI cJ a f σ (nI 6) (-1) (nI 6)) hK hP ⟨Nat.le_of_ble_eq_true rfl, Nat.le_of_ble_eq_true rfl⟩ hl.1 rfl rfl (Nat.le_of_ble_eq_true rfl) (Nat.zero_le _) (Nat.zero_le _) dX4_status_8 ?_
  refine q_if_eqB (tgt := 25) hx hb dX4_status_11 (by decide) (fun h => absurd (by decide) h) (fun _ => ?_)
  refine lv_aload_n hx hb dX4_status_14 rfl (lv_at hl 0 rfl) ?_
  refine g4_findings S hK hP dX4_status_15 ?_
  refine lv_iload_n hx hb dX4_status_18 rfl (lv_at hl 1 rfl) ?_
  refine lv_iconst (v := nI 1) hx hb dX4_status_19 (by decide) ?_
  refine q_iaddN (a := 6) (b := 1) hx hb dX4_status_20 ?_
  refine q_eqi (y := nI 7) (rfl) ?_
  refine l4_findings S hK hP (j := 7) (by omega) dX4_status_21 ?_
  refine lv_goto (tgt := 31) hx hb dX4_status_22 (by decide) ?_
  exact WR.iret S hr hlk hP hS (rfl) rfl dX4_status_31
set_option maxRecDepth 100000 in
set_option maxHeartbeats 4000000 in
theorem c_X4_status_bad (l : Launch) (D : va_G) (cI cJ : ClassId) (a : Nat → Nat) (f : Nat → Int32) (σ : Nat → Nat → Int32) (x : Int32) (hb0 : ¬ (((-1) ≤ x ∧ x ≤ nI 6))) : WR l yX4_status cX4_status 2 (some .int) 1 D cI cJ (MW cI a f σ) [.ref (a 0), .int x] (some (.int (-1000001))) (MW cI a f (va_up σ 4 (mFi (σ 4) 0))) := by
  refine WR.of (by decide) (Nat.le_of_ble_eq_true rfl) (fun p e s m below meth c ls A S hr hlk hK hP hD hS hA hl => ?_)
  obtain ⟨hx, hb, hml, hown, hU⟩ := id S
  have hl : lv_has ls 2 [(0, .ref (a 0)), (1, .int x)] := hl
  refine lv_iload_n hx hb dX4_status_0 rfl (lv_at hl 1 rfl) ?_
  refine lv_i2l hx hb dX4_status_1 rfl ?_
  refine lv_ldc2 (v := (-1)) hx hb hown (hU _ mK_X4_291) dX4_status_2 ?_
  refine lv_ldc2 (v := 6) hx hb hown (hU _ mK_X4_73) dX4_status_5 ?_
  refine RO.callS S ks_X4_49 (c_X4_isIn l D cI cJ a f σ x (-1) (nI 6)) hK hP ⟨Nat.le_of_ble_eq_true rfl, Nat.le_of_ble_eq_true rfl⟩ hl.1 rfl rfl (Nat.le_of_ble_eq_true rfl) (Nat.zero_le _) (Nat.zero_le _) dX4_status_8 ?_
  refine q_if_eqB (tgt := 25) hx hb dX4_status_11 (by decide) (fun c_11 => ?_) (fun c_11 => ?_)
  · refine lv_aload_n hx hb dX4_status_25 rfl (lv_at hl 0 rfl) ?_
    refine lv_ldc (v := (-1000001)) hx hb hown (hU _ mK_X4_37) dX4_status_26 ?_
    refine WR.callV (w1 := MW cI a f (va_up σ 4 (mFi (σ 4) 0))) S kv_X4_39 (c_X4_fd0 l D cI cJ a f σ) hK hP hD hS hA ([]) ([]) rfl rfl MW_fst rfl ⟨Nat.le_of_ble_eq_true rfl, Nat.le_of_ble_eq_true rfl⟩ hl.1 rfl rfl (Nat.le_of_ble_eq_true rfl) (Nat.zero_le _) (Nat.zero_le _) dX4_status_28 (fun H locs hP hD hS => ?_)
    exact WR.iret S hr hlk hP hS (rfl) rfl dX4_status_31
  · exact absurd (c_11) hb0
set_option maxRecDepth 100000 in
set_option maxHeartbeats 4000000 in
theorem c_X4_odds_ok0 (l : Launch) (D : va_G) (cI cJ : ClassId) (a : Nat → Nat) (f : Nat → Int32) (σ : Nat → Nat → Int32) (q : Nat) (n : Nat) (hw : Wk f n) (hq : q ≤ 23) : WR l yX4_odds cX4_odds 14 (some .long) 2 D cI cJ (MW cI a f σ) [.ref (a 0), .int (nI q), .int (nI 0)] (some (.long (lN ((6 - popc (sUs f n)) ^ q / Nat.gcd (6 ^ q) ((6 - popc (sUs f n)) ^ q))))) (MW cI a f σ) := by
  have h8 := hw.2.1
  have hus := sUs_lt hw (Nat.le_refl n)
  have hpo := popc_le6 (sUs f n) hus
  have h6 := pow6_lt q hq
  have hfq : (6 - popc (sUs f n)) ^ q ≤ 6 ^ q := Nat.pow_le_pow_left (by omega) q
  have hg0 : 0 < Nat.gcd (6 ^ q) ((6 - popc (sUs f n)) ^ q) := Nat.gcd_pos_of_pos_left _ (Nat.pow_pos (by decide))
  refine WR.of (by decide) (Nat.le_of_ble_eq_true rfl) (fun p e s m below meth c ls A S hr hlk hK hP hD hS hA hl => ?_)
  obtain ⟨hx, hb, hml, hown, hU⟩ := id S
  have hl : lv_has ls 14 [(0, .ref (a 0)), (1, .int (nI q)), (2, .int (nI 0))] := hl
  refine lv_iload_n hx hb dX4_odds_0 rfl (lv_at hl 1 rfl) ?_
  refine lv_i2l hx hb dX4_odds_1 rfl ?_
  refine lv_lconst (v := 0) hx hb dX4_odds_2 (by decide) ?_
  refine lv_ldc2 (v := 23) hx hb hown (hU _ mK_X4_203) dX4_odds_3 ?_
  refine RO.callS S ks_X4_49 (c_X4_isIn l D cI cJ a f σ (nI q) (nI 0) (nI 23)) hK hP ⟨Nat.le_of_ble_eq_true rfl, Nat.le_of_ble_eq_true rfl⟩ hl.1 rfl rfl (Nat.le_of_ble_eq_true rfl) (Nat.zero_le _) (Nat.zero_le _) dX4_odds_6 ?_
  refine q_if_eqB (tgt := 22) hx hb dX4_odds_9 (by decide) (fun h => absurd (⟨nI_le (by omega) (by omega), nI_le (by omega) (by omega)⟩) h) (fun _ => ?_)
  refine lv_iload_n hx hb dX4_odds_12 rfl (lv_at hl 2 rfl) ?_
  refine lv_i2l hx hb dX4_odds_13 rfl ?_
  refine lv_lconst (v := 0) hx hb dX4_odds_14 (by decide) ?_
  refine lv_lconst (v := 1) hx hb dX4_odds_15 (by decide) ?_
  refine RO.callS S ks_X4_49 (c_X4_isIn l D cI cJ a f σ (nI 0) (nI 0) (nI 1)) hK hP ⟨Nat.le_of_ble_eq_true rfl, Nat.le_of_ble_eq_true rfl⟩ hl.1 rfl rfl (Nat.le_of_ble_eq_true rfl) (Nat.zero_le _) (Nat.zero_le _) dX4_odds_16 ?_
  refine q_if_neB (tgt := 30) hx hb dX4_odds_19 (by decide) (fun _ => ?_) (fun h => absurd (⟨nI_le (by omega) (by omega), nI_le (by omega) (by omega)⟩) h)
  refine lv_lconst (v := lN 1) hx hb dX4_odds_30 (by decide) ?_
  refine lv_lstore_n (lv' := [(3, .long (lN 1)), (0, .ref (a 0)), (1, .int (nI q)), (2, .int (nI 0))]) hx hb dX4_odds_31 rfl hl (by decide) rfl (fun ls hl => ?_)
  refine lv_lconst (v := lN 1) hx hb dX4_odds_32 (by decide) ?_
  refine lv_lstore (lv' := [(5, .long (lN 1)), (3, .long (lN 1)), (0, .ref (a 0)), (1, .int (nI q)), (2, .int (nI 0))]) hx hb dX4_odds_33 hl (by decide) rfl (fun ls hl => ?_)
  refine lv_bipush (v := nI 6) hx hb dX4_odds_35 (by decide) ?_
  refine lv_aload_n hx hb dX4_odds_37 rfl (lv_at hl 2 rfl) ?_
  refine RO.callV S kv_X4_137 (c_X4_usedOnes l D cI cJ a f σ n (hw)) hK hP rfl ⟨Nat.le_of_ble_eq_true rfl, Nat.le_of_ble_eq_true rfl⟩ hl.1 rfl rfl (Nat.le_of_ble_eq_true rfl) (Nat.zero_le _) (Nat.zero_le _) dX4_odds_38 ?_
  refine RO.callS S ks_X4_83 (c_X4_many l D cI cJ a f σ (sUs f n) (by omega)) hK hP ⟨Nat.le_of_ble_eq_true rfl, Nat.le_of_ble_eq_true rfl⟩ hl.1 rfl rfl (Nat.le_of_ble_eq_true rfl) (Nat.zero_le _) (Nat.zero_le _) dX4_odds_41 ?_
  refine q_isubN (a := 6) (b := popc (sUs f n)) hx hb dX4_odds_44 (by omega) ?_
  refine lv_istore (lv' := [(7, .int (nI (6 - (popc (sUs f n))))), (5, .long (lN 1)), (3, .long (lN 1)), (0, .ref (a 0)), (1, .int (nI q)), (2, .int (nI 0))]) hx hb dX4_odds_45 hl (by decide) rfl (fun ls hl => ?_)
  refine lv_iconst (v := nI 0) hx hb dX4_odds_47 (by decide) ?_
  refine lv_istore (lv' := [(8, .int (nI 0)), (7, .int (nI (6 - (popc (sUs f n))))), (5, .long (lN 1)), (3, .long (lN 1)), (0, .ref (a 0)), (1, .int (nI q)), (2, .int (nI 0))]) hx hb dX4_odds_48 hl (by decide) rfl (fun ls hl => ?_)
  have L_50 : ∀ (n9 : Nat) (j : Nat) (H : Heap) (locs : List Loc) (ls : Array Slot), q - j < n9 → (j ≤ q) → va_P D vwCl (MW cI a f σ) H → va_D A (MW cI a f σ) → va_S A s.heap H locs → lv_has ls 14 [(0, .ref (a 0)), (1, .int (nI q)), (2, .int (nI 0)), (3, .long (lN ((6 - popc (sUs f n)) ^ j))), (5, .long (lN (6 ^ j))), (7, .int (nI (6 - popc (sUs f n)))), (8, .int (nI j))] → W p l e (rmd 2) s m ([.ref (a 0), .int (nI q), .int (nI 0)] : List Value).toArray below meth c H locs 0 0 (ZW below ([.ref (a 0), .int (nI q), .int (nI 0)] : List Value).toArray s D (some (.long (lN ((6 - popc (sUs f n)) ^ q / Nat.gcd (6 ^ q) ((6 - popc (sUs f n)) ^ q))))) (MW cI a f σ) A) (F0 m 50 ls []) := by
    intro n9
    induction n9 with
    | zero => intro j H locs ls hmeas; exact absurd hmeas (Nat.not_lt_zero _)
    | succ n9 ih_50 =>
      intro j H locs ls hmeas hj hP hD hS hl
      refine lv_iload hx hb dX4_odds_50 (lv_at hl 6 rfl) ?_
      refine lv_iload_n hx hb dX4_odds_52 rfl (lv_at hl 1 rfl) ?_
      refine q_icmp_geN (tgt := 76) (a := j) (b := q) hx hb dX4_odds_53 (by decide) (by omega) (by omega) (fun c_53 => ?_) (fun c_53 => ?_)
      · refine lv_lload hx hb dX4_odds_76 (lv_at hl 4 rfl) ?_
        refine lv_lstore (lv' := [(8, .long (lN (6 ^ j))), (0, .ref (a 0)), (1, .int (nI q)), (2, .int (nI 0)), (3, .long (lN ((6 - popc (sUs f n)) ^ j))), (5, .long (lN (6 ^ j))), (7, .int (nI (6 - popc (sUs f n))))]) hx hb dX4_odds_78 hl (by decide) rfl (fun ls hl => ?_)
        refine lv_lload_n hx hb dX4_odds_80 rfl (lv_at hl 4 rfl) ?_
        refine lv_lstore (lv' := [(10, .long (lN ((6 - popc (sUs f n)) ^ j))), (8, .long (lN (6 ^ j))), (0, .ref (a 0)), (1, .int (nI q)), (2, .int (nI 0)), (3, .long (lN ((6 - popc (sUs f n)) ^ j))), (5, .long (lN (6 ^ j))), (7, .int (nI (6 - popc (sUs f n))))]) hx hb dX4_odds_81 hl (by decide) rfl (fun ls hl => ?_)
        have L_83 : ∀ (n9 : Nat) (x9 : Nat) (y9 : Nat) (H : Heap) (locs : List Loc) (ls : Array Slot), y9 < n9 → (x9 ≤ 6 ^ q) → (y9 ≤ 6 ^ q) → (Nat.gcd x9 y9 = Nat.gcd (6 ^ q) ((6 - popc (sUs f n)) ^ q)) → va_P D vwCl (MW cI a f σ) H → va_D A (MW cI a f σ) → va_S A s.heap H locs → lv_has ls 14 [(0, .ref (a 0)), (2, .int (nI 0)), (3, .long (lN ((6 - popc (sUs f n)) ^ q))), (5, .long (lN (6 ^ q))), (8, .long (lN x9)), (10, .long (lN y9))] → W p l e (rmd 2) s m ([.ref (a 0), .int (nI q), .int (nI 0)] : List Value).toArray below meth c H locs 0 0 (ZW below ([.ref (a 0), .int (nI q), .int (nI 0)] : List Value).toArray s D (some (.long (lN ((6 - popc (sUs f n)) ^ q / Nat.gcd (6 ^ q) ((6 - popc (sUs f n)) ^ q))))) (MW cI a f σ) A) (F0 m 83 ls []) := by
          intro n9
          induction n9 with
          | zero => intro x9 y9 H locs ls hmeas; exact absurd hmeas (Nat.not_lt_zero _)
          | succ n9 ih_83 =>
            intro x9 y9 H locs ls hmeas hx6 hy6 hG hP hD hS hl
            refine lv_lload hx hb dX4_odds_83 (lv_at hl 5 rfl) ?_
            refine lv_lconst (v := lN 0) hx hb dX4_odds_85 (by decide) ?_
            refine W.lcmp hx hb dX4_odds_86 ?_
            refine lv_if_eq (tgt := 108) hx hb dX4_odds_87 (by decide) (fun c_87 => ?_) (fun c_87 => ?_)
            · have hy0 : y9 = 0 := lN_inj0 (by omega) ((lg_cmp_eq _ _).mp c_87)
              have hx9 : x9 = Nat.gcd (6 ^ q) ((6 - popc (sUs f n)) ^ q) := by rw [← hG, hy0, Nat.gcd_zero_right]
              refine lv_iload_n hx hb dX4_odds_108 rfl (lv_at hl 1 rfl) ?_
              refine q_if_neN (tgt := 119) (a := 0) hx hb dX4_odds_109 (by decide) (by omega) (fun h => absurd h (by omega)) (fun _ => ?_)
              refine lv_lload_n hx hb dX4_odds_112 rfl (lv_at hl 2 rfl) ?_
              refine lv_lload hx hb dX4_odds_113 (lv_at hl 4 rfl) ?_
              refine lv_ldiv hx hb dX4_odds_115 (lN_ne0 (by rw [hx9]; exact hg0) (by omega)) ?_
              refine q_eql (y := lN (((6 - popc (sUs f n)) ^ q) / x9)) (pk_lDiv (by omega) (by rw [hx9]; exact hg0) (by omega)) ?_
              refine lv_goto (tgt := 124) hx hb dX4_odds_116 (by decide) ?_
              exact WR.lret S hr hlk hP hS (rfl) (congrArg (fun z => some (Value.long z)) (by rw [hx9])) dX4_odds_124
            · have hy0 : 0 < y9 := Nat.pos_of_ne_zero (fun e9 => c_87 (by rw [e9]; exact (lg_cmp_eq _ _).mpr rfl))
              refine lv_lload hx hb dX4_odds_90 (lv_at hl 4 rfl) ?_
              refine lv_lload hx hb dX4_odds_92 (lv_at hl 5 rfl) ?_
              refine lv_lrem hx hb dX4_odds_94 (lN_ne0 (by omega) (by omega)) ?_
              refine q_eql (y := lN (x9 % y9)) (pk_lRem (by omega) (by omega) (by omega)) ?_
              refine lv_lstore (lv' := [(12, .long (lN (x9 % y9))), (0, .ref (a 0)), (2, .int (nI 0)), (3, .long (lN ((6 - popc (sUs f n)) ^ q))), (5, .long (lN (6 ^ q))), (8, .long (lN x9)), (10, .long (lN y9))]) hx hb dX4_odds_95 hl (by decide) rfl (fun ls hl => ?_)
              refine lv_lload hx hb dX4_odds_97 (lv_at hl 6 rfl) ?_
              refine lv_lstore (lv' := [(8, .long (lN y9)), (12, .long (lN (x9 % y9))), (0, .ref (a 0)), (2, .int (nI 0)), (3, .long (lN ((6 - popc (sUs f n)) ^ q))), (5, .long (lN (6 ^ q))), (10, .long (lN y9))]) hx hb dX4_odds_99 hl (by decide) rfl (fun ls hl => ?_)
              refine lv_lload hx hb dX4_odds_101 (lv_at hl 1 rfl) ?_
              refine lv_lstore (lv' := [(10, .long (lN (x9 % y9))), (8, .long (lN y9)), (12, .long (lN (x9 % y9))), (0, .ref (a 0)), (2, .int (nI 0)), (3, .long (lN ((6 - popc (sUs f n)) ^ q))), (5, .long (lN (6 ^ q)))]) hx hb dX4_odds_103 hl (by decide) rfl (fun ls hl => ?_)
              refine lv_goto (tgt := 83) hx hb dX4_odds_105 (by decide) ?_
              exact ih_83 y9 (x9 % y9) _ _ ls (by have := Nat.mod_lt x9 hy0; omega) (hy6) (by have := Nat.mod_lt x9 hy0; omega) (by rw [← hG, Nat.gcd_comm y9 (x9 % y9), ← Nat.gcd_rec, Nat.gcd_comm]) hP hD hS (lv_sub hl [3, 4, 5, 6, 1, 0] rfl)
        exact L_83 (((6 - popc (sUs f n)) ^ q) + 1) (6 ^ q) ((6 - popc (sUs f n)) ^ q) _ _ ls (Nat.lt_succ_self _) (Nat.le_refl _) (hfq) (rfl) hP hD hS (by rw [show lN ((6 - popc (sUs f n)) ^ q) = lN ((6 - popc (sUs f n)) ^ j) from by rw [show j = q by omega], show lN (6 ^ q) = lN (6 ^ j) from by rw [show j = q by omega]]; exact lv_sub hl [2, 4, 5, 6, 1, 0] rfl)
      · refine lv_lload_n hx hb dX4_odds_56 rfl (lv_at hl 3 rfl) ?_
        refine lv_iload hx hb dX4_odds_57 (lv_at hl 5 rfl) ?_
        refine lv_i2l hx hb dX4_odds_59 rfl ?_
        refine q_eql (y := lN (6 - popc (sUs f n))) (nI_l (by omega)) ?_
        refine lv_lmul hx hb dX4_odds_60 ?_
        refine q_eql (y := lN (((6 - popc (sUs f n)) ^ j) * (6 - popc (sUs f n)))) (lN_mul _ _) ?_
        refine lv_lstore_n (lv' := [(3, .long (lN (((6 - popc (sUs f n)) ^ j) * (6 - popc (sUs f n))))), (0, .ref (a 0)), (1, .int (nI q)), (2, .int (nI 0)), (5, .long (lN (6 ^ j))), (7, .int (nI (6 - popc (sUs f n)))), (8, .int (nI j))]) hx hb dX4_odds_61 rfl hl (by decide) rfl (fun ls hl => ?_)
        refine lv_lload hx hb dX4_odds_62 (lv_at hl 4 rfl) ?_
        refine lv_ldc2 (v := lN 6) hx hb hown (hU _ mK_X4_73) dX4_odds_64 ?_
        refine lv_lmul hx hb dX4_odds_67 ?_
        refine q_eql (y := lN ((6 ^ j) * 6)) (lN_mul _ _) ?_
        refine lv_lstore (lv' := [(5, .long (lN ((6 ^ j) * 6))), (3, .long (lN (((6 - popc (sUs f n)) ^ j) * (6 - popc (sUs f n))))), (0, .ref (a 0)), (1, .int (nI q)), (2, .int (nI 0)), (7, .int (nI (6 - popc (sUs f n)))), (8, .int (nI j))]) hx hb dX4_odds_68 hl (by decide) rfl (fun ls hl => ?_)
        refine lv_iinc (v := nI (j + 1)) (lv' := [(8, .int (nI (j + 1))), (5, .long (lN ((6 ^ j) * 6))), (3, .long (lN (((6 - popc (sUs f n)) ^ j) * (6 - popc (sUs f n))))), (0, .ref (a 0)), (1, .int (nI q)), (2, .int (nI 0)), (7, .int (nI (6 - popc (sUs f n))))]) hx hb dX4_odds_70 hl (k := 6) rfl (q_inc _) (by decide) rfl (fun ls hl => ?_)
        refine lv_goto (tgt := 50) hx hb dX4_odds_73 (by decide) ?_
        exact ih_50 (j + 1) _ _ ls (by omega) (by omega) hP hD hS (by rw [show lN ((6 - popc (sUs f n)) ^ (j + 1)) = lN (((6 - popc (sUs f n)) ^ j) * (6 - popc (sUs f n))) from by rw [Nat.pow_succ], show lN (6 ^ (j + 1)) = lN ((6 ^ j) * 6) from by rw [Nat.pow_succ]]; exact lv_sub hl [3, 4, 5, 2, 1, 6, 0] rfl)
  exact L_50 ((q - 0) + 1) 0 _ _ ls (Nat.lt_succ_self _) (Nat.zero_le _) hP hD hS (by rw [show lN ((6 - popc (sUs f n)) ^ 0) = lN 1 from rfl, show lN (6 ^ 0) = lN 1 from rfl]; exact lv_sub hl [4, 5, 6, 3, 2, 1, 0] rfl)
set_option maxRecDepth 100000 in
set_option maxHeartbeats 4000000 in
theorem c_X4_odds_ok1 (l : Launch) (D : va_G) (cI cJ : ClassId) (a : Nat → Nat) (f : Nat → Int32) (σ : Nat → Nat → Int32) (q : Nat) (n : Nat) (hw : Wk f n) (hq : q ≤ 23) : WR l yX4_odds cX4_odds 14 (some .long) 2 D cI cJ (MW cI a f σ) [.ref (a 0), .int (nI q), .int (nI 1)] (some (.long (lN (6 ^ q / Nat.gcd (6 ^ q) ((6 - popc (sUs f n)) ^ q))))) (MW cI a f σ) := by
  have h8 := hw.2.1
  have hus := sUs_lt hw (Nat.le_refl n)
  have hpo := popc_le6 (sUs f n) hus
  have h6 := pow6_lt q hq
  have hfq : (6 - popc (sUs f n)) ^ q ≤ 6 ^ q := Nat.pow_le_pow_left (by omega) q
  have hg0 : 0 < Nat.gcd (6 ^ q) ((6 - popc (sUs f n)) ^ q) := Nat.gcd_pos_of_pos_left _ (Nat.pow_pos (by decide))
  refine WR.of (by decide) (Nat.le_of_ble_eq_true rfl) (fun p e s m below meth c ls A S hr hlk hK hP hD hS hA hl => ?_)
  obtain ⟨hx, hb, hml, hown, hU⟩ := id S
  have hl : lv_has ls 14 [(0, .ref (a 0)), (1, .int (nI q)), (2, .int (nI 1))] := hl
  refine lv_iload_n hx hb dX4_odds_0 rfl (lv_at hl 1 rfl) ?_
  refine lv_i2l hx hb dX4_odds_1 rfl ?_
  refine lv_lconst (v := 0) hx hb dX4_odds_2 (by decide) ?_
  refine lv_ldc2 (v := 23) hx hb hown (hU _ mK_X4_203) dX4_odds_3 ?_
  refine RO.callS S ks_X4_49 (c_X4_isIn l D cI cJ a f σ (nI q) (nI 0) (nI 23)) hK hP ⟨Nat.le_of_ble_eq_true rfl, Nat.le_of_ble_eq_true rfl⟩ hl.1 rfl rfl (Nat.le_of_ble_eq_true rfl) (Nat.zero_le _) (Nat.zero_le _) dX4_odds_6 ?_
  refine q_if_eqB (tgt := 22) hx hb dX4_odds_9 (by decide) (fun h => absurd (⟨nI_le (by omega) (by omega), nI_le (by omega) (by omega)⟩) h) (fun _ => ?_)
  refine lv_iload_n hx hb dX4_odds_12 rfl (lv_at hl 2 rfl) ?_
  refine lv_i2l hx hb dX4_odds_13 rfl ?_
  refine lv_lconst (v := 0) hx hb dX4_odds_14 (by decide) ?_
  refine lv_lconst (v := 1) hx hb dX4_odds_15 (by decide) ?_
  refine RO.callS S ks_X4_49 (c_X4_isIn l D cI cJ a f σ (nI 1) (nI 0) (nI 1)) hK hP ⟨Nat.le_of_ble_eq_true rfl, Nat.le_of_ble_eq_true rfl⟩ hl.1 rfl rfl (Nat.le_of_ble_eq_true rfl) (Nat.zero_le _) (Nat.zero_le _) dX4_odds_16 ?_
  refine q_if_neB (tgt := 30) hx hb dX4_odds_19 (by decide) (fun _ => ?_) (fun h => absurd (⟨nI_le (by omega) (by omega), nI_le (by omega) (by omega)⟩) h)
  refine lv_lconst (v := lN 1) hx hb dX4_odds_30 (by decide) ?_
  refine lv_lstore_n (lv' := [(3, .long (lN 1)), (0, .ref (a 0)), (1, .int (nI q)), (2, .int (nI 1))]) hx hb dX4_odds_31 rfl hl (by decide) rfl (fun ls hl => ?_)
  refine lv_lconst (v := lN 1) hx hb dX4_odds_32 (by decide) ?_
  refine lv_lstore (lv' := [(5, .long (lN 1)), (3, .long (lN 1)), (0, .ref (a 0)), (1, .int (nI q)), (2, .int (nI 1))]) hx hb dX4_odds_33 hl (by decide) rfl (fun ls hl => ?_)
  refine lv_bipush (v := nI 6) hx hb dX4_odds_35 (by decide) ?_
  refine lv_aload_n hx hb dX4_odds_37 rfl (lv_at hl 2 rfl) ?_
  refine RO.callV S kv_X4_137 (c_X4_usedOnes l D cI cJ a f σ n (hw)) hK hP rfl ⟨Nat.le_of_ble_eq_true rfl, Nat.le_of_ble_eq_true rfl⟩ hl.1 rfl rfl (Nat.le_of_ble_eq_true rfl) (Nat.zero_le _) (Nat.zero_le _) dX4_odds_38 ?_
  refine RO.callS S ks_X4_83 (c_X4_many l D cI cJ a f σ (sUs f n) (by omega)) hK hP ⟨Nat.le_of_ble_eq_true rfl, Nat.le_of_ble_eq_true rfl⟩ hl.1 rfl rfl (Nat.le_of_ble_eq_true rfl) (Nat.zero_le _) (Nat.zero_le _) dX4_odds_41 ?_
  refine q_isubN (a := 6) (b := popc (sUs f n)) hx hb dX4_odds_44 (by omega) ?_
  refine lv_istore (lv' := [(7, .int (nI (6 - (popc (sUs f n))))), (5, .long (lN 1)), (3, .long (lN 1)), (0, .ref (a 0)), (1, .int (nI q)), (2, .int (nI 1))]) hx hb dX4_odds_45 hl (by decide) rfl (fun ls hl => ?_)
  refine lv_iconst (v := nI 0) hx hb dX4_odds_47 (by decide) ?_
  refine lv_istore (lv' := [(8, .int (nI 0)), (7, .int (nI (6 - (popc (sUs f n))))), (5, .long (lN 1)), (3, .long (lN 1)), (0, .ref (a 0)), (1, .int (nI q)), (2, .int (nI 1))]) hx hb dX4_odds_48 hl (by decide) rfl (fun ls hl => ?_)
  have L_50 : ∀ (n9 : Nat) (j : Nat) (H : Heap) (locs : List Loc) (ls : Array Slot), q - j < n9 → (j ≤ q) → va_P D vwCl (MW cI a f σ) H → va_D A (MW cI a f σ) → va_S A s.heap H locs → lv_has ls 14 [(0, .ref (a 0)), (1, .int (nI q)), (2, .int (nI 1)), (3, .long (lN ((6 - popc (sUs f n)) ^ j))), (5, .long (lN (6 ^ j))), (7, .int (nI (6 - popc (sUs f n)))), (8, .int (nI j))] → W p l e (rmd 2) s m ([.ref (a 0), .int (nI q), .int (nI 1)] : List Value).toArray below meth c H locs 0 0 (ZW below ([.ref (a 0), .int (nI q), .int (nI 1)] : List Value).toArray s D (some (.long (lN (6 ^ q / Nat.gcd (6 ^ q) ((6 - popc (sUs f n)) ^ q))))) (MW cI a f σ) A) (F0 m 50 ls []) := by
    intro n9
    induction n9 with
    | zero => intro j H locs ls hmeas; exact absurd hmeas (Nat.not_lt_zero _)
    | succ n9 ih_50 =>
      intro j H locs ls hmeas hj hP hD hS hl
      refine lv_iload hx hb dX4_odds_50 (lv_at hl 6 rfl) ?_
      refine lv_iload_n hx hb dX4_odds_52 rfl (lv_at hl 1 rfl) ?_
      refine q_icmp_geN (tgt := 76) (a := j) (b := q) hx hb dX4_odds_53 (by decide) (by omega) (by omega) (fun c_53 => ?_) (fun c_53 => ?_)
      · refine lv_lload hx hb dX4_odds_76 (lv_at hl 4 rfl) ?_
        refine lv_lstore (lv' := [(8, .long (lN (6 ^ j))), (0, .ref (a 0)), (1, .int (nI q)), (2, .int (nI 1)), (3, .long (lN ((6 - popc (sUs f n)) ^ j))), (5, .long (lN (6 ^ j))), (7, .int (nI (6 - popc (sUs f n))))]) hx hb dX4_odds_78 hl (by decide) rfl (fun ls hl => ?_)
        refine lv_lload_n hx hb dX4_odds_80 rfl (lv_at hl 4 rfl) ?_
        refine lv_lstore (lv' := [(10, .long (lN ((6 - popc (sUs f n)) ^ j))), (8, .long (lN (6 ^ j))), (0, .ref (a 0)), (1, .int (nI q)), (2, .int (nI 1)), (3, .long (lN ((6 - popc (sUs f n)) ^ j))), (5, .long (lN (6 ^ j))), (7, .int (nI (6 - popc (sUs f n))))]) hx hb dX4_odds_81 hl (by decide) rfl (fun ls hl => ?_)
        have L_83 : ∀ (n9 : Nat) (x9 : Nat) (y9 : Nat) (H : Heap) (locs : List Loc) (ls : Array Slot), y9 < n9 → (x9 ≤ 6 ^ q) → (y9 ≤ 6 ^ q) → (Nat.gcd x9 y9 = Nat.gcd (6 ^ q) ((6 - popc (sUs f n)) ^ q)) → va_P D vwCl (MW cI a f σ) H → va_D A (MW cI a f σ) → va_S A s.heap H locs → lv_has ls 14 [(0, .ref (a 0)), (2, .int (nI 1)), (3, .long (lN ((6 - popc (sUs f n)) ^ q))), (5, .long (lN (6 ^ q))), (8, .long (lN x9)), (10, .long (lN y9))] → W p l e (rmd 2) s m ([.ref (a 0), .int (nI q), .int (nI 1)] : List Value).toArray below meth c H locs 0 0 (ZW below ([.ref (a 0), .int (nI q), .int (nI 1)] : List Value).toArray s D (some (.long (lN (6 ^ q / Nat.gcd (6 ^ q) ((6 - popc (sUs f n)) ^ q))))) (MW cI a f σ) A) (F0 m 83 ls []) := by
          intro n9
          induction n9 with
          | zero => intro x9 y9 H locs ls hmeas; exact absurd hmeas (Nat.not_lt_zero _)
          | succ n9 ih_83 =>
            intro x9 y9 H locs ls hmeas hx6 hy6 hG hP hD hS hl
            refine lv_lload hx hb dX4_odds_83 (lv_at hl 5 rfl) ?_
            refine lv_lconst (v := lN 0) hx hb dX4_odds_85 (by decide) ?_
            refine W.lcmp hx hb dX4_odds_86 ?_
            refine lv_if_eq (tgt := 108) hx hb dX4_odds_87 (by decide) (fun c_87 => ?_) (fun c_87 => ?_)
            · have hy0 : y9 = 0 := lN_inj0 (by omega) ((lg_cmp_eq _ _).mp c_87)
              have hx9 : x9 = Nat.gcd (6 ^ q) ((6 - popc (sUs f n)) ^ q) := by rw [← hG, hy0, Nat.gcd_zero_right]
              refine lv_iload_n hx hb dX4_odds_108 rfl (lv_at hl 1 rfl) ?_
              refine q_if_neN (tgt := 119) (a := 1) hx hb dX4_odds_109 (by decide) (by omega) (fun _ => ?_) (fun h => absurd h (by omega))
              refine lv_lload hx hb dX4_odds_119 (lv_at hl 3 rfl) ?_
              refine lv_lload hx hb dX4_odds_121 (lv_at hl 4 rfl) ?_
              refine lv_ldiv hx hb dX4_odds_123 (lN_ne0 (by rw [hx9]; exact hg0) (by omega)) ?_
              refine q_eql (y := lN ((6 ^ q) / x9)) (pk_lDiv (by omega) (by rw [hx9]; exact hg0) (by omega)) ?_
              exact WR.lret S hr hlk hP hS (rfl) (congrArg (fun z => some (Value.long z)) (by rw [hx9])) dX4_odds_124
            · have hy0 : 0 < y9 := Nat.pos_of_ne_zero (fun e9 => c_87 (by rw [e9]; exact (lg_cmp_eq _ _).mpr rfl))
              refine lv_lload hx hb dX4_odds_90 (lv_at hl 4 rfl) ?_
              refine lv_lload hx hb dX4_odds_92 (lv_at hl 5 rfl) ?_
              refine lv_lrem hx hb dX4_odds_94 (lN_ne0 (by omega) (by omega)) ?_
              refine q_eql (y := lN (x9 % y9)) (pk_lRem (by omega) (by omega) (by omega)) ?_
              refine lv_lstore (lv' := [(12, .long (lN (x9 % y9))), (0, .ref (a 0)), (2, .int (nI 1)), (3, .long (lN ((6 - popc (sUs f n)) ^ q))), (5, .long (lN (6 ^ q))), (8, .long (lN x9)), (10, .long (lN y9))]) hx hb dX4_odds_95 hl (by decide) rfl (fun ls hl => ?_)
              refine lv_lload hx hb dX4_odds_97 (lv_at hl 6 rfl) ?_
              refine lv_lstore (lv' := [(8, .long (lN y9)), (12, .long (lN (x9 % y9))), (0, .ref (a 0)), (2, .int (nI 1)), (3, .long (lN ((6 - popc (sUs f n)) ^ q))), (5, .long (lN (6 ^ q))), (10, .long (lN y9))]) hx hb dX4_odds_99 hl (by decide) rfl (fun ls hl => ?_)
              refine lv_lload hx hb dX4_odds_101 (lv_at hl 1 rfl) ?_
              refine lv_lstore (lv' := [(10, .long (lN (x9 % y9))), (8, .long (lN y9)), (12, .long (lN (x9 % y9))), (0, .ref (a 0)), (2, .int (nI 1)), (3, .long (lN ((6 - popc (sUs f n)) ^ q))), (5, .long (lN (6 ^ q)))]) hx hb dX4_odds_103 hl (by decide) rfl (fun ls hl => ?_)
              refine lv_goto (tgt := 83) hx hb dX4_odds_105 (by decide) ?_
              exact ih_83 y9 (x9 % y9) _ _ ls (by have := Nat.mod_lt x9 hy0; omega) (hy6) (by have := Nat.mod_lt x9 hy0; omega) (by rw [← hG, Nat.gcd_comm y9 (x9 % y9), ← Nat.gcd_rec, Nat.gcd_comm]) hP hD hS (lv_sub hl [3, 4, 5, 6, 1, 0] rfl)
        exact L_83 (((6 - popc (sUs f n)) ^ q) + 1) (6 ^ q) ((6 - popc (sUs f n)) ^ q) _ _ ls (Nat.lt_succ_self _) (Nat.le_refl _) (hfq) (rfl) hP hD hS (by rw [show lN ((6 - popc (sUs f n)) ^ q) = lN ((6 - popc (sUs f n)) ^ j) from by rw [show j = q by omega], show lN (6 ^ q) = lN (6 ^ j) from by rw [show j = q by omega]]; exact lv_sub hl [2, 4, 5, 6, 1, 0] rfl)
      · refine lv_lload_n hx hb dX4_odds_56 rfl (lv_at hl 3 rfl) ?_
        refine lv_iload hx hb dX4_odds_57 (lv_at hl 5 rfl) ?_
        refine lv_i2l hx hb dX4_odds_59 rfl ?_
        refine q_eql (y := lN (6 - popc (sUs f n))) (nI_l (by omega)) ?_
        refine lv_lmul hx hb dX4_odds_60 ?_
        refine q_eql (y := lN (((6 - popc (sUs f n)) ^ j) * (6 - popc (sUs f n)))) (lN_mul _ _) ?_
        refine lv_lstore_n (lv' := [(3, .long (lN (((6 - popc (sUs f n)) ^ j) * (6 - popc (sUs f n))))), (0, .ref (a 0)), (1, .int (nI q)), (2, .int (nI 1)), (5, .long (lN (6 ^ j))), (7, .int (nI (6 - popc (sUs f n)))), (8, .int (nI j))]) hx hb dX4_odds_61 rfl hl (by decide) rfl (fun ls hl => ?_)
        refine lv_lload hx hb dX4_odds_62 (lv_at hl 4 rfl) ?_
        refine lv_ldc2 (v := lN 6) hx hb hown (hU _ mK_X4_73) dX4_odds_64 ?_
        refine lv_lmul hx hb dX4_odds_67 ?_
        refine q_eql (y := lN ((6 ^ j) * 6)) (lN_mul _ _) ?_
        refine lv_lstore (lv' := [(5, .long (lN ((6 ^ j) * 6))), (3, .long (lN (((6 - popc (sUs f n)) ^ j) * (6 - popc (sUs f n))))), (0, .ref (a 0)), (1, .int (nI q)), (2, .int (nI 1)), (7, .int (nI (6 - popc (sUs f n)))), (8, .int (nI j))]) hx hb dX4_odds_68 hl (by decide) rfl (fun ls hl => ?_)
        refine lv_iinc (v := nI (j + 1)) (lv' := [(8, .int (nI (j + 1))), (5, .long (lN ((6 ^ j) * 6))), (3, .long (lN (((6 - popc (sUs f n)) ^ j) * (6 - popc (sUs f n))))), (0, .ref (a 0)), (1, .int (nI q)), (2, .int (nI 1)), (7, .int (nI (6 - popc (sUs f n))))]) hx hb dX4_odds_70 hl (k := 6) rfl (q_inc _) (by decide) rfl (fun ls hl => ?_)
        refine lv_goto (tgt := 50) hx hb dX4_odds_73 (by decide) ?_
        exact ih_50 (j + 1) _ _ ls (by omega) (by omega) hP hD hS (by rw [show lN ((6 - popc (sUs f n)) ^ (j + 1)) = lN (((6 - popc (sUs f n)) ^ j) * (6 - popc (sUs f n))) from by rw [Nat.pow_succ], show lN (6 ^ (j + 1)) = lN ((6 ^ j) * 6) from by rw [Nat.pow_succ]]; exact lv_sub hl [3, 4, 5, 2, 1, 6, 0] rfl)
  exact L_50 ((q - 0) + 1) 0 _ _ ls (Nat.lt_succ_self _) (Nat.zero_le _) hP hD hS (by rw [show lN ((6 - popc (sUs f n)) ^ 0) = lN 1 from rfl, show lN (6 ^ 0) = lN 1 from rfl]; exact lv_sub hl [4, 5, 6, 3, 2, 1, 0] rfl)
set_option maxRecDepth 100000 in
set_option maxHeartbeats 4000000 in
theorem c_X4_odds_bad (l : Launch) (D : va_G) (cI cJ : ClassId) (a : Nat → Nat) (f : Nat → Int32) (σ : Nat → Nat → Int32) (x : Int32) (y : Int32) (hb0 : ¬ ((nI 0 ≤ x ∧ x ≤ nI 23) ∧ (nI 0 ≤ y ∧ y ≤ nI 1))) : WR l yX4_odds cX4_odds 14 (some .long) 2 D cI cJ (MW cI a f σ) [.ref (a 0), .int x, .int y] (some (.long ((-1000001 : Int32).toInt64))) (MW cI a f (va_up σ 4 (mFi (σ 4) 0))) := by
  refine WR.of (by decide) (Nat.le_of_ble_eq_true rfl) (fun p e s m below meth c ls A S hr hlk hK hP hD hS hA hl => ?_)
  obtain ⟨hx, hb, hml, hown, hU⟩ := id S
  have hl : lv_has ls 14 [(0, .ref (a 0)), (1, .int x), (2, .int y)] := hl
  refine lv_iload_n hx hb dX4_odds_0 rfl (lv_at hl 1 rfl) ?_
  refine lv_i2l hx hb dX4_odds_1 rfl ?_
  refine lv_lconst (v := 0) hx hb dX4_odds_2 (by decide) ?_
  refine lv_ldc2 (v := 23) hx hb hown (hU _ mK_X4_203) dX4_odds_3 ?_
  refine RO.callS S ks_X4_49 (c_X4_isIn l D cI cJ a f σ x (nI 0) (nI 23)) hK hP ⟨Nat.le_of_ble_eq_true rfl, Nat.le_of_ble_eq_true rfl⟩ hl.1 rfl rfl (Nat.le_of_ble_eq_true rfl) (Nat.zero_le _) (Nat.zero_le _) dX4_odds_6 ?_
  refine q_if_eqB (tgt := 22) hx hb dX4_odds_9 (by decide) (fun c_9 => ?_) (fun c_9 => ?_)
  · refine lv_aload_n hx hb dX4_odds_22 rfl (lv_at hl 0 rfl) ?_
    refine lv_ldc (v := (-1000001)) hx hb hown (hU _ mK_X4_37) dX4_odds_23 ?_
    refine WR.callV (w1 := MW cI a f (va_up σ 4 (mFi (σ 4) 0))) S kv_X4_39 (c_X4_fd0 l D cI cJ a f σ) hK hP hD hS hA ([]) ([]) rfl rfl MW_fst rfl ⟨Nat.le_of_ble_eq_true rfl, Nat.le_of_ble_eq_true rfl⟩ hl.1 rfl rfl (Nat.le_of_ble_eq_true rfl) (Nat.zero_le _) (Nat.zero_le _) dX4_odds_25 (fun H locs hP hD hS => ?_)
    refine lv_i2l hx hb dX4_odds_28 rfl ?_
    exact WR.lret S hr hlk hP hS (rfl) rfl dX4_odds_29
  · refine lv_iload_n hx hb dX4_odds_12 rfl (lv_at hl 2 rfl) ?_
    refine lv_i2l hx hb dX4_odds_13 rfl ?_
    refine lv_lconst (v := 0) hx hb dX4_odds_14 (by decide) ?_
    refine lv_lconst (v := 1) hx hb dX4_odds_15 (by decide) ?_
    refine RO.callS S ks_X4_49 (c_X4_isIn l D cI cJ a f σ y (nI 0) (nI 1)) hK hP ⟨Nat.le_of_ble_eq_true rfl, Nat.le_of_ble_eq_true rfl⟩ hl.1 rfl rfl (Nat.le_of_ble_eq_true rfl) (Nat.zero_le _) (Nat.zero_le _) dX4_odds_16 ?_
    refine q_if_neB (tgt := 30) hx hb dX4_odds_19 (by decide) (fun c_19 => ?_) (fun c_19 => ?_)
    · exact absurd (⟨c_9, c_19⟩) hb0
    · refine lv_aload_n hx hb dX4_odds_22 rfl (lv_at hl 0 rfl) ?_
      refine lv_ldc (v := (-1000001)) hx hb hown (hU _ mK_X4_37) dX4_odds_23 ?_
      refine WR.callV (w1 := MW cI a f (va_up σ 4 (mFi (σ 4) 0))) S kv_X4_39 (c_X4_fd0 l D cI cJ a f σ) hK hP hD hS hA ([]) ([]) rfl rfl MW_fst rfl ⟨Nat.le_of_ble_eq_true rfl, Nat.le_of_ble_eq_true rfl⟩ hl.1 rfl rfl (Nat.le_of_ble_eq_true rfl) (Nat.zero_le _) (Nat.zero_le _) dX4_odds_25 (fun H locs hP hD hS => ?_)
      refine lv_i2l hx hb dX4_odds_28 rfl ?_
      exact WR.lret S hr hlk hP hS (rfl) rfl dX4_odds_29

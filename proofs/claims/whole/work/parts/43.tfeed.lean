def tAp (τ : Nat → Nat → Int32) (b : Nat) (x : Int32) : Nat → Nat → Int32 := m0 (va_up τ 1 (upd (τ 1) b x)) 1 (nI (b + 1))
/-- behind j of the q bytes of x -/
def tFd (τ : Nat → Nat → Int32) (b : Nat) (x : Int32) (q j : Nat) : Nat → Nat → Int32 := va_up (va_up τ 1 (fdT (τ 1) b x q j)) 0 (upd (τ 0) 1 (nI (b + j)))
theorem tFd_0 {τ : Nat → Nat → Int32} {b q : Nat} {x : Int32} (h : τ 0 1 = nI b) : tFd τ b x q (q - q) = τ := by
  rw [Nat.sub_self]
  show va_up (va_up τ 1 (τ 1)) 0 (upd (τ 0) 1 (nI b)) = τ
  rw [va_up_self2, ← h, upd_self, va_up_self2]
theorem tFd_s {τ : Nat → Nat → Int32} {b q y : Nat} {x : Int32} (h : y + 1 ≤ q) : tAp (tFd τ b x q (q - (y + 1))) (b + (q - (y + 1))) (byt x y) = tFd τ b x q (q - y) := by
  have e : q - y = (q - (y + 1)) + 1 := by omega
  rw [e]
  generalize hj : q - (y + 1) = j
  have hy : q - 1 - j = y := by omega
  unfold tAp tFd m0
  funext k
  by_cases k0 : k = 0
  · subst k0
    show upd (upd (τ 0) 1 (nI (b + j))) 1 (nI (b + j + 1)) = upd (τ 0) 1 (nI (b + (j + 1)))
    rw [upd_upd]
    rfl
  · by_cases k1 : k = 1
    · subst k1
      show upd (fdT (τ 1) b x q j) (b + j) (byt x y) = fdT (τ 1) b x q (j + 1)
      rw [fdT_s hy]
    · show (if k = 0 then _ else if k = 1 then _ else if k = 0 then _ else if k = 1 then _ else τ k) = (if k = 0 then _ else if k = 1 then _ else τ k)
      rw [if_neg k0, if_neg k1, if_neg k0, if_neg k1, if_neg k0, if_neg k1]
theorem tFd_1 {τ : Nat → Nat → Int32} {b q j : Nat} {x : Int32} : tFd τ b x q j 0 1 = nI (b + j) := by
  show upd (τ 0) 1 (nI (b + j)) 1 = _
  exact upd_at
theorem bv255 (v : BitVec 32) (k : Nat) (hk : k ≤ 24) : (v >>> k) &&& 255#32 = (v.sshiftRight k) &&& 255#32 := by
  apply BitVec.eq_of_getLsbD_eq
  intro i hi
  rw [BitVec.getLsbD_and, BitVec.getLsbD_and, BitVec.getLsbD_ushiftRight, BitVec.getLsbD_sshiftRight]
  by_cases c : i < 8
  · rw [if_pos (show k + i < 32 by omega), show decide (32 ≤ i) = false from decide_eq_false (by omega)]
    rfl
  · have e : (255#32).getLsbD i = false := by
      rw [BitVec.getLsbD_ofNat, Nat.testBit_lt_two_pow (Nat.lt_of_lt_of_le (by decide : 255 < 2 ^ 8) (Nat.pow_le_pow_right (by decide) (by omega))), Bool.and_false]
    rw [e, Bool.and_false, Bool.and_false]
theorem byt_u (x : Int32) (y : Nat) (h : y ≤ 3) : (x.toUInt32 >>> ((nI (8 * y)).toUInt32 &&& Int32.toUInt32 31)).toInt32 &&& nI 255 = byt x y := by
  obtain ⟨⟨v⟩⟩ := x
  match y, h with
  | 0, _ => exact Int32.toBitVec_inj.mp (bv255 v 0 (by decide))
  | 1, _ => exact Int32.toBitVec_inj.mp (bv255 v 8 (by decide))
  | 2, _ => exact Int32.toBitVec_inj.mp (bv255 v 16 (by decide))
  | 3, _ => exact Int32.toBitVec_inj.mp (bv255 v 24 (by decide))
set_option maxRecDepth 100000 in
set_option maxHeartbeats 4000000 in
theorem c_X2_addByte (l : Launch) (D : va_G) (cI cJ : ClassId) (o : Nat → Nat) (τ : Nat → Nat → Int32) (x : Int32) (b : Nat) (hb9 : τ 0 1 = nI b) (hb1 : b < 120) : WR l yX2_addByte cX2_addByte 2 none 0 D cI cJ (TT cI o τ) [.ref (o 0), .int x] (none) (TT cI o (tAp τ b x)) := by
  refine WR.of (by decide) (Nat.le_of_ble_eq_true rfl) (fun p e s m below meth c ls A S hr hlk hK hP hD hS hA hl => ?_)
  obtain ⟨hx, hb, hml, hown, hU⟩ := id S
  have hl : lv_has ls 2 [(0, .ref (o 0)), (1, .int x)] := hl
  refine lv_aload_n hx hb dX2_addByte_0 rfl (lv_at hl 0 rfl) ?_
  refine g22_bytes S hK hP dX2_addByte_1 ?_
  refine lv_aload_n hx hb dX2_addByte_4 rfl (lv_at hl 0 rfl) ?_
  refine g22_length S hK hP dX2_addByte_5 ?_
  refine q_eqi (y := nI b) (hb9) ?_
  refine lv_iload_n hx hb dX2_addByte_8 rfl (lv_at hl 1 rfl) ?_
  refine s2_bytes S hK hP hD hS (j := b) (by omega) dX2_addByte_9 (fun H locs hP hD hS => ?_)
  refine lv_aload_n hx hb dX2_addByte_10 rfl (lv_at hl 0 rfl) ?_
  refine lv_dup hx hb dX2_addByte_11 rfl ?_
  refine g22_length S hK hP dX2_addByte_12 ?_
  refine q_eqi (y := nI b) (hb9) ?_
  refine lv_iconst (v := nI 1) hx hb dX2_addByte_15 (by decide) ?_
  refine q_iaddN (a := b) (b := 1) hx hb dX2_addByte_16 ?_
  refine p22_length S hK hP hD hS dX2_addByte_17 (fun H locs hP hD hS => ?_)
  exact WR.vret S hr hlk hP hS (rfl) dX2_addByte_20
set_option maxRecDepth 100000 in
set_option maxHeartbeats 4000000 in
theorem c_X3_feed_bad (l : Launch) (D : va_G) (cI cJ : ClassId) (t : Nat → Nat) (f g h : Nat → Int32) (τ : Nat → Nat → Int32) (x : Int32) (y : Int32) (hb0 : ¬ ((nI 1 ≤ y ∧ y ≤ nI 4))) : WR l yX3_feed cX3_feed 4 (some .int) 1 D cI cJ (TW cI cJ t f g h τ) [.ref (t 0), .int x, .int y] (some (.int (-1000001))) (TW cI cJ t f g h (va_up τ 9 (cFi (τ 9) 0))) := by
  refine WR.of (by decide) (Nat.le_of_ble_eq_true rfl) (fun p e s m below meth c ls A S hr hlk hK hP hD hS hA hl => ?_)
  obtain ⟨hx, hb, hml, hown, hU⟩ := id S
  have hl : lv_has ls 4 [(0, .ref (t 0)), (1, .int x), (2, .int y)] := hl
  refine lv_iload_n hx hb dX3_feed_0 rfl (lv_at hl 2 rfl) ?_
  refine lv_iconst (v := nI 1) hx hb dX3_feed_1 (by decide) ?_
  refine lv_icmp_lt (tgt := 10) hx hb dX3_feed_2 (by decide) (fun c_2 => ?_) (fun c_2 => ?_)
  · refine lv_aload_n hx hb dX3_feed_10 rfl (lv_at hl 0 rfl) ?_
    refine lv_iconst (v := nI 0) hx hb dX3_feed_11 (by decide) ?_
    refine WR.callV (w1 := TW cI cJ t f g h (va_up τ 9 (cFi (τ 9) 0))) S kv_X3_48 (c_X3_fd0 l D cI cJ t f g h τ) hK hP hD hS hA ([]) ([]) (List.append_nil _).symm (List.append_nil _).symm TW_fst rfl ⟨Nat.le_of_ble_eq_true rfl, Nat.le_of_ble_eq_true rfl⟩ hl.1 rfl rfl (Nat.le_of_ble_eq_true rfl) (Nat.zero_le _) (Nat.zero_le _) dX3_feed_12 (fun H locs hP hD hS => ?_)
    exact WR.iret S hr hlk hP hS (rfl) rfl dX3_feed_15
  · refine lv_iload_n hx hb dX3_feed_5 rfl (lv_at hl 2 rfl) ?_
    refine lv_iconst (v := nI 4) hx hb dX3_feed_6 (by decide) ?_
    refine lv_icmp_le (tgt := 16) hx hb dX3_feed_7 (by decide) (fun c_7 => ?_) (fun c_7 => ?_)
    · exact absurd (⟨i32_le_of_not_lt c_2, c_7⟩) hb0
    · refine lv_aload_n hx hb dX3_feed_10 rfl (lv_at hl 0 rfl) ?_
      refine lv_iconst (v := nI 0) hx hb dX3_feed_11 (by decide) ?_
      refine WR.callV (w1 := TW cI cJ t f g h (va_up τ 9 (cFi (τ 9) 0))) S kv_X3_48 (c_X3_fd0 l D cI cJ t f g h τ) hK hP hD hS hA ([]) ([]) (List.append_nil _).symm (List.append_nil _).symm TW_fst rfl ⟨Nat.le_of_ble_eq_true rfl, Nat.le_of_ble_eq_true rfl⟩ hl.1 rfl rfl (Nat.le_of_ble_eq_true rfl) (Nat.zero_le _) (Nat.zero_le _) dX3_feed_12 (fun H locs hP hD hS => ?_)
      exact WR.iret S hr hlk hP hS (rfl) rfl dX3_feed_15
set_option maxRecDepth 100000 in
set_option maxHeartbeats 4000000 in
theorem c_X3_feed_full (l : Launch) (D : va_G) (cI cJ : ClassId) (t : Nat → Nat) (f g h : Nat → Int32) (τ : Nat → Nat → Int32) (x : Int32) (q : Nat) (b : Nat) (hb9 : τ 0 1 = nI b) (hb120 : b ≤ 120) (hq1 : 1 ≤ q) (hq : q ≤ 4) (hbq : 120 < b + q) : WR l yX3_feed cX3_feed 4 (some .int) 1 D cI cJ (TW cI cJ t f g h τ) [.ref (t 0), .int x, .int (nI q)] (some (.int (-1000002))) (TW cI cJ t f g h (va_up τ 9 (cFi (τ 9) 1))) := by
  refine WR.of (by decide) (Nat.le_of_ble_eq_true rfl) (fun p e s m below meth c ls A S hr hlk hK hP hD hS hA hl => ?_)
  obtain ⟨hx, hb, hml, hown, hU⟩ := id S
  have hl : lv_has ls 4 [(0, .ref (t 0)), (1, .int x), (2, .int (nI q))] := hl
  refine lv_iload_n hx hb dX3_feed_0 rfl (lv_at hl 2 rfl) ?_
  refine lv_iconst (v := nI 1) hx hb dX3_feed_1 (by decide) ?_
  refine q_icmp_ltN (tgt := 10) (a := q) (b := 1) hx hb dX3_feed_2 (by decide) (by omega) (by omega) (fun h => absurd h (by omega)) (fun _ => ?_)
  refine lv_iload_n hx hb dX3_feed_5 rfl (lv_at hl 2 rfl) ?_
  refine lv_iconst (v := nI 4) hx hb dX3_feed_6 (by decide) ?_
  refine q_icmp_leN (tgt := 16) (a := q) (b := 4) hx hb dX3_feed_7 (by decide) (by omega) (by omega) (fun _ => ?_) (fun h => absurd h (by omega))
  refine lv_aload_n hx hb dX3_feed_16 rfl (lv_at hl 0 rfl) ?_
  refine g3_tape S hK hP dX3_feed_17 ?_
  refine g32_length S hK (TW_tape hP) dX3_feed_20 ?_
  refine q_eqi (y := nI b) (hb9) ?_
  refine lv_iload_n hx hb dX3_feed_23 rfl (lv_at hl 2 rfl) ?_
  refine q_iaddN (a := b) (b := q) hx hb dX3_feed_24 ?_
  refine lv_bipush (v := nI 120) hx hb dX3_feed_25 (by decide) ?_
  refine q_icmp_leN (tgt := 36) (a := b + q) (b := 120) hx hb dX3_feed_27 (by decide) (by omega) (by omega) (fun h => absurd h (by omega)) (fun _ => ?_)
  refine lv_aload_n hx hb dX3_feed_30 rfl (lv_at hl 0 rfl) ?_
  refine lv_iconst (v := nI 1) hx hb dX3_feed_31 (by decide) ?_
  refine WR.callV (w1 := TW cI cJ t f g h (va_up τ 9 (cFi (τ 9) 1))) S kv_X3_48 (c_X3_fd1 l D cI cJ t f g h τ) hK hP hD hS hA ([]) ([]) (List.append_nil _).symm (List.append_nil _).symm TW_fst rfl ⟨Nat.le_of_ble_eq_true rfl, Nat.le_of_ble_eq_true rfl⟩ hl.1 rfl rfl (Nat.le_of_ble_eq_true rfl) (Nat.zero_le _) (Nat.zero_le _) dX3_feed_32 (fun H locs hP hD hS => ?_)
  exact WR.iret S hr hlk hP hS (rfl) rfl dX3_feed_35
set_option maxRecDepth 100000 in
set_option maxHeartbeats 4000000 in
theorem c_X3_feed_ok (l : Launch) (D : va_G) (cI cJ : ClassId) (t : Nat → Nat) (f g h : Nat → Int32) (τ : Nat → Nat → Int32) (x : Int32) (q : Nat) (b : Nat) (hb9 : τ 0 1 = nI b) (hb120 : b ≤ 120) (hq1 : 1 ≤ q) (hq : q ≤ 4) (hbq : b + q ≤ 120) : WR l yX3_feed cX3_feed 4 (some .int) 1 D cI cJ (TW cI cJ t f g h τ) [.ref (t 0), .int x, .int (nI q)] (some (.int (nI (b + q)))) (TW cI cJ t f g h (tFd τ b x q q)) := by
  refine WR.of (by decide) (Nat.le_of_ble_eq_true rfl) (fun p e s m below meth c ls A S hr hlk hK hP hD hS hA hl => ?_)
  obtain ⟨hx, hb, hml, hown, hU⟩ := id S
  have hl : lv_has ls 4 [(0, .ref (t 0)), (1, .int x), (2, .int (nI q))] := hl
  refine lv_iload_n hx hb dX3_feed_0 rfl (lv_at hl 2 rfl) ?_
  refine lv_iconst (v := nI 1) hx hb dX3_feed_1 (by decide) ?_
  refine q_icmp_ltN (tgt := 10) (a := q) (b := 1) hx hb dX3_feed_2 (by decide) (by omega) (by omega) (fun h => absurd h (by omega)) (fun _ => ?_)
  refine lv_iload_n hx hb dX3_feed_5 rfl (lv_at hl 2 rfl) ?_
  refine lv_iconst (v := nI 4) hx hb dX3_feed_6 (by decide) ?_
  refine q_icmp_leN (tgt := 16) (a := q) (b := 4) hx hb dX3_feed_7 (by decide) (by omega) (by omega) (fun _ => ?_) (fun h => absurd h (by omega))
  refine lv_aload_n hx hb dX3_feed_16 rfl (lv_at hl 0 rfl) ?_
  refine g3_tape S hK hP dX3_feed_17 ?_
  refine g32_length S hK (TW_tape hP) dX3_feed_20 ?_
  refine q_eqi (y := nI b) (hb9) ?_
  refine lv_iload_n hx hb dX3_feed_23 rfl (lv_at hl 2 rfl) ?_
  refine q_iaddN (a := b) (b := q) hx hb dX3_feed_24 ?_
  refine lv_bipush (v := nI 120) hx hb dX3_feed_25 (by decide) ?_
  refine q_icmp_leN (tgt := 36) (a := b + q) (b := 120) hx hb dX3_feed_27 (by decide) (by omega) (by omega) (fun _ => ?_) (fun h => absurd h (by omega))
  refine lv_iload_n hx hb dX3_feed_36 rfl (lv_at hl 2 rfl) ?_
  refine lv_iconst (v := nI 1) hx hb dX3_feed_37 (by decide) ?_
  refine q_isubN (a := q) (b := 1) hx hb dX3_feed_38 (by omega) ?_
  refine lv_istore_n (lv' := [(3, .int (nI (q - 1))), (0, .ref (t 0)), (1, .int x), (2, .int (nI q))]) hx hb dX3_feed_39 rfl hl (by decide) rfl (fun ls hl => ?_)
  have L_40 : ∀ (n9 : Nat) (y : Nat) (H : Heap) (locs : List Loc) (ls : Array Slot), y < n9 → (y ≤ q) → va_P D vwCl (TW cI cJ t f g h (tFd τ b x q (q - y))) H → va_D A (TW cI cJ t f g h (tFd τ b x q (q - y))) → va_S A s.heap H locs → lv_has ls 4 [(0, .ref (t 0)), (1, .int x), (3, .int (pm y))] → W p l e (rmd 1) s m ([.ref (t 0), .int x, .int (nI q)] : List Value).toArray below meth c H locs 0 0 (ZW below ([.ref (t 0), .int x, .int (nI q)] : List Value).toArray s D (some (.int (nI (b + q)))) (TW cI cJ t f g h (tFd τ b x q q)) A) (F0 m 40 ls []) := by
    intro n9
    induction n9 with
    | zero => intro y H locs ls hmeas; exact absurd hmeas (Nat.not_lt_zero _)
    | succ n9 ih_40 =>
      intro y H locs ls hmeas hy hP hD hS hl
      cases y with
      | zero =>
        have hl : lv_has ls 4 [(0, .ref (t 0)), (1, .int x), (3, .int (-1))] := hl
        refine lv_iload_n hx hb dX3_feed_40 rfl (lv_at hl 2 rfl) ?_
        refine lv_if_lt (tgt := 67) hx hb dX3_feed_41 (by decide) (fun _ => ?_) (fun h => absurd (by decide) h)
        refine lv_aload_n hx hb dX3_feed_67 rfl (lv_at hl 0 rfl) ?_
        refine g3_tape S hK hP dX3_feed_68 ?_
        refine g32_length S hK (TW_tape hP) dX3_feed_71 ?_
        refine q_eqi (y := nI (b + (q - 0))) (tFd_1) ?_
        exact WR.iret S hr hlk hP hS (rfl) rfl dX3_feed_74
      | succ y =>
        have hl : lv_has ls 4 [(0, .ref (t 0)), (1, .int x), (3, .int (nI y))] := hl
        have hb9 : tFd τ b x q (q - (y + 1)) 0 1 = nI (b + (q - (y + 1))) := tFd_1
        refine lv_iload_n hx hb dX3_feed_40 rfl (lv_at hl 2 rfl) ?_
        refine q_if_ltN (tgt := 67) (a := y) hx hb dX3_feed_41 (by decide) (by omega) ?_
        refine lv_aload_n hx hb dX3_feed_44 rfl (lv_at hl 0 rfl) ?_
        refine g3_tape S hK hP dX3_feed_45 ?_
        refine lv_iload_n hx hb dX3_feed_48 rfl (lv_at hl 1 rfl) ?_
        refine lv_bipush (v := nI 8) hx hb dX3_feed_49 (by decide) ?_
        refine lv_iload_n hx hb dX3_feed_51 rfl (lv_at hl 2 rfl) ?_
        refine q_imulN (a := 8) (b := y) hx hb dX3_feed_52 ?_
        refine lv_iushr hx hb dX3_feed_53 rfl ?_
        refine lv_sipush (v := nI 255) hx hb dX3_feed_54 (by decide) ?_
        refine lv_iand hx hb dX3_feed_57 ?_
        refine q_eqi (y := byt x y) (byt_u x y (by omega)) ?_
        refine WR.callV (w1 := TW cI cJ t f g h (tAp (tFd τ b x q (q - (y + 1))) (b + (q - (y + 1))) (byt x y))) S kv_X3_175 (c_X2_addByte l D cI cJ (sf t 34) (tFd τ b x q (q - (y + 1))) (byt x y) (b + (q - (y + 1))) (hb9) (by omega)) hK hP hD hS hA (_) (_) TW_s4 TW_s4 TT_fst rfl ⟨Nat.le_of_ble_eq_true rfl, Nat.le_of_ble_eq_true rfl⟩ hl.1 rfl rfl (Nat.le_of_ble_eq_true rfl) (Nat.zero_le _) (Nat.zero_le _) dX3_feed_58 (fun H locs hP hD hS => ?_)
        refine W.eq (g2 := F0 m 61 ls []) rfl ?_
        refine lv_iinc (v := nI y + Int32.ofInt (-1)) (lv' := [(3, .int (nI y + Int32.ofInt (-1))), (0, .ref (t 0)), (1, .int x)]) hx hb dX3_feed_61 hl (k := 2) rfl rfl (by decide) rfl (fun ls hl => ?_)
        refine lv_goto (tgt := 40) hx hb dX3_feed_64 (by decide) ?_
        have e9 : tAp (tFd τ b x q (q - (y + 1))) (b + (q - (y + 1))) (byt x y) = tFd τ b x q (q - y) := tFd_s (by omega)
        rw [e9] at hP hD
        exact ih_40 y _ _ ls (by omega) (by omega) hP hD hS (by rw [show pm y = nI y + Int32.ofInt (-1) from pm_dec (by omega)]; exact lv_sub hl [1, 2, 0] rfl)
  exact L_40 (q + 1) q _ _ ls (Nat.lt_succ_self _) (Nat.le_refl _) (by rw [tFd_0 hb9]; exact hP) (by rw [tFd_0 hb9]; exact hD) hS (by rw [show pm q = nI (q - 1) from by cases q with | zero => omega | succ q => rfl]; exact lv_sub hl [1, 2, 0] rfl)

/-- one less, -1 for none -/
def dnI (u : Nat) : Int32 := match u with
  | 0 => -1
  | v + 1 => nI v
theorem dnI_s (v : Nat) : nI v + Int32.ofInt (-1) = dnI v := by
  cases v
  · decide
  · exact pk_m1 _
theorem lbS_up {f : Nat → Int32} {k w v : Nat} {x : Int32} : upd (lbS f k w v) (16 + 7 * k + w) x = fu f k w x := lbS_fu
set_option maxRecDepth 100000 in
set_option maxHeartbeats 4000000 in
theorem c_X4_orNone_some (l : Launch) (D : va_G) (cI cJ : ClassId) (a : Nat → Nat) (f : Nat → Int32) (σ : Nat → Nat → Int32) (b : Nat) (hb9 : b < 2147483648) : WR l yX4_orNone cX4_orNone 2 (some .int) 1 D cI cJ (MW cI a f σ) [.ref (a 0), .int (nI b)] (some (.int (nI b))) (MW cI a f σ) := by
  refine WR.of (by decide) (Nat.le_of_ble_eq_true rfl) (fun p e s m below meth c ls A S hr hlk hK hP hD hS hA hl => ?_)
  obtain ⟨hx, hb, hml, hown, hU⟩ := id S
  have hl : lv_has ls 2 [(0, .ref (a 0)), (1, .int (nI b))] := hl
  refine lv_iload_n hx hb dX4_orNone_0 rfl (lv_at hl 1 rfl) ?_
  refine q_if_geN (tgt := 13) (a := b) hx hb dX4_orNone_1 (by decide) (by omega) ?_
  refine lv_iload_n hx hb dX4_orNone_13 rfl (lv_at hl 1 rfl) ?_
  exact WR.iret S hr hlk hP hS (rfl) rfl dX4_orNone_14
set_option maxRecDepth 100000 in
set_option maxHeartbeats 4000000 in
theorem c_X4_orNone_none (l : Launch) (D : va_G) (cI cJ : ClassId) (a : Nat → Nat) (f : Nat → Int32) (σ : Nat → Nat → Int32) : WR l yX4_orNone cX4_orNone 2 (some .int) 1 D cI cJ (MW cI a f σ) [.ref (a 0), .int (-1)] (some (.int (-1000004))) (MW cI a f (va_up σ 4 (mFi (σ 4) 3))) := by
  refine WR.of (by decide) (Nat.le_of_ble_eq_true rfl) (fun p e s m below meth c ls A S hr hlk hK hP hD hS hA hl => ?_)
  obtain ⟨hx, hb, hml, hown, hU⟩ := id S
  have hl : lv_has ls 2 [(0, .ref (a 0)), (1, .int (-1))] := hl
  refine lv_iload_n hx hb dX4_orNone_0 rfl (lv_at hl 1 rfl) ?_
  refine lv_if_ge (tgt := 13) hx hb dX4_orNone_1 (by decide) (fun h => absurd h (by decide)) (fun _ => ?_)
  refine lv_aload_n hx hb dX4_orNone_4 rfl (lv_at hl 0 rfl) ?_
  refine lv_ldc (v := (-1000004)) hx hb hown (hU _ mK_X4_38) dX4_orNone_5 ?_
  refine WR.callV (w1 := MW cI a f (va_up σ 4 (mFi (σ 4) 3))) S kv_X4_39 (c_X4_fd3 l D cI cJ a f σ) hK hP hD hS hA ([]) ([]) rfl rfl rfl rfl ⟨Nat.le_of_ble_eq_true rfl, Nat.le_of_ble_eq_true rfl⟩ hl.1 rfl rfl (Nat.le_of_ble_eq_true rfl) (Nat.zero_le _) (Nat.zero_le _) dX4_orNone_7 (fun H locs hP hD hS => ?_)
  refine lv_goto (tgt := 14) hx hb dX4_orNone_10 (by decide) ?_
  exact WR.iret S hr hlk hP hS (rfl) rfl dX4_orNone_14
set_option maxRecDepth 100000 in
set_option maxHeartbeats 4000000 in
theorem c_X4_bursts_ok (l : Launch) (D : va_G) (cI cJ : ClassId) (a : Nat → Nat) (f : Nat → Int32) (σ : Nat → Nat → Int32) (k : Nat) (n : Nat) (hw : Wk f n) (d : Nat) (hd : f 1 = nI d) (hk : k < n) (hd2 : d + 101 ≤ 99999) : WR l yX4_bursts cX4_bursts 4 (some .int) 5 D cI cJ (MW cI a f σ) [.ref (a 0), .int (nI k)] (some (.int (aN (oBu f n k)))) (MW cI a f (sgN (va_up σ 3 f) (oBu f n k))) := by
  have h8 := hw.2.1
  have hw0 := hw
  have hd0 := hd
  refine WR.of (by decide) (Nat.le_of_ble_eq_true rfl) (fun p e s m below meth c ls A S hr hlk hK hP hD hS hA hl => ?_)
  obtain ⟨hx, hb, hml, hown, hU⟩ := id S
  have hl : lv_has ls 4 [(0, .ref (a 0)), (1, .int (nI k))] := hl
  refine lv_aload_n hx hb dX4_bursts_0 rfl (lv_at hl 0 rfl) ?_
  refine lv_iload_n hx hb dX4_bursts_1 rfl (lv_at hl 1 rfl) ?_
  refine RO.callV S kv_X4_86 (c_X4_isCask l D cI cJ a f σ (nI k) n (hw.1)) hK hP rfl ⟨Nat.le_of_ble_eq_true rfl, Nat.le_of_ble_eq_true rfl⟩ hl.1 rfl rfl (Nat.le_of_ble_eq_true rfl) (Nat.zero_le _) (Nat.zero_le _) dX4_bursts_2 ?_
  refine q_if_neB (tgt := 15) hx hb dX4_bursts_5 (by decide) (fun _ => ?_) (fun h => absurd (⟨nI_pos' (by omega), nI_lt (by omega) (by omega)⟩) h)
  refine lv_aload_n hx hb dX4_bursts_15 rfl (lv_at hl 0 rfl) ?_
  refine g4_s S hK hP dX4_bursts_16 ?_
  refine lv_aload_n hx hb dX4_bursts_19 rfl (lv_at hl 0 rfl) ?_
  refine g4_aside S hK hP dX4_bursts_20 ?_
  refine WR.callS (w1 := MW cI a f (va_up σ 3 f)) S ks_X4_140 (c_X4_copyRow_s_aside l D cI cJ a f σ) hK hP hD hS hA ([]) ([]) rfl rfl rfl ⟨Nat.le_of_ble_eq_true rfl, Nat.le_of_ble_eq_true rfl⟩ hl.1 rfl rfl (Nat.le_of_ble_eq_true rfl) (Nat.zero_le _) (Nat.zero_le _) dX4_bursts_23 (fun H locs hP hD hS => ?_)
  refine W.eq (g2 := F0 m 26 ls []) rfl ?_
  refine lv_aload_n hx hb dX4_bursts_26 rfl (lv_at hl 0 rfl) ?_
  refine lv_iload_n hx hb dX4_bursts_27 rfl (lv_at hl 1 rfl) ?_
  refine lv_bipush (v := nI 6) hx hb dX4_bursts_28 (by decide) ?_
  refine RO.callV S kv_X4_57 (c_X4_its l D cI cJ a f (va_up σ 3 f) k 6 (by omega)) hK hP rfl ⟨Nat.le_of_ble_eq_true rfl, Nat.le_of_ble_eq_true rfl⟩ hl.1 rfl rfl (Nat.le_of_ble_eq_true rfl) (Nat.zero_le _) (Nat.zero_le _) dX4_bursts_30 ?_
  refine lv_istore_n (lv' := [(2, .int (fi f k 6)), (0, .ref (a 0)), (1, .int (nI k))]) hx hb dX4_bursts_33 rfl hl (by decide) rfl (fun ls hl => ?_)
  refine lv_iconst (v := nI 0) hx hb dX4_bursts_34 (by decide) ?_
  refine lv_istore_n (lv' := [(3, .int (nI 0)), (2, .int (fi f k 6)), (0, .ref (a 0)), (1, .int (nI k))]) hx hb dX4_bursts_35 rfl hl (by decide) rfl (fun ls hl => ?_)
  have L_36 : ∀ (n9 : Nat) (j : Nat) (H : Heap) (locs : List Loc) (ls : Array Slot), 101 - j < n9 → j ≤ 101 → Wk (sGo f n j) n → sGo f n j 1 = nI (d + j) → fst1 (fun t => decide (¬ fi (sGo f n t) k 6 = fi f k 6)) (101 - j) j = oBu f n k → va_P D vwCl (MW cI a (sGo f n j) (va_up σ 3 f)) H → va_D A (MW cI a (sGo f n j) (va_up σ 3 f)) → va_S A s.heap H locs → lv_has ls 4 [(0, .ref (a 0)), (1, .int (nI k)), (2, .int (fi f k 6)), (3, .int (nI j))] → W p l e (rmd 5) s m ([.ref (a 0), .int (nI k)] : List Value).toArray below meth c H locs 0 0 (ZW below ([.ref (a 0), .int (nI k)] : List Value).toArray s D (some (.int (aN (oBu f n k)))) (MW cI a f (sgN (va_up σ 3 f) (oBu f n k))) A) (F0 m 36 ls []) := by
    intro n9
    induction n9 with
    | zero => intro j H locs ls hm; exact absurd hm (Nat.not_lt_zero _)
    | succ n9 ih_36 =>
      intro j H locs ls hm hj hw hd hR hP hD hS hl
      refine lv_iload_n hx hb dX4_bursts_36 rfl (lv_at hl 3 rfl) ?_
      refine lv_bipush (v := nI 100) hx hb dX4_bursts_37 (by decide) ?_
      refine q_icmp_gtN (tgt := 63) (a := j) (b := 100) hx hb dX4_bursts_39 (by decide) (by omega) (by omega) (fun c_39 => ?_) (fun c_39 => ?_)
      · have hE : oBu f n k = none := by rw [← hR, show 101 - j = 0 by omega]; rfl
        refine lv_aload_n hx hb dX4_bursts_63 rfl (lv_at hl 0 rfl) ?_
        refine g4_aside S hK hP dX4_bursts_64 ?_
        refine lv_aload_n hx hb dX4_bursts_67 rfl (lv_at hl 0 rfl) ?_
        refine g4_s S hK hP dX4_bursts_68 ?_
        refine WR.callS (w1 := MW cI a f (va_up σ 3 f)) S ks_X4_140 (c_X4_copyRow_aside_s l D cI cJ a (sGo f n j) (va_up σ 3 f)) hK hP hD hS hA ([]) ([]) rfl rfl rfl ⟨Nat.le_of_ble_eq_true rfl, Nat.le_of_ble_eq_true rfl⟩ hl.1 rfl rfl (Nat.le_of_ble_eq_true rfl) (Nat.zero_le _) (Nat.zero_le _) dX4_bursts_71 (fun H locs hP hD hS => ?_)
        refine W.eq (g2 := F0 m 74 ls []) rfl ?_
        refine lv_iload_n hx hb dX4_bursts_74 rfl (lv_at hl 3 rfl) ?_
        refine lv_bipush (v := nI 100) hx hb dX4_bursts_75 (by decide) ?_
        refine q_icmp_gtN (tgt := 84) (a := j) (b := 100) hx hb dX4_bursts_77 (by decide) (by omega) (by omega) (fun c_77 => ?_) (fun c_77 => ?_)
        · refine lv_aload_n hx hb dX4_bursts_84 rfl (lv_at hl 0 rfl) ?_
          refine lv_ldc (v := (-1000004)) hx hb hown (hU _ mK_X4_38) dX4_bursts_85 ?_
          refine WR.callV (w1 := MW cI a f (va_up (va_up σ 3 f) 4 (mFi ((va_up σ 3 f) 4) 3))) S kv_X4_39 (c_X4_fd3 l D cI cJ a f (va_up σ 3 f)) hK hP hD hS hA ([]) ([]) rfl rfl rfl rfl ⟨Nat.le_of_ble_eq_true rfl, Nat.le_of_ble_eq_true rfl⟩ hl.1 rfl rfl (Nat.le_of_ble_eq_true rfl) (Nat.zero_le _) (Nat.zero_le _) dX4_bursts_87 (fun H locs hP hD hS => ?_)
          exact WR.iret S hr hlk hP hS (by rw [hE]; rfl) (congrArg (fun z => some (Value.int z)) (by rw [hE]; rfl)) dX4_bursts_90
        · exact absurd c_77 (by omega)
      · refine lv_aload_n hx hb dX4_bursts_42 rfl (lv_at hl 0 rfl) ?_
        refine lv_iload_n hx hb dX4_bursts_43 rfl (lv_at hl 1 rfl) ?_
        refine lv_bipush (v := nI 6) hx hb dX4_bursts_44 (by decide) ?_
        refine RO.callV S kv_X4_57 (c_X4_its l D cI cJ a (sGo f n j) (va_up σ 3 f) k 6 (by omega)) hK hP rfl ⟨Nat.le_of_ble_eq_true rfl, Nat.le_of_ble_eq_true rfl⟩ hl.1 rfl rfl (Nat.le_of_ble_eq_true rfl) (Nat.zero_le _) (Nat.zero_le _) dX4_bursts_46 ?_
        refine lv_iload_n hx hb dX4_bursts_49 rfl (lv_at hl 2 rfl) ?_
        refine lv_icmp_ne (tgt := 63) hx hb dX4_bursts_50 (by decide) (fun c_50 => ?_) (fun c_50 => ?_)
        · have hE : oBu f n k = some j := by rw [← hR, show 101 - j = (101 - (j + 1)) + 1 by omega, fst1_hit (by simpa using c_50)]
          refine lv_aload_n hx hb dX4_bursts_63 rfl (lv_at hl 0 rfl) ?_
          refine g4_aside S hK hP dX4_bursts_64 ?_
          refine lv_aload_n hx hb dX4_bursts_67 rfl (lv_at hl 0 rfl) ?_
          refine g4_s S hK hP dX4_bursts_68 ?_
          refine WR.callS (w1 := MW cI a f (va_up σ 3 f)) S ks_X4_140 (c_X4_copyRow_aside_s l D cI cJ a (sGo f n j) (va_up σ 3 f)) hK hP hD hS hA ([]) ([]) rfl rfl rfl ⟨Nat.le_of_ble_eq_true rfl, Nat.le_of_ble_eq_true rfl⟩ hl.1 rfl rfl (Nat.le_of_ble_eq_true rfl) (Nat.zero_le _) (Nat.zero_le _) dX4_bursts_71 (fun H locs hP hD hS => ?_)
          refine W.eq (g2 := F0 m 74 ls []) rfl ?_
          refine lv_iload_n hx hb dX4_bursts_74 rfl (lv_at hl 3 rfl) ?_
          refine lv_bipush (v := nI 100) hx hb dX4_bursts_75 (by decide) ?_
          refine q_icmp_gtN (tgt := 84) (a := j) (b := 100) hx hb dX4_bursts_77 (by decide) (by omega) (by omega) (fun c_77 => ?_) (fun c_77 => ?_)
          · exact absurd c_77 (by omega)
          · refine lv_iload_n hx hb dX4_bursts_80 rfl (lv_at hl 3 rfl) ?_
            refine lv_goto (tgt := 90) hx hb dX4_bursts_81 (by decide) ?_
            exact WR.iret S hr hlk hP hS (by rw [hE]; rfl) (congrArg (fun z => some (Value.int z)) (by rw [hE]; rfl)) dX4_bursts_90
        · refine lv_aload_n hx hb dX4_bursts_53 rfl (lv_at hl 0 rfl) ?_
          refine WR.callV (w1 := MW cI a (sDy (sGo f n j) n) (va_up σ 3 f)) S kv_X4_119 (c_X4_day l D cI cJ a (sGo f n j) (va_up σ 3 f) n (hw) (d + j) (hd) (by omega)) hK hP hD hS hA ([]) ([]) rfl rfl rfl rfl ⟨Nat.le_of_ble_eq_true rfl, Nat.le_of_ble_eq_true rfl⟩ hl.1 rfl rfl (Nat.le_of_ble_eq_true rfl) (Nat.zero_le _) (Nat.zero_le _) dX4_bursts_54 (fun H locs hP hD hS => ?_)
          refine W.eq (g2 := F0 m 57 ls []) rfl ?_
          refine lv_iinc (v := nI (j + 1)) (lv' := [(3, .int (nI (j + 1))), (0, .ref (a 0)), (1, .int (nI k)), (2, .int (fi f k 6))]) hx hb dX4_bursts_57 hl (k := 3) rfl (q_inc _) (by decide) rfl (fun ls hl => ?_)
          refine lv_goto (tgt := 36) hx hb dX4_bursts_60 (by decide) ?_
          exact ih_36 (j + 1) _ _ ls (by omega) (by omega) (hw0.kl (sGo_kl h8)) (sGo_1 h8 hd0) (by rw [← hR, show 101 - j = (101 - (j + 1)) + 1 by omega, fst1_go (by simpa using c_50)]) hP hD hS (lv_sub hl [1, 2, 3, 0] rfl)
  exact L_36 ((101 - 0) + 1) 0 _ _ ls (Nat.lt_succ_self _) (by omega) (hw) (hd) (rfl) hP hD hS (lv_sub hl [2, 3, 1, 0] rfl)
set_option maxRecDepth 100000 in
set_option maxHeartbeats 4000000 in
theorem c_X4_bursts_bad (l : Launch) (D : va_G) (cI cJ : ClassId) (a : Nat → Nat) (f : Nat → Int32) (σ : Nat → Nat → Int32) (x : Int32) (n : Nat) (hw : Wk f n) (hb0 : ¬ ((0 ≤ x ∧ x < nI n))) : WR l yX4_bursts cX4_bursts 4 (some .int) 5 D cI cJ (MW cI a f σ) [.ref (a 0), .int x] (some (.int (-1000001))) (MW cI a f (va_up σ 4 (mFi (σ 4) 0))) := by
  refine WR.of (by decide) (Nat.le_of_ble_eq_true rfl) (fun p e s m below meth c ls A S hr hlk hK hP hD hS hA hl => ?_)
  obtain ⟨hx, hb, hml, hown, hU⟩ := id S
  have hl : lv_has ls 4 [(0, .ref (a 0)), (1, .int x)] := hl
  refine lv_aload_n hx hb dX4_bursts_0 rfl (lv_at hl 0 rfl) ?_
  refine lv_iload_n hx hb dX4_bursts_1 rfl (lv_at hl 1 rfl) ?_
  refine RO.callV S kv_X4_86 (c_X4_isCask l D cI cJ a f σ x n (hw.1)) hK hP rfl ⟨Nat.le_of_ble_eq_true rfl, Nat.le_of_ble_eq_true rfl⟩ hl.1 rfl rfl (Nat.le_of_ble_eq_true rfl) (Nat.zero_le _) (Nat.zero_le _) dX4_bursts_2 ?_
  refine q_if_neB (tgt := 15) hx hb dX4_bursts_5 (by decide) (fun c_5 => ?_) (fun c_5 => ?_)
  · exact absurd (c_5) hb0
  · refine lv_aload_n hx hb dX4_bursts_8 rfl (lv_at hl 0 rfl) ?_
    refine lv_ldc (v := (-1000001)) hx hb hown (hU _ mK_X4_37) dX4_bursts_9 ?_
    refine WR.callV (w1 := MW cI a f (va_up σ 4 (mFi (σ 4) 0))) S kv_X4_39 (c_X4_fd0 l D cI cJ a f σ) hK hP hD hS hA ([]) ([]) rfl rfl rfl rfl ⟨Nat.le_of_ble_eq_true rfl, Nat.le_of_ble_eq_true rfl⟩ hl.1 rfl rfl (Nat.le_of_ble_eq_true rfl) (Nat.zero_le _) (Nat.zero_le _) dX4_bursts_11 (fun H locs hP hD hS => ?_)
    exact WR.iret S hr hlk hP hS (rfl) rfl dX4_bursts_14
set_option maxRecDepth 100000 in
set_option maxHeartbeats 4000000 in
theorem c_X4_when_ok (l : Launch) (D : va_G) (cI cJ : ClassId) (a : Nat → Nat) (f : Nat → Int32) (σ : Nat → Nat → Int32) (k : Nat) (v : Nat) (n : Nat) (hw : Wk f n) (d : Nat) (hd : f 1 = nI d) (hk : k < n) (hv : v ≤ 2000) (hd2 : d + 101 ≤ 99999) : WR l yX4_when cX4_when 4 (some .int) 5 D cI cJ (MW cI a f σ) [.ref (a 0), .int (nI k), .int (nI v)] (some (.int (aN (oWh f n k (nI v))))) (MW cI a f (sgN (va_up σ 3 f) (oWh f n k (nI v)))) := by
  have h8 := hw.2.1
  have hw0 := hw
  have hd0 := hd
  refine WR.of (by decide) (Nat.le_of_ble_eq_true rfl) (fun p e s m below meth c ls A S hr hlk hK hP hD hS hA hl => ?_)
  obtain ⟨hx, hb, hml, hown, hU⟩ := id S
  have hl : lv_has ls 4 [(0, .ref (a 0)), (1, .int (nI k)), (2, .int (nI v))] := hl
  refine lv_aload_n hx hb dX4_when_0 rfl (lv_at hl 0 rfl) ?_
  refine lv_iload_n hx hb dX4_when_1 rfl (lv_at hl 1 rfl) ?_
  refine RO.callV S kv_X4_86 (c_X4_isCask l D cI cJ a f σ (nI k) n (hw.1)) hK hP rfl ⟨Nat.le_of_ble_eq_true rfl, Nat.le_of_ble_eq_true rfl⟩ hl.1 rfl rfl (Nat.le_of_ble_eq_true rfl) (Nat.zero_le _) (Nat.zero_le _) dX4_when_2 ?_
  refine q_if_eqB (tgt := 20) hx hb dX4_when_5 (by decide) (fun h => absurd (⟨nI_pos' (by omega), nI_lt (by omega) (by omega)⟩) h) (fun _ => ?_)
  refine lv_iload_n hx hb dX4_when_8 rfl (lv_at hl 2 rfl) ?_
  refine lv_i2l hx hb dX4_when_9 rfl ?_
  refine lv_lconst (v := 0) hx hb dX4_when_10 (by decide) ?_
  refine lv_ldc2 (v := 2000) hx hb hown (hU _ mK_X4_157) dX4_when_11 ?_
  refine RO.callS S ks_X4_49 (c_X4_isIn l D cI cJ a f σ (nI v) (nI 0) (nI 2000)) hK hP ⟨Nat.le_of_ble_eq_true rfl, Nat.le_of_ble_eq_true rfl⟩ hl.1 rfl rfl (Nat.le_of_ble_eq_true rfl) (Nat.zero_le _) (Nat.zero_le _) dX4_when_14 ?_
  refine q_if_neB (tgt := 27) hx hb dX4_when_17 (by decide) (fun _ => ?_) (fun h => absurd (⟨nI_le (by omega) (by omega), nI_le (by omega) (by omega)⟩) h)
  refine lv_aload_n hx hb dX4_when_27 rfl (lv_at hl 0 rfl) ?_
  refine g4_s S hK hP dX4_when_28 ?_
  refine lv_aload_n hx hb dX4_when_31 rfl (lv_at hl 0 rfl) ?_
  refine g4_aside S hK hP dX4_when_32 ?_
  refine WR.callS (w1 := MW cI a f (va_up σ 3 f)) S ks_X4_140 (c_X4_copyRow_s_aside l D cI cJ a f σ) hK hP hD hS hA ([]) ([]) rfl rfl rfl ⟨Nat.le_of_ble_eq_true rfl, Nat.le_of_ble_eq_true rfl⟩ hl.1 rfl rfl (Nat.le_of_ble_eq_true rfl) (Nat.zero_le _) (Nat.zero_le _) dX4_when_35 (fun H locs hP hD hS => ?_)
  refine W.eq (g2 := F0 m 38 ls []) rfl ?_
  refine lv_iconst (v := nI 0) hx hb dX4_when_38 (by decide) ?_
  refine lv_istore_n (lv' := [(3, .int (nI 0)), (0, .ref (a 0)), (1, .int (nI k)), (2, .int (nI v))]) hx hb dX4_when_39 rfl hl (by decide) rfl (fun ls hl => ?_)
  have L_40 : ∀ (n9 : Nat) (j : Nat) (H : Heap) (locs : List Loc) (ls : Array Slot), 101 - j < n9 → j ≤ 101 → Wk (sGo f n j) n → sGo f n j 1 = nI (d + j) → fst1 (fun t => decide (nI v ≤ sLd (sGo f n t) n k)) (101 - j) j = oWh f n k (nI v) → va_P D vwCl (MW cI a (sGo f n j) (va_up σ 3 f)) H → va_D A (MW cI a (sGo f n j) (va_up σ 3 f)) → va_S A s.heap H locs → lv_has ls 4 [(0, .ref (a 0)), (1, .int (nI k)), (2, .int (nI v)), (3, .int (nI j))] → W p l e (rmd 5) s m ([.ref (a 0), .int (nI k), .int (nI v)] : List Value).toArray below meth c H locs 0 0 (ZW below ([.ref (a 0), .int (nI k), .int (nI v)] : List Value).toArray s D (some (.int (aN (oWh f n k (nI v))))) (MW cI a f (sgN (va_up σ 3 f) (oWh f n k (nI v)))) A) (F0 m 40 ls []) := by
    intro n9
    induction n9 with
    | zero => intro j H locs ls hm; exact absurd hm (Nat.not_lt_zero _)
    | succ n9 ih_40 =>
      intro j H locs ls hm hj hw hd hR hP hD hS hl
      refine lv_iload_n hx hb dX4_when_40 rfl (lv_at hl 3 rfl) ?_
      refine lv_bipush (v := nI 100) hx hb dX4_when_41 (by decide) ?_
      refine q_icmp_gtN (tgt := 65) (a := j) (b := 100) hx hb dX4_when_43 (by decide) (by omega) (by omega) (fun c_43 => ?_) (fun c_43 => ?_)
      · have hE : oWh f n k (nI v) = none := by rw [← hR, show 101 - j = 0 by omega]; rfl
        refine lv_aload_n hx hb dX4_when_65 rfl (lv_at hl 0 rfl) ?_
        refine g4_aside S hK hP dX4_when_66 ?_
        refine lv_aload_n hx hb dX4_when_69 rfl (lv_at hl 0 rfl) ?_
        refine g4_s S hK hP dX4_when_70 ?_
        refine WR.callS (w1 := MW cI a f (va_up σ 3 f)) S ks_X4_140 (c_X4_copyRow_aside_s l D cI cJ a (sGo f n j) (va_up σ 3 f)) hK hP hD hS hA ([]) ([]) rfl rfl rfl ⟨Nat.le_of_ble_eq_true rfl, Nat.le_of_ble_eq_true rfl⟩ hl.1 rfl rfl (Nat.le_of_ble_eq_true rfl) (Nat.zero_le _) (Nat.zero_le _) dX4_when_73 (fun H locs hP hD hS => ?_)
        refine W.eq (g2 := F0 m 76 ls []) rfl ?_
        refine lv_iload_n hx hb dX4_when_76 rfl (lv_at hl 3 rfl) ?_
        refine lv_bipush (v := nI 100) hx hb dX4_when_77 (by decide) ?_
        refine q_icmp_gtN (tgt := 86) (a := j) (b := 100) hx hb dX4_when_79 (by decide) (by omega) (by omega) (fun c_79 => ?_) (fun c_79 => ?_)
        · refine lv_aload_n hx hb dX4_when_86 rfl (lv_at hl 0 rfl) ?_
          refine lv_ldc (v := (-1000004)) hx hb hown (hU _ mK_X4_38) dX4_when_87 ?_
          refine WR.callV (w1 := MW cI a f (va_up (va_up σ 3 f) 4 (mFi ((va_up σ 3 f) 4) 3))) S kv_X4_39 (c_X4_fd3 l D cI cJ a f (va_up σ 3 f)) hK hP hD hS hA ([]) ([]) rfl rfl rfl rfl ⟨Nat.le_of_ble_eq_true rfl, Nat.le_of_ble_eq_true rfl⟩ hl.1 rfl rfl (Nat.le_of_ble_eq_true rfl) (Nat.zero_le _) (Nat.zero_le _) dX4_when_89 (fun H locs hP hD hS => ?_)
          exact WR.iret S hr hlk hP hS (by rw [hE]; rfl) (congrArg (fun z => some (Value.int z)) (by rw [hE]; rfl)) dX4_when_92
        · exact absurd c_79 (by omega)
      · refine lv_aload_n hx hb dX4_when_46 rfl (lv_at hl 0 rfl) ?_
        refine lv_iload_n hx hb dX4_when_47 rfl (lv_at hl 1 rfl) ?_
        refine RO.callV S kv_X4_89 (c_X4_loud l D cI cJ a (sGo f n j) (va_up σ 3 f) k n (hw) (by omega)) hK hP rfl ⟨Nat.le_of_ble_eq_true rfl, Nat.le_of_ble_eq_true rfl⟩ hl.1 rfl rfl (Nat.le_of_ble_eq_true rfl) (Nat.zero_le _) (Nat.zero_le _) dX4_when_48 ?_
        refine lv_iload_n hx hb dX4_when_51 rfl (lv_at hl 2 rfl) ?_
        refine lv_icmp_ge (tgt := 65) hx hb dX4_when_52 (by decide) (fun c_52 => ?_) (fun c_52 => ?_)
        · have hE : oWh f n k (nI v) = some j := by rw [← hR, show 101 - j = (101 - (j + 1)) + 1 by omega, fst1_hit (by simpa using c_52)]
          refine lv_aload_n hx hb dX4_when_65 rfl (lv_at hl 0 rfl) ?_
          refine g4_aside S hK hP dX4_when_66 ?_
          refine lv_aload_n hx hb dX4_when_69 rfl (lv_at hl 0 rfl) ?_
          refine g4_s S hK hP dX4_when_70 ?_
          refine WR.callS (w1 := MW cI a f (va_up σ 3 f)) S ks_X4_140 (c_X4_copyRow_aside_s l D cI cJ a (sGo f n j) (va_up σ 3 f)) hK hP hD hS hA ([]) ([]) rfl rfl rfl ⟨Nat.le_of_ble_eq_true rfl, Nat.le_of_ble_eq_true rfl⟩ hl.1 rfl rfl (Nat.le_of_ble_eq_true rfl) (Nat.zero_le _) (Nat.zero_le _) dX4_when_73 (fun H locs hP hD hS => ?_)
          refine W.eq (g2 := F0 m 76 ls []) rfl ?_
          refine lv_iload_n hx hb dX4_when_76 rfl (lv_at hl 3 rfl) ?_
          refine lv_bipush (v := nI 100) hx hb dX4_when_77 (by decide) ?_
          refine q_icmp_gtN (tgt := 86) (a := j) (b := 100) hx hb dX4_when_79 (by decide) (by omega) (by omega) (fun c_79 => ?_) (fun c_79 => ?_)
          · exact absurd c_79 (by omega)
          · refine lv_iload_n hx hb dX4_when_82 rfl (lv_at hl 3 rfl) ?_
            refine lv_goto (tgt := 92) hx hb dX4_when_83 (by decide) ?_
            exact WR.iret S hr hlk hP hS (by rw [hE]; rfl) (congrArg (fun z => some (Value.int z)) (by rw [hE]; rfl)) dX4_when_92
        · refine lv_aload_n hx hb dX4_when_55 rfl (lv_at hl 0 rfl) ?_
          refine WR.callV (w1 := MW cI a (sDy (sGo f n j) n) (va_up σ 3 f)) S kv_X4_119 (c_X4_day l D cI cJ a (sGo f n j) (va_up σ 3 f) n (hw) (d + j) (hd) (by omega)) hK hP hD hS hA ([]) ([]) rfl rfl rfl rfl ⟨Nat.le_of_ble_eq_true rfl, Nat.le_of_ble_eq_true rfl⟩ hl.1 rfl rfl (Nat.le_of_ble_eq_true rfl) (Nat.zero_le _) (Nat.zero_le _) dX4_when_56 (fun H locs hP hD hS => ?_)
          refine W.eq (g2 := F0 m 59 ls []) rfl ?_
          refine lv_iinc (v := nI (j + 1)) (lv' := [(3, .int (nI (j + 1))), (0, .ref (a 0)), (1, .int (nI k)), (2, .int (nI v))]) hx hb dX4_when_59 hl (k := 3) rfl (q_inc _) (by decide) rfl (fun ls hl => ?_)
          refine lv_goto (tgt := 40) hx hb dX4_when_62 (by decide) ?_
          exact ih_40 (j + 1) _ _ ls (by omega) (by omega) (hw0.kl (sGo_kl h8)) (sGo_1 h8 hd0) (by rw [← hR, show 101 - j = (101 - (j + 1)) + 1 by omega, fst1_go (by simpa using c_52)]) hP hD hS (lv_sub hl [1, 2, 3, 0] rfl)
  exact L_40 ((101 - 0) + 1) 0 _ _ ls (Nat.lt_succ_self _) (by omega) (hw) (hd) (rfl) hP hD hS (lv_sub hl [1, 2, 3, 0] rfl)
set_option maxRecDepth 100000 in
set_option maxHeartbeats 4000000 in
theorem c_X4_when_bad (l : Launch) (D : va_G) (cI cJ : ClassId) (a : Nat → Nat) (f : Nat → Int32) (σ : Nat → Nat → Int32) (x : Int32) (y : Int32) (n : Nat) (hw : Wk f n) (hb0 : ¬ ((0 ≤ x ∧ x < nI n) ∧ (nI 0 ≤ y ∧ y ≤ nI 2000))) : WR l yX4_when cX4_when 4 (some .int) 5 D cI cJ (MW cI a f σ) [.ref (a 0), .int x, .int y] (some (.int (-1000001))) (MW cI a f (va_up σ 4 (mFi (σ 4) 0))) := by
  refine WR.of (by decide) (Nat.le_of_ble_eq_true rfl) (fun p e s m below meth c ls A S hr hlk hK hP hD hS hA hl => ?_)
  obtain ⟨hx, hb, hml, hown, hU⟩ := id S
  have hl : lv_has ls 4 [(0, .ref (a 0)), (1, .int x), (2, .int y)] := hl
  refine lv_aload_n hx hb dX4_when_0 rfl (lv_at hl 0 rfl) ?_
  refine lv_iload_n hx hb dX4_when_1 rfl (lv_at hl 1 rfl) ?_
  refine RO.callV S kv_X4_86 (c_X4_isCask l D cI cJ a f σ x n (hw.1)) hK hP rfl ⟨Nat.le_of_ble_eq_true rfl, Nat.le_of_ble_eq_true rfl⟩ hl.1 rfl rfl (Nat.le_of_ble_eq_true rfl) (Nat.zero_le _) (Nat.zero_le _) dX4_when_2 ?_
  refine q_if_eqB (tgt := 20) hx hb dX4_when_5 (by decide) (fun c_5 => ?_) (fun c_5 => ?_)
  · refine lv_aload_n hx hb dX4_when_20 rfl (lv_at hl 0 rfl) ?_
    refine lv_ldc (v := (-1000001)) hx hb hown (hU _ mK_X4_37) dX4_when_21 ?_
    refine WR.callV (w1 := MW cI a f (va_up σ 4 (mFi (σ 4) 0))) S kv_X4_39 (c_X4_fd0 l D cI cJ a f σ) hK hP hD hS hA ([]) ([]) rfl rfl rfl rfl ⟨Nat.le_of_ble_eq_true rfl, Nat.le_of_ble_eq_true rfl⟩ hl.1 rfl rfl (Nat.le_of_ble_eq_true rfl) (Nat.zero_le _) (Nat.zero_le _) dX4_when_23 (fun H locs hP hD hS => ?_)
    exact WR.iret S hr hlk hP hS (rfl) rfl dX4_when_26
  · refine lv_iload_n hx hb dX4_when_8 rfl (lv_at hl 2 rfl) ?_
    refine lv_i2l hx hb dX4_when_9 rfl ?_
    refine lv_lconst (v := 0) hx hb dX4_when_10 (by decide) ?_
    refine lv_ldc2 (v := 2000) hx hb hown (hU _ mK_X4_157) dX4_when_11 ?_
    refine RO.callS S ks_X4_49 (c_X4_isIn l D cI cJ a f σ y (nI 0) (nI 2000)) hK hP ⟨Nat.le_of_ble_eq_true rfl, Nat.le_of_ble_eq_true rfl⟩ hl.1 rfl rfl (Nat.le_of_ble_eq_true rfl) (Nat.zero_le _) (Nat.zero_le _) dX4_when_14 ?_
    refine q_if_neB (tgt := 27) hx hb dX4_when_17 (by decide) (fun c_17 => ?_) (fun c_17 => ?_)
    · exact absurd (⟨c_5, c_17⟩) hb0
    · refine lv_aload_n hx hb dX4_when_20 rfl (lv_at hl 0 rfl) ?_
      refine lv_ldc (v := (-1000001)) hx hb hown (hU _ mK_X4_37) dX4_when_21 ?_
      refine WR.callV (w1 := MW cI a f (va_up σ 4 (mFi (σ 4) 0))) S kv_X4_39 (c_X4_fd0 l D cI cJ a f σ) hK hP hD hS hA ([]) ([]) rfl rfl rfl rfl ⟨Nat.le_of_ble_eq_true rfl, Nat.le_of_ble_eq_true rfl⟩ hl.1 rfl rfl (Nat.le_of_ble_eq_true rfl) (Nat.zero_le _) (Nat.zero_le _) dX4_when_23 (fun H locs hP hD hS => ?_)
      exact WR.iret S hr hlk hP hS (rfl) rfl dX4_when_26
set_option maxRecDepth 100000 in
set_option maxHeartbeats 4000000 in
theorem c_X4_chain_ok (l : Launch) (D : va_G) (cI cJ : ClassId) (a : Nat → Nat) (f : Nat → Int32) (σ : Nat → Nat → Int32) (t : Nat) (n : Nat) (hw : Wk f n) (d : Nat) (hd : f 1 = nI d) (ht : t ≤ 60) (hd2 : d + 60 ≤ 99999) : WR l yX4_chain cX4_chain 4 (some .int) 6 D cI cJ (MW cI a f σ) [.ref (a 0), .int (nI t)] (some (.int (nI (sCh f (sGo f n t) n)))) (MW cI a f (va_up σ 3 f)) := by
  have h8 := hw.2.1
  have hw0 := hw
  refine WR.of (by decide) (Nat.le_of_ble_eq_true rfl) (fun p e s m below meth c ls A S hr hlk hK hP hD hS hA hl => ?_)
  obtain ⟨hx, hb, hml, hown, hU⟩ := id S
  have hl : lv_has ls 4 [(0, .ref (a 0)), (1, .int (nI t))] := hl
  refine lv_iload_n hx hb dX4_chain_0 rfl (lv_at hl 1 rfl) ?_
  refine lv_i2l hx hb dX4_chain_1 rfl ?_
  refine lv_lconst (v := 0) hx hb dX4_chain_2 (by decide) ?_
  refine lv_ldc2 (v := 60) hx hb hown (hU _ mK_X4_122) dX4_chain_3 ?_
  refine RO.callS S ks_X4_49 (c_X4_isIn l D cI cJ a f σ (nI t) (nI 0) (nI 60)) hK hP ⟨Nat.le_of_ble_eq_true rfl, Nat.le_of_ble_eq_true rfl⟩ hl.1 rfl rfl (Nat.le_of_ble_eq_true rfl) (Nat.zero_le _) (Nat.zero_le _) dX4_chain_6 ?_
  refine q_if_neB (tgt := 19) hx hb dX4_chain_9 (by decide) (fun _ => ?_) (fun h => absurd (⟨nI_le (by omega) (by omega), nI_le (by omega) (by omega)⟩) h)
  refine lv_aload_n hx hb dX4_chain_19 rfl (lv_at hl 0 rfl) ?_
  refine g4_s S hK hP dX4_chain_20 ?_
  refine lv_aload_n hx hb dX4_chain_23 rfl (lv_at hl 0 rfl) ?_
  refine g4_aside S hK hP dX4_chain_24 ?_
  refine WR.callS (w1 := MW cI a f (va_up σ 3 f)) S ks_X4_140 (c_X4_copyRow_s_aside l D cI cJ a f σ) hK hP hD hS hA ([]) ([]) rfl rfl rfl ⟨Nat.le_of_ble_eq_true rfl, Nat.le_of_ble_eq_true rfl⟩ hl.1 rfl rfl (Nat.le_of_ble_eq_true rfl) (Nat.zero_le _) (Nat.zero_le _) dX4_chain_27 (fun H locs hP hD hS => ?_)
  refine W.eq (g2 := F0 m 30 ls []) rfl ?_
  refine lv_aload_n hx hb dX4_chain_30 rfl (lv_at hl 0 rfl) ?_
  refine lv_iload_n hx hb dX4_chain_31 rfl (lv_at hl 1 rfl) ?_
  refine WR.callV (w1 := MW cI a (sGo f n t) (va_up σ 3 f)) S kv_X4_125 (c_X4_goes l D cI cJ a f (va_up σ 3 f) t n (hw) d (hd) (by omega)) hK hP hD hS hA ([]) ([]) rfl rfl rfl rfl ⟨Nat.le_of_ble_eq_true rfl, Nat.le_of_ble_eq_true rfl⟩ hl.1 rfl rfl (Nat.le_of_ble_eq_true rfl) (Nat.zero_le _) (Nat.zero_le _) dX4_chain_32 (fun H locs hP hD hS => ?_)
  refine W.eq (g2 := F0 m 35 ls []) rfl ?_
  refine lv_iconst (v := nI 0) hx hb dX4_chain_35 (by decide) ?_
  refine lv_istore_n (lv' := [(2, .int (nI 0)), (0, .ref (a 0)), (1, .int (nI t))]) hx hb dX4_chain_36 rfl hl (by decide) rfl (fun ls hl => ?_)
  refine lv_iconst (v := nI 0) hx hb dX4_chain_37 (by decide) ?_
  refine lv_istore_n (lv' := [(3, .int (nI 0)), (2, .int (nI 0)), (0, .ref (a 0)), (1, .int (nI t))]) hx hb dX4_chain_38 rfl hl (by decide) rfl (fun ls hl => ?_)
  have L_39 : ∀ (n9 : Nat) (j : Nat) (H : Heap) (locs : List Loc) (ls : Array Slot), n - j < n9 → j ≤ n → Wk (sGo f n t) n → va_P D vwCl (MW cI a (sGo f n t) (va_up σ 3 f)) H → va_D A (MW cI a (sGo f n t) (va_up σ 3 f)) → va_S A s.heap H locs → lv_has ls 4 [(0, .ref (a 0)), (1, .int (nI t)), (2, .int (nI (sCh f (sGo f n t) j))), (3, .int (nI j))] → W p l e (rmd 6) s m ([.ref (a 0), .int (nI t)] : List Value).toArray below meth c H locs 0 0 (ZW below ([.ref (a 0), .int (nI t)] : List Value).toArray s D (some (.int (nI (sCh f (sGo f n t) n)))) (MW cI a f (va_up σ 3 f)) A) (F0 m 39 ls []) := by
    intro n9
    induction n9 with
    | zero => intro j H locs ls hm; exact absurd hm (Nat.not_lt_zero _)
    | succ n9 ih_39 =>
      intro j H locs ls hm hj hw hP hD hS hl
      have lt := sCh_lt (f := f) (g := sGo f n t) (j := j) (by omega)
      have l31 : sCh f (sGo f n t) j < 2147483648 := Nat.lt_of_lt_of_le lt (Nat.le_trans (Nat.pow_le_pow_right (n := 2) (by decide) (show j ≤ 8 by omega)) (by decide))
      have p31 : 2 ^ j < 2147483648 := Nat.lt_of_le_of_lt (Nat.pow_le_pow_right (n := 2) (by decide) (show j ≤ 8 by omega)) (by decide)
      refine lv_iload_n hx hb dX4_chain_39 rfl (lv_at hl 3 rfl) ?_
      refine lv_aload_n hx hb dX4_chain_40 rfl (lv_at hl 0 rfl) ?_
      refine g4_s S hK hP dX4_chain_41 ?_
      refine lv_iconst (v := nI 0) hx hb dX4_chain_44 (by decide) ?_
      refine l4_s S hK hP (j := 0) (by omega) dX4_chain_45 ?_
      refine q_eqi (y := nI n) (hw.1) ?_
      refine q_icmp_geN (tgt := 86) (a := j) (b := n) hx hb dX4_chain_46 (by decide) (by omega) (by omega) (fun c_46 => ?_) (fun c_46 => ?_)
      · refine lv_aload_n hx hb dX4_chain_86 rfl (lv_at hl 0 rfl) ?_
        refine g4_aside S hK hP dX4_chain_87 ?_
        refine lv_aload_n hx hb dX4_chain_90 rfl (lv_at hl 0 rfl) ?_
        refine g4_s S hK hP dX4_chain_91 ?_
        refine WR.callS (w1 := MW cI a f (va_up σ 3 f)) S ks_X4_140 (c_X4_copyRow_aside_s l D cI cJ a (sGo f n t) (va_up σ 3 f)) hK hP hD hS hA ([]) ([]) rfl rfl rfl ⟨Nat.le_of_ble_eq_true rfl, Nat.le_of_ble_eq_true rfl⟩ hl.1 rfl rfl (Nat.le_of_ble_eq_true rfl) (Nat.zero_le _) (Nat.zero_le _) dX4_chain_94 (fun H locs hP hD hS => ?_)
        refine W.eq (g2 := F0 m 97 ls []) rfl ?_
        refine lv_iload_n hx hb dX4_chain_97 rfl (lv_at hl 2 rfl) ?_
        exact WR.iret S hr hlk hP hS (rfl) (congrArg (fun z => some (Value.int z)) (by rw [show j = n by omega])) dX4_chain_98
      · refine lv_iload_n hx hb dX4_chain_49 rfl (lv_at hl 2 rfl) ?_
        refine lv_aload_n hx hb dX4_chain_50 rfl (lv_at hl 0 rfl) ?_
        refine lv_iload_n hx hb dX4_chain_51 rfl (lv_at hl 3 rfl) ?_
        refine lv_bipush (v := nI 6) hx hb dX4_chain_52 (by decide) ?_
        refine RO.callV S kv_X4_57 (c_X4_its l D cI cJ a (sGo f n t) (va_up σ 3 f) j 6 (by omega)) hK hP rfl ⟨Nat.le_of_ble_eq_true rfl, Nat.le_of_ble_eq_true rfl⟩ hl.1 rfl rfl (Nat.le_of_ble_eq_true rfl) (Nat.zero_le _) (Nat.zero_le _) dX4_chain_54 ?_
        refine lv_aload_n hx hb dX4_chain_57 rfl (lv_at hl 0 rfl) ?_
        refine g4_aside S hK hP dX4_chain_58 ?_
        refine lv_iload_n hx hb dX4_chain_61 rfl (lv_at hl 3 rfl) ?_
        refine lv_bipush (v := nI 6) hx hb dX4_chain_62 (by decide) ?_
        refine RO.callS S ks_X4_70 (c_X4_at l D cI cJ a (sGo f n t) (va_up σ 3 f) j 6) hK hP ⟨Nat.le_of_ble_eq_true rfl, Nat.le_of_ble_eq_true rfl⟩ hl.1 rfl rfl (Nat.le_of_ble_eq_true rfl) (Nat.zero_le _) (Nat.zero_le _) dX4_chain_64 ?_
        refine l4_aside S hK hP (j := 16 + 7 * j + 6) (by omega) dX4_chain_67 ?_
        refine q_eqi (y := fi f j 6) (rfl) ?_
        refine lv_icmp_le (tgt := 77) hx hb dX4_chain_68 (by decide) (fun c_68 => ?_) (fun c_68 => ?_)
        · refine lv_iconst (v := nI 0) hx hb dX4_chain_77 (by decide) ?_
          refine lv_ior hx hb dX4_chain_78 ?_
          refine q_eqi (y := nI (sCh f (sGo f n t) j ||| 0)) (nI_or l31 (by decide)) ?_
          refine lv_istore_n (lv' := [(2, .int (nI (sCh f (sGo f n t) j ||| 0))), (0, .ref (a 0)), (1, .int (nI t)), (3, .int (nI j))]) hx hb dX4_chain_79 rfl hl (by decide) rfl (fun ls hl => ?_)
          refine lv_iinc (v := nI (j + 1)) (lv' := [(3, .int (nI (j + 1))), (2, .int (nI (sCh f (sGo f n t) j ||| 0))), (0, .ref (a 0)), (1, .int (nI t))]) hx hb dX4_chain_80 hl (k := 3) rfl (q_inc _) (by decide) rfl (fun ls hl => ?_)
          refine lv_goto (tgt := 39) hx hb dX4_chain_83 (by decide) ?_
          exact ih_39 (j + 1) _ _ ls (by omega) (by omega) (hw) hP hD hS (by rw [show nI (sCh f (sGo f n t) (j + 1)) = nI (sCh f (sGo f n t) j ||| 0) from by rw [sCh, if_neg (i32_not_lt_of_le c_68)]; exact congrArg nI (Nat.or_zero _).symm]; exact lv_sub hl [2, 3, 1, 0] rfl)
        · refine lv_iconst (v := nI 1) hx hb dX4_chain_71 (by decide) ?_
          refine lv_iload_n hx hb dX4_chain_72 rfl (lv_at hl 3 rfl) ?_
          refine lv_ishl hx hb dX4_chain_73 ?_
          refine q_eqi (y := nI (2 ^ j)) (nI_shl1 _ (by omega)) ?_
          refine lv_goto (tgt := 78) hx hb dX4_chain_74 (by decide) ?_
          refine lv_ior hx hb dX4_chain_78 ?_
          refine q_eqi (y := nI (sCh f (sGo f n t) j ||| 2 ^ j)) (nI_or l31 p31) ?_
          refine lv_istore_n (lv' := [(2, .int (nI (sCh f (sGo f n t) j ||| 2 ^ j))), (0, .ref (a 0)), (1, .int (nI t)), (3, .int (nI j))]) hx hb dX4_chain_79 rfl hl (by decide) rfl (fun ls hl => ?_)
          refine lv_iinc (v := nI (j + 1)) (lv' := [(3, .int (nI (j + 1))), (2, .int (nI (sCh f (sGo f n t) j ||| 2 ^ j))), (0, .ref (a 0)), (1, .int (nI t))]) hx hb dX4_chain_80 hl (k := 3) rfl (q_inc _) (by decide) rfl (fun ls hl => ?_)
          refine lv_goto (tgt := 39) hx hb dX4_chain_83 (by decide) ?_
          exact ih_39 (j + 1) _ _ ls (by omega) (by omega) (hw) hP hD hS (by rw [show nI (sCh f (sGo f n t) (j + 1)) = nI (sCh f (sGo f n t) j ||| 2 ^ j) from by rw [sCh, if_pos (i32_lt_of_not_le c_68)]]; exact lv_sub hl [2, 3, 1, 0] rfl)
  exact L_39 ((n - 0) + 1) 0 _ _ ls (Nat.lt_succ_self _) (Nat.zero_le n) (hw.kl (sGo_kl h8)) hP hD hS (lv_sub hl [2, 3, 1, 0] rfl)
set_option maxRecDepth 100000 in
set_option maxHeartbeats 4000000 in
theorem c_X4_chain_bad (l : Launch) (D : va_G) (cI cJ : ClassId) (a : Nat → Nat) (f : Nat → Int32) (σ : Nat → Nat → Int32) (x : Int32) (hb0 : ¬ ((nI 0 ≤ x ∧ x ≤ nI 60))) : WR l yX4_chain cX4_chain 4 (some .int) 6 D cI cJ (MW cI a f σ) [.ref (a 0), .int x] (some (.int (-1000001))) (MW cI a f (va_up σ 4 (mFi (σ 4) 0))) := by
  refine WR.of (by decide) (Nat.le_of_ble_eq_true rfl) (fun p e s m below meth c ls A S hr hlk hK hP hD hS hA hl => ?_)
  obtain ⟨hx, hb, hml, hown, hU⟩ := id S
  have hl : lv_has ls 4 [(0, .ref (a 0)), (1, .int x)] := hl
  refine lv_iload_n hx hb dX4_chain_0 rfl (lv_at hl 1 rfl) ?_
  refine lv_i2l hx hb dX4_chain_1 rfl ?_
  refine lv_lconst (v := 0) hx hb dX4_chain_2 (by decide) ?_
  refine lv_ldc2 (v := 60) hx hb hown (hU _ mK_X4_122) dX4_chain_3 ?_
  refine RO.callS S ks_X4_49 (c_X4_isIn l D cI cJ a f σ x (nI 0) (nI 60)) hK hP ⟨Nat.le_of_ble_eq_true rfl, Nat.le_of_ble_eq_true rfl⟩ hl.1 rfl rfl (Nat.le_of_ble_eq_true rfl) (Nat.zero_le _) (Nat.zero_le _) dX4_chain_6 ?_
  refine q_if_neB (tgt := 19) hx hb dX4_chain_9 (by decide) (fun c_9 => ?_) (fun c_9 => ?_)
  · exact absurd (c_9) hb0
  · refine lv_aload_n hx hb dX4_chain_12 rfl (lv_at hl 0 rfl) ?_
    refine lv_ldc (v := (-1000001)) hx hb hown (hU _ mK_X4_37) dX4_chain_13 ?_
    refine WR.callV (w1 := MW cI a f (va_up σ 4 (mFi (σ 4) 0))) S kv_X4_39 (c_X4_fd0 l D cI cJ a f σ) hK hP hD hS hA ([]) ([]) rfl rfl rfl rfl ⟨Nat.le_of_ble_eq_true rfl, Nat.le_of_ble_eq_true rfl⟩ hl.1 rfl rfl (Nat.le_of_ble_eq_true rfl) (Nat.zero_le _) (Nat.zero_le _) dX4_chain_15 (fun H locs hP hD hS => ?_)
    exact WR.iret S hr hlk hP hS (rfl) rfl dX4_chain_18
set_option maxRecDepth 100000 in
set_option maxHeartbeats 4000000 in
theorem c_X4_isAsked (l : Launch) (D : va_G) (cI cJ : ClassId) (a : Nat → Nat) (f : Nat → Int32) (σ : Nat → Nat → Int32) (x : Int32) (y : Int32) (n : Nat) (hw : Wk f n) : RO l yX4_isAsked cX4_isAsked 3 (some .boolean) 1 D cI cJ (MW cI a f σ) [.ref (a 0), .int x, .int y] (.int (bI ((0 ≤ x ∧ x < nI n) ∧ (nI 0 ≤ y ∧ y ≤ nI 40)))) := by
  refine RO.of (by decide) (Nat.le_of_ble_eq_true rfl) (fun p e s m below meth c ls S hr hlk hK hP hl => ?_)
  obtain ⟨hx, hb, hml, hown, hU⟩ := id S
  have hl : lv_has ls 3 [(0, .ref (a 0)), (1, .int x), (2, .int y)] := hl
  refine lv_aload_n hx hb dX4_isAsked_0 rfl (lv_at hl 0 rfl) ?_
  refine lv_iload_n hx hb dX4_isAsked_1 rfl (lv_at hl 1 rfl) ?_
  refine RO.callV S kv_X4_86 (c_X4_isCask l D cI cJ a f σ x n (hw.1)) hK hP rfl ⟨Nat.le_of_ble_eq_true rfl, Nat.le_of_ble_eq_true rfl⟩ hl.1 rfl rfl (Nat.le_of_ble_eq_true rfl) (Nat.zero_le _) (Nat.zero_le _) dX4_isAsked_2 ?_
  refine q_if_eqB (tgt := 24) hx hb dX4_isAsked_5 (by decide) (fun c_5 => ?_) (fun c_5 => ?_)
  · refine lv_iconst (v := nI 0) hx hb dX4_isAsked_24 (by decide) ?_
    exact RO.zret S hr hlk (bI_f (fun q => c_5 q.1)) dX4_isAsked_25
  · refine lv_iload_n hx hb dX4_isAsked_8 rfl (lv_at hl 2 rfl) ?_
    refine lv_i2l hx hb dX4_isAsked_9 rfl ?_
    refine lv_lconst (v := 0) hx hb dX4_isAsked_10 (by decide) ?_
    refine lv_ldc2 (v := 40) hx hb hown (hU _ mK_X4_159) dX4_isAsked_11 ?_
    refine RO.callS S ks_X4_49 (c_X4_isIn l D cI cJ a f σ y (nI 0) (nI 40)) hK hP ⟨Nat.le_of_ble_eq_true rfl, Nat.le_of_ble_eq_true rfl⟩ hl.1 rfl rfl (Nat.le_of_ble_eq_true rfl) (Nat.zero_le _) (Nat.zero_le _) dX4_isAsked_14 ?_
    refine q_if_eqB (tgt := 24) hx hb dX4_isAsked_17 (by decide) (fun c_17 => ?_) (fun c_17 => ?_)
    · refine lv_iconst (v := nI 0) hx hb dX4_isAsked_24 (by decide) ?_
      exact RO.zret S hr hlk (bI_f (fun q => c_17 q.2)) dX4_isAsked_25
    · refine lv_iconst (v := nI 1) hx hb dX4_isAsked_20 (by decide) ?_
      refine lv_goto (tgt := 25) hx hb dX4_isAsked_21 (by decide) ?_
      exact RO.zret S hr hlk (bI_t (⟨c_5, c_17⟩)) dX4_isAsked_25
set_option maxRecDepth 100000 in
set_option maxHeartbeats 4000000 in
theorem c_X4_loudestBy_w0 (l : Launch) (D : va_G) (cI cJ : ClassId) (a : Nat → Nat) (f : Nat → Int32) (σ : Nat → Nat → Int32) (k : Nat) (t : Nat) (n : Nat) (hw : Wk f n) (d : Nat) (hd : f 1 = nI d) (hk : k < n) (ht : t ≤ 40) (hd2 : d + 100 ≤ 99999) : WR l yX4_loudestBy cX4_loudestBy 9 (some .int) 7 D cI cJ (MW cI a f σ) [.ref (a 0), .int (nI k), .int (nI 0), .int (nI t)] (some (.int (nI ((lbP f n k 0 t 7).1)))) (MW cI a f (va_up σ 3 (fu f k 0 (nI 6)))) := by
  have h8 := hw.2.1
  refine WR.of (by decide) (Nat.le_of_ble_eq_true rfl) (fun p e s m below meth c ls A S hr hlk hK hP hD hS hA hl => ?_)
  obtain ⟨hx, hb, hml, hown, hU⟩ := id S
  have hl : lv_has ls 9 [(0, .ref (a 0)), (1, .int (nI k)), (2, .int (nI 0)), (3, .int (nI t))] := hl
  refine lv_aload_n hx hb dX4_loudestBy_0 rfl (lv_at hl 0 rfl) ?_
  refine lv_iload_n hx hb dX4_loudestBy_1 rfl (lv_at hl 1 rfl) ?_
  refine lv_iload_n hx hb dX4_loudestBy_2 rfl (lv_at hl 2 rfl) ?_
  refine RO.callV S kv_X4_57 (c_X4_its l D cI cJ a f σ k 0 (by omega)) hK hP rfl ⟨Nat.le_of_ble_eq_true rfl, Nat.le_of_ble_eq_true rfl⟩ hl.1 rfl rfl (Nat.le_of_ble_eq_true rfl) (Nat.zero_le _) (Nat.zero_le _) dX4_loudestBy_3 ?_
  refine lv_istore (lv' := [(4, .int (fi f k 0)), (0, .ref (a 0)), (1, .int (nI k)), (2, .int (nI 0)), (3, .int (nI t))]) hx hb dX4_loudestBy_6 hl (by decide) rfl (fun ls hl => ?_)
  refine lv_iconst (v := nI 0) hx hb dX4_loudestBy_8 (by decide) ?_
  refine lv_istore (lv' := [(5, .int (nI 0)), (4, .int (fi f k 0)), (0, .ref (a 0)), (1, .int (nI k)), (2, .int (nI 0)), (3, .int (nI t))]) hx hb dX4_loudestBy_9 hl (by decide) rfl (fun ls hl => ?_)
  refine lv_iconst (v := (-1)) hx hb dX4_loudestBy_11 (by decide) ?_
  refine lv_istore (lv' := [(6, .int (-1)), (5, .int (nI 0)), (4, .int (fi f k 0)), (0, .ref (a 0)), (1, .int (nI k)), (2, .int (nI 0)), (3, .int (nI t))]) hx hb dX4_loudestBy_12 hl (by decide) rfl (fun ls hl => ?_)
  refine lv_iconst (v := nI 0) hx hb dX4_loudestBy_14 (by decide) ?_
  refine lv_istore (lv' := [(7, .int (nI 0)), (6, .int (-1)), (5, .int (nI 0)), (4, .int (fi f k 0)), (0, .ref (a 0)), (1, .int (nI k)), (2, .int (nI 0)), (3, .int (nI t))]) hx hb dX4_loudestBy_15 hl (by decide) rfl (fun ls hl => ?_)
  have L_17 : ∀ (n9 : Nat) (v : Nat) (H : Heap) (locs : List Loc) (ls : Array Slot), 7 - v < n9 → v ≤ 7 → va_P D vwCl (MW cI a (lbS f k 0 v) (lbT σ f k 0 v)) H → va_D A (MW cI a (lbS f k 0 v) (lbT σ f k 0 v)) → va_S A s.heap H locs → lv_has ls 9 [(0, .ref (a 0)), (1, .int (nI k)), (2, .int (nI 0)), (3, .int (nI t)), (4, .int (fi f k 0)), (5, .int (nI ((lbP f n k 0 t v).1))), (6, .int ((lbP f n k 0 t v).2)), (7, .int (nI v))] → W p l e (rmd 7) s m ([.ref (a 0), .int (nI k), .int (nI 0), .int (nI t)] : List Value).toArray below meth c H locs 0 0 (ZW below ([.ref (a 0), .int (nI k), .int (nI 0), .int (nI t)] : List Value).toArray s D (some (.int (nI ((lbP f n k 0 t 7).1)))) (MW cI a f (va_up σ 3 (fu f k 0 (nI 6)))) A) (F0 m 17 ls []) := by
    intro n9
    induction n9 with
    | zero => intro v H locs ls hm; exact absurd hm (Nat.not_lt_zero _)
    | succ n9 ih_17 =>
      intro v H locs ls hm hv hP hD hS hl
      refine lv_iload hx hb dX4_loudestBy_17 (lv_at hl 7 rfl) ?_
      refine lv_iload_n hx hb dX4_loudestBy_19 rfl (lv_at hl 2 rfl) ?_
      refine RO.callS S ks_X4_98 (c_X4_greatestOf l D cI cJ a (lbS f k 0 v) (lbT σ f k 0 v) (nI 0)) hK hP ⟨Nat.le_of_ble_eq_true rfl, Nat.le_of_ble_eq_true rfl⟩ hl.1 rfl rfl (Nat.le_of_ble_eq_true rfl) (Nat.zero_le _) (Nat.zero_le _) dX4_loudestBy_20 ?_
      refine q_eqi (y := nI 6) (by decide) ?_
      refine q_icmp_gtN (tgt := 79) (a := v) (b := 6) hx hb dX4_loudestBy_23 (by decide) (by omega) (by omega) (fun c_23 => ?_) (fun c_23 => ?_)
      · refine lv_aload_n hx hb dX4_loudestBy_79 rfl (lv_at hl 0 rfl) ?_
        refine g4_s S hK hP dX4_loudestBy_80 ?_
        refine lv_iload_n hx hb dX4_loudestBy_83 rfl (lv_at hl 1 rfl) ?_
        refine lv_iload_n hx hb dX4_loudestBy_84 rfl (lv_at hl 2 rfl) ?_
        refine RO.callS S ks_X4_70 (c_X4_at l D cI cJ a (lbS f k 0 v) (lbT σ f k 0 v) k 0) hK hP ⟨Nat.le_of_ble_eq_true rfl, Nat.le_of_ble_eq_true rfl⟩ hl.1 rfl rfl (Nat.le_of_ble_eq_true rfl) (Nat.zero_le _) (Nat.zero_le _) dX4_loudestBy_85 ?_
        refine lv_iload hx hb dX4_loudestBy_88 (lv_at hl 4 rfl) ?_
        refine s4_s S hK hP hD hS (j := 16 + 7 * k + 0) (by omega) dX4_loudestBy_90 (fun H locs hP hD hS => ?_)
        rw [lbS_up (w := 0)] at hP hD
        rw [show fu f k 0 (fi f k 0) = f from fu_self] at hP hD
        refine lv_iload hx hb dX4_loudestBy_91 (lv_at hl 5 rfl) ?_
        exact WR.iret S hr hlk hP hS (by rw [show v = 7 by omega]; rfl) (congrArg (fun z => some (Value.int z)) (by rw [show v = 7 by omega])) dX4_loudestBy_93
      · refine lv_aload_n hx hb dX4_loudestBy_26 rfl (lv_at hl 0 rfl) ?_
        refine g4_s S hK hP dX4_loudestBy_27 ?_
        refine lv_iload_n hx hb dX4_loudestBy_30 rfl (lv_at hl 1 rfl) ?_
        refine lv_iload_n hx hb dX4_loudestBy_31 rfl (lv_at hl 2 rfl) ?_
        refine RO.callS S ks_X4_70 (c_X4_at l D cI cJ a (lbS f k 0 v) (lbT σ f k 0 v) k 0) hK hP ⟨Nat.le_of_ble_eq_true rfl, Nat.le_of_ble_eq_true rfl⟩ hl.1 rfl rfl (Nat.le_of_ble_eq_true rfl) (Nat.zero_le _) (Nat.zero_le _) dX4_loudestBy_32 ?_
        refine lv_iload hx hb dX4_loudestBy_35 (lv_at hl 7 rfl) ?_
        refine s4_s S hK hP hD hS (j := 16 + 7 * k + 0) (by omega) dX4_loudestBy_37 (fun H locs hP hD hS => ?_)
        rw [lbS_up (w := 0)] at hP hD
        refine lv_aload_n hx hb dX4_loudestBy_38 rfl (lv_at hl 0 rfl) ?_
        refine lv_iload_n hx hb dX4_loudestBy_39 rfl (lv_at hl 1 rfl) ?_
        refine lv_bipush (v := nI 7) hx hb dX4_loudestBy_40 (by decide) ?_
        refine lv_iload_n hx hb dX4_loudestBy_42 rfl (lv_at hl 3 rfl) ?_
        refine WR.callV (w1 := MW cI a (fu f k 0 (nI v)) (va_up (lbT σ f k 0 v) 3 (fu f k 0 (nI v)))) S kv_X4_150 (c_X4_then_w7 l D cI cJ a (fu f k 0 (nI v)) (lbT σ f k 0 v) k t n (hw.fuw (by decide) (by decide)) d ((fu_lo (by decide)).trans hd) (by omega) (by omega)) hK hP hD hS hA ([]) ([]) rfl rfl rfl rfl ⟨Nat.le_of_ble_eq_true rfl, Nat.le_of_ble_eq_true rfl⟩ hl.1 rfl rfl (Nat.le_of_ble_eq_true rfl) (Nat.zero_le _) (Nat.zero_le _) dX4_loudestBy_43 (fun H locs hP hD hS => ?_)
        rw [lbT_up] at hP hD
        refine lv_istore (lv' := [(8, .int (sLd (sGo (fu f k 0 (nI v)) n t) n k)), (0, .ref (a 0)), (1, .int (nI k)), (2, .int (nI 0)), (3, .int (nI t)), (4, .int (fi f k 0)), (5, .int (nI ((lbP f n k 0 t v).1))), (6, .int ((lbP f n k 0 t v).2)), (7, .int (nI v))]) hx hb dX4_loudestBy_46 hl (by decide) rfl (fun ls hl => ?_)
        refine lv_iload hx hb dX4_loudestBy_48 (lv_at hl 0 rfl) ?_
        refine lv_iload hx hb dX4_loudestBy_50 (lv_at hl 7 rfl) ?_
        refine lv_icmp_le (tgt := 60) hx hb dX4_loudestBy_52 (by decide) (fun c_52 => ?_) (fun c_52 => ?_)
        · refine lv_iload hx hb dX4_loudestBy_60 (lv_at hl 6 rfl) ?_
          refine lv_istore (lv' := [(5, .int (nI ((lbP f n k 0 t v).1))), (8, .int (sLd (sGo (fu f k 0 (nI v)) n t) n k)), (0, .ref (a 0)), (1, .int (nI k)), (2, .int (nI 0)), (3, .int (nI t)), (4, .int (fi f k 0)), (6, .int ((lbP f n k 0 t v).2)), (7, .int (nI v))]) hx hb dX4_loudestBy_62 hl (by decide) rfl (fun ls hl => ?_)
          refine lv_iload hx hb dX4_loudestBy_64 (lv_at hl 7 rfl) ?_
          refine lv_iload hx hb dX4_loudestBy_66 (lv_at hl 1 rfl) ?_
          refine RO.callS S ks_X4_80 (c_X4_greatest l D cI cJ a (fu f k 0 (nI v)) (va_up σ 3 (fu f k 0 (nI v))) ((lbP f n k 0 t v).2) (sLd (sGo (fu f k 0 (nI v)) n t) n k)) hK hP ⟨Nat.le_of_ble_eq_true rfl, Nat.le_of_ble_eq_true rfl⟩ hl.1 rfl rfl (Nat.le_of_ble_eq_true rfl) (Nat.zero_le _) (Nat.zero_le _) dX4_loudestBy_68 ?_
          refine lv_istore (lv' := [(6, .int (iMax ((lbP f n k 0 t v).2) (sLd (sGo (fu f k 0 (nI v)) n t) n k))), (5, .int (nI ((lbP f n k 0 t v).1))), (8, .int (sLd (sGo (fu f k 0 (nI v)) n t) n k)), (0, .ref (a 0)), (1, .int (nI k)), (2, .int (nI 0)), (3, .int (nI t)), (4, .int (fi f k 0)), (7, .int (nI v))]) hx hb dX4_loudestBy_71 hl (by decide) rfl (fun ls hl => ?_)
          refine lv_iinc (v := nI (v + 1)) (lv' := [(7, .int (nI (v + 1))), (6, .int (iMax ((lbP f n k 0 t v).2) (sLd (sGo (fu f k 0 (nI v)) n t) n k))), (5, .int (nI ((lbP f n k 0 t v).1))), (8, .int (sLd (sGo (fu f k 0 (nI v)) n t) n k)), (0, .ref (a 0)), (1, .int (nI k)), (2, .int (nI 0)), (3, .int (nI t)), (4, .int (fi f k 0))]) hx hb dX4_loudestBy_73 hl (k := 8) rfl (q_inc _) (by decide) rfl (fun ls hl => ?_)
          refine lv_goto (tgt := 17) hx hb dX4_loudestBy_76 (by decide) ?_
          exact ih_17 (v + 1) _ _ ls (by omega) (by omega) hP hD hS (by rw [show nI ((lbP f n k 0 t (v + 1)).1) = nI ((lbP f n k 0 t v).1) from by rw [lbP, if_neg (i32_not_lt_of_le c_52)], show (lbP f n k 0 t (v + 1)).2 = iMax ((lbP f n k 0 t v).2) (sLd (sGo (fu f k 0 (nI v)) n t) n k) from by rw [lbP, if_neg (i32_not_lt_of_le c_52)]; exact (if_neg (i32_not_lt_of_le c_52)).symm]; exact lv_sub hl [4, 5, 6, 7, 8, 2, 1, 0] rfl)
        · refine lv_iload hx hb dX4_loudestBy_55 (lv_at hl 8 rfl) ?_
          refine lv_goto (tgt := 62) hx hb dX4_loudestBy_57 (by decide) ?_
          refine lv_istore (lv' := [(5, .int (nI v)), (8, .int (sLd (sGo (fu f k 0 (nI v)) n t) n k)), (0, .ref (a 0)), (1, .int (nI k)), (2, .int (nI 0)), (3, .int (nI t)), (4, .int (fi f k 0)), (6, .int ((lbP f n k 0 t v).2)), (7, .int (nI v))]) hx hb dX4_loudestBy_62 hl (by decide) rfl (fun ls hl => ?_)
          refine lv_iload hx hb dX4_loudestBy_64 (lv_at hl 7 rfl) ?_
          refine lv_iload hx hb dX4_loudestBy_66 (lv_at hl 1 rfl) ?_
          refine RO.callS S ks_X4_80 (c_X4_greatest l D cI cJ a (fu f k 0 (nI v)) (va_up σ 3 (fu f k 0 (nI v))) ((lbP f n k 0 t v).2) (sLd (sGo (fu f k 0 (nI v)) n t) n k)) hK hP ⟨Nat.le_of_ble_eq_true rfl, Nat.le_of_ble_eq_true rfl⟩ hl.1 rfl rfl (Nat.le_of_ble_eq_true rfl) (Nat.zero_le _) (Nat.zero_le _) dX4_loudestBy_68 ?_
          refine lv_istore (lv' := [(6, .int (iMax ((lbP f n k 0 t v).2) (sLd (sGo (fu f k 0 (nI v)) n t) n k))), (5, .int (nI v)), (8, .int (sLd (sGo (fu f k 0 (nI v)) n t) n k)), (0, .ref (a 0)), (1, .int (nI k)), (2, .int (nI 0)), (3, .int (nI t)), (4, .int (fi f k 0)), (7, .int (nI v))]) hx hb dX4_loudestBy_71 hl (by decide) rfl (fun ls hl => ?_)
          refine lv_iinc (v := nI (v + 1)) (lv' := [(7, .int (nI (v + 1))), (6, .int (iMax ((lbP f n k 0 t v).2) (sLd (sGo (fu f k 0 (nI v)) n t) n k))), (5, .int (nI v)), (8, .int (sLd (sGo (fu f k 0 (nI v)) n t) n k)), (0, .ref (a 0)), (1, .int (nI k)), (2, .int (nI 0)), (3, .int (nI t)), (4, .int (fi f k 0))]) hx hb dX4_loudestBy_73 hl (k := 8) rfl (q_inc _) (by decide) rfl (fun ls hl => ?_)
          refine lv_goto (tgt := 17) hx hb dX4_loudestBy_76 (by decide) ?_
          exact ih_17 (v + 1) _ _ ls (by omega) (by omega) hP hD hS (by rw [show nI ((lbP f n k 0 t (v + 1)).1) = nI v from by rw [lbP, if_pos (i32_lt_of_not_le c_52)], show (lbP f n k 0 t (v + 1)).2 = iMax ((lbP f n k 0 t v).2) (sLd (sGo (fu f k 0 (nI v)) n t) n k) from by rw [lbP, if_pos (i32_lt_of_not_le c_52)]; exact (if_pos (i32_lt_of_not_le c_52)).symm]; exact lv_sub hl [4, 5, 6, 7, 8, 2, 1, 0] rfl)
  exact L_17 ((7 - 0) + 1) 0 _ _ ls (Nat.lt_succ_self _) (Nat.zero_le _) hP hD hS (by rw [show nI ((lbP f n k 0 t 0).1) = nI 0 from rfl, show (lbP f n k 0 t 0).2 = (-1) from rfl]; exact lv_sub hl [4, 5, 6, 7, 3, 2, 1, 0] rfl)
set_option maxRecDepth 100000 in
set_option maxHeartbeats 4000000 in
theorem c_X4_loudestBy_w1 (l : Launch) (D : va_G) (cI cJ : ClassId) (a : Nat → Nat) (f : Nat → Int32) (σ : Nat → Nat → Int32) (k : Nat) (t : Nat) (n : Nat) (hw : Wk f n) (d : Nat) (hd : f 1 = nI d) (hk : k < n) (ht : t ≤ 40) (hd2 : d + 100 ≤ 99999) : WR l yX4_loudestBy cX4_loudestBy 9 (some .int) 7 D cI cJ (MW cI a f σ) [.ref (a 0), .int (nI k), .int (nI 1), .int (nI t)] (some (.int (nI ((lbP f n k 1 t 6).1)))) (MW cI a f (va_up σ 3 (fu f k 1 (nI 5)))) := by
  have h8 := hw.2.1
  refine WR.of (by decide) (Nat.le_of_ble_eq_true rfl) (fun p e s m below meth c ls A S hr hlk hK hP hD hS hA hl => ?_)
  obtain ⟨hx, hb, hml, hown, hU⟩ := id S
  have hl : lv_has ls 9 [(0, .ref (a 0)), (1, .int (nI k)), (2, .int (nI 1)), (3, .int (nI t))] := hl
  refine lv_aload_n hx hb dX4_loudestBy_0 rfl (lv_at hl 0 rfl) ?_
  refine lv_iload_n hx hb dX4_loudestBy_1 rfl (lv_at hl 1 rfl) ?_
  refine lv_iload_n hx hb dX4_loudestBy_2 rfl (lv_at hl 2 rfl) ?_
  refine RO.callV S kv_X4_57 (c_X4_its l D cI cJ a f σ k 1 (by omega)) hK hP rfl ⟨Nat.le_of_ble_eq_true rfl, Nat.le_of_ble_eq_true rfl⟩ hl.1 rfl rfl (Nat.le_of_ble_eq_true rfl) (Nat.zero_le _) (Nat.zero_le _) dX4_loudestBy_3 ?_
  refine lv_istore (lv' := [(4, .int (fi f k 1)), (0, .ref (a 0)), (1, .int (nI k)), (2, .int (nI 1)), (3, .int (nI t))]) hx hb dX4_loudestBy_6 hl (by decide) rfl (fun ls hl => ?_)
  refine lv_iconst (v := nI 0) hx hb dX4_loudestBy_8 (by decide) ?_
  refine lv_istore (lv' := [(5, .int (nI 0)), (4, .int (fi f k 1)), (0, .ref (a 0)), (1, .int (nI k)), (2, .int (nI 1)), (3, .int (nI t))]) hx hb dX4_loudestBy_9 hl (by decide) rfl (fun ls hl => ?_)
  refine lv_iconst (v := (-1)) hx hb dX4_loudestBy_11 (by decide) ?_
  refine lv_istore (lv' := [(6, .int (-1)), (5, .int (nI 0)), (4, .int (fi f k 1)), (0, .ref (a 0)), (1, .int (nI k)), (2, .int (nI 1)), (3, .int (nI t))]) hx hb dX4_loudestBy_12 hl (by decide) rfl (fun ls hl => ?_)
  refine lv_iconst (v := nI 0) hx hb dX4_loudestBy_14 (by decide) ?_
  refine lv_istore (lv' := [(7, .int (nI 0)), (6, .int (-1)), (5, .int (nI 0)), (4, .int (fi f k 1)), (0, .ref (a 0)), (1, .int (nI k)), (2, .int (nI 1)), (3, .int (nI t))]) hx hb dX4_loudestBy_15 hl (by decide) rfl (fun ls hl => ?_)
  have L_17 : ∀ (n9 : Nat) (v : Nat) (H : Heap) (locs : List Loc) (ls : Array Slot), 6 - v < n9 → v ≤ 6 → va_P D vwCl (MW cI a (lbS f k 1 v) (lbT σ f k 1 v)) H → va_D A (MW cI a (lbS f k 1 v) (lbT σ f k 1 v)) → va_S A s.heap H locs → lv_has ls 9 [(0, .ref (a 0)), (1, .int (nI k)), (2, .int (nI 1)), (3, .int (nI t)), (4, .int (fi f k 1)), (5, .int (nI ((lbP f n k 1 t v).1))), (6, .int ((lbP f n k 1 t v).2)), (7, .int (nI v))] → W p l e (rmd 7) s m ([.ref (a 0), .int (nI k), .int (nI 1), .int (nI t)] : List Value).toArray below meth c H locs 0 0 (ZW below ([.ref (a 0), .int (nI k), .int (nI 1), .int (nI t)] : List Value).toArray s D (some (.int (nI ((lbP f n k 1 t 6).1)))) (MW cI a f (va_up σ 3 (fu f k 1 (nI 5)))) A) (F0 m 17 ls []) := by
    intro n9
    induction n9 with
    | zero => intro v H locs ls hm; exact absurd hm (Nat.not_lt_zero _)
    | succ n9 ih_17 =>
      intro v H locs ls hm hv hP hD hS hl
      refine lv_iload hx hb dX4_loudestBy_17 (lv_at hl 7 rfl) ?_
      refine lv_iload_n hx hb dX4_loudestBy_19 rfl (lv_at hl 2 rfl) ?_
      refine RO.callS S ks_X4_98 (c_X4_greatestOf l D cI cJ a (lbS f k 1 v) (lbT σ f k 1 v) (nI 1)) hK hP ⟨Nat.le_of_ble_eq_true rfl, Nat.le_of_ble_eq_true rfl⟩ hl.1 rfl rfl (Nat.le_of_ble_eq_true rfl) (Nat.zero_le _) (Nat.zero_le _) dX4_loudestBy_20 ?_
      refine q_eqi (y := nI 5) (by decide) ?_
      refine q_icmp_gtN (tgt := 79) (a := v) (b := 5) hx hb dX4_loudestBy_23 (by decide) (by omega) (by omega) (fun c_23 => ?_) (fun c_23 => ?_)
      · refine lv_aload_n hx hb dX4_loudestBy_79 rfl (lv_at hl 0 rfl) ?_
        refine g4_s S hK hP dX4_loudestBy_80 ?_
        refine lv_iload_n hx hb dX4_loudestBy_83 rfl (lv_at hl 1 rfl) ?_
        refine lv_iload_n hx hb dX4_loudestBy_84 rfl (lv_at hl 2 rfl) ?_
        refine RO.callS S ks_X4_70 (c_X4_at l D cI cJ a (lbS f k 1 v) (lbT σ f k 1 v) k 1) hK hP ⟨Nat.le_of_ble_eq_true rfl, Nat.le_of_ble_eq_true rfl⟩ hl.1 rfl rfl (Nat.le_of_ble_eq_true rfl) (Nat.zero_le _) (Nat.zero_le _) dX4_loudestBy_85 ?_
        refine lv_iload hx hb dX4_loudestBy_88 (lv_at hl 4 rfl) ?_
        refine s4_s S hK hP hD hS (j := 16 + 7 * k + 1) (by omega) dX4_loudestBy_90 (fun H locs hP hD hS => ?_)
        rw [lbS_up (w := 1)] at hP hD
        rw [show fu f k 1 (fi f k 1) = f from fu_self] at hP hD
        refine lv_iload hx hb dX4_loudestBy_91 (lv_at hl 5 rfl) ?_
        exact WR.iret S hr hlk hP hS (by rw [show v = 6 by omega]; rfl) (congrArg (fun z => some (Value.int z)) (by rw [show v = 6 by omega])) dX4_loudestBy_93
      · refine lv_aload_n hx hb dX4_loudestBy_26 rfl (lv_at hl 0 rfl) ?_
        refine g4_s S hK hP dX4_loudestBy_27 ?_
        refine lv_iload_n hx hb dX4_loudestBy_30 rfl (lv_at hl 1 rfl) ?_
        refine lv_iload_n hx hb dX4_loudestBy_31 rfl (lv_at hl 2 rfl) ?_
        refine RO.callS S ks_X4_70 (c_X4_at l D cI cJ a (lbS f k 1 v) (lbT σ f k 1 v) k 1) hK hP ⟨Nat.le_of_ble_eq_true rfl, Nat.le_of_ble_eq_true rfl⟩ hl.1 rfl rfl (Nat.le_of_ble_eq_true rfl) (Nat.zero_le _) (Nat.zero_le _) dX4_loudestBy_32 ?_
        refine lv_iload hx hb dX4_loudestBy_35 (lv_at hl 7 rfl) ?_
        refine s4_s S hK hP hD hS (j := 16 + 7 * k + 1) (by omega) dX4_loudestBy_37 (fun H locs hP hD hS => ?_)
        rw [lbS_up (w := 1)] at hP hD
        refine lv_aload_n hx hb dX4_loudestBy_38 rfl (lv_at hl 0 rfl) ?_
        refine lv_iload_n hx hb dX4_loudestBy_39 rfl (lv_at hl 1 rfl) ?_
        refine lv_bipush (v := nI 7) hx hb dX4_loudestBy_40 (by decide) ?_
        refine lv_iload_n hx hb dX4_loudestBy_42 rfl (lv_at hl 3 rfl) ?_
        refine WR.callV (w1 := MW cI a (fu f k 1 (nI v)) (va_up (lbT σ f k 1 v) 3 (fu f k 1 (nI v)))) S kv_X4_150 (c_X4_then_w7 l D cI cJ a (fu f k 1 (nI v)) (lbT σ f k 1 v) k t n (hw.fu1 (by omega)) d ((fu_lo (by decide)).trans hd) (by omega) (by omega)) hK hP hD hS hA ([]) ([]) rfl rfl rfl rfl ⟨Nat.le_of_ble_eq_true rfl, Nat.le_of_ble_eq_true rfl⟩ hl.1 rfl rfl (Nat.le_of_ble_eq_true rfl) (Nat.zero_le _) (Nat.zero_le _) dX4_loudestBy_43 (fun H locs hP hD hS => ?_)
        rw [lbT_up] at hP hD
        refine lv_istore (lv' := [(8, .int (sLd (sGo (fu f k 1 (nI v)) n t) n k)), (0, .ref (a 0)), (1, .int (nI k)), (2, .int (nI 1)), (3, .int (nI t)), (4, .int (fi f k 1)), (5, .int (nI ((lbP f n k 1 t v).1))), (6, .int ((lbP f n k 1 t v).2)), (7, .int (nI v))]) hx hb dX4_loudestBy_46 hl (by decide) rfl (fun ls hl => ?_)
        refine lv_iload hx hb dX4_loudestBy_48 (lv_at hl 0 rfl) ?_
        refine lv_iload hx hb dX4_loudestBy_50 (lv_at hl 7 rfl) ?_
        refine lv_icmp_le (tgt := 60) hx hb dX4_loudestBy_52 (by decide) (fun c_52 => ?_) (fun c_52 => ?_)
        · refine lv_iload hx hb dX4_loudestBy_60 (lv_at hl 6 rfl) ?_
          refine lv_istore (lv' := [(5, .int (nI ((lbP f n k 1 t v).1))), (8, .int (sLd (sGo (fu f k 1 (nI v)) n t) n k)), (0, .ref (a 0)), (1, .int (nI k)), (2, .int (nI 1)), (3, .int (nI t)), (4, .int (fi f k 1)), (6, .int ((lbP f n k 1 t v).2)), (7, .int (nI v))]) hx hb dX4_loudestBy_62 hl (by decide) rfl (fun ls hl => ?_)
          refine lv_iload hx hb dX4_loudestBy_64 (lv_at hl 7 rfl) ?_
          refine lv_iload hx hb dX4_loudestBy_66 (lv_at hl 1 rfl) ?_
          refine RO.callS S ks_X4_80 (c_X4_greatest l D cI cJ a (fu f k 1 (nI v)) (va_up σ 3 (fu f k 1 (nI v))) ((lbP f n k 1 t v).2) (sLd (sGo (fu f k 1 (nI v)) n t) n k)) hK hP ⟨Nat.le_of_ble_eq_true rfl, Nat.le_of_ble_eq_true rfl⟩ hl.1 rfl rfl (Nat.le_of_ble_eq_true rfl) (Nat.zero_le _) (Nat.zero_le _) dX4_loudestBy_68 ?_
          refine lv_istore (lv' := [(6, .int (iMax ((lbP f n k 1 t v).2) (sLd (sGo (fu f k 1 (nI v)) n t) n k))), (5, .int (nI ((lbP f n k 1 t v).1))), (8, .int (sLd (sGo (fu f k 1 (nI v)) n t) n k)), (0, .ref (a 0)), (1, .int (nI k)), (2, .int (nI 1)), (3, .int (nI t)), (4, .int (fi f k 1)), (7, .int (nI v))]) hx hb dX4_loudestBy_71 hl (by decide) rfl (fun ls hl => ?_)
          refine lv_iinc (v := nI (v + 1)) (lv' := [(7, .int (nI (v + 1))), (6, .int (iMax ((lbP f n k 1 t v).2) (sLd (sGo (fu f k 1 (nI v)) n t) n k))), (5, .int (nI ((lbP f n k 1 t v).1))), (8, .int (sLd (sGo (fu f k 1 (nI v)) n t) n k)), (0, .ref (a 0)), (1, .int (nI k)), (2, .int (nI 1)), (3, .int (nI t)), (4, .int (fi f k 1))]) hx hb dX4_loudestBy_73 hl (k := 8) rfl (q_inc _) (by decide) rfl (fun ls hl => ?_)
          refine lv_goto (tgt := 17) hx hb dX4_loudestBy_76 (by decide) ?_
          exact ih_17 (v + 1) _ _ ls (by omega) (by omega) hP hD hS (by rw [show nI ((lbP f n k 1 t (v + 1)).1) = nI ((lbP f n k 1 t v).1) from by rw [lbP, if_neg (i32_not_lt_of_le c_52)], show (lbP f n k 1 t (v + 1)).2 = iMax ((lbP f n k 1 t v).2) (sLd (sGo (fu f k 1 (nI v)) n t) n k) from by rw [lbP, if_neg (i32_not_lt_of_le c_52)]; exact (if_neg (i32_not_lt_of_le c_52)).symm]; exact lv_sub hl [4, 5, 6, 7, 8, 2, 1, 0] rfl)
        · refine lv_iload hx hb dX4_loudestBy_55 (lv_at hl 8 rfl) ?_
          refine lv_goto (tgt := 62) hx hb dX4_loudestBy_57 (by decide) ?_
          refine lv_istore (lv' := [(5, .int (nI v)), (8, .int (sLd (sGo (fu f k 1 (nI v)) n t) n k)), (0, .ref (a 0)), (1, .int (nI k)), (2, .int (nI 1)), (3, .int (nI t)), (4, .int (fi f k 1)), (6, .int ((lbP f n k 1 t v).2)), (7, .int (nI v))]) hx hb dX4_loudestBy_62 hl (by decide) rfl (fun ls hl => ?_)
          refine lv_iload hx hb dX4_loudestBy_64 (lv_at hl 7 rfl) ?_
          refine lv_iload hx hb dX4_loudestBy_66 (lv_at hl 1 rfl) ?_
          refine RO.callS S ks_X4_80 (c_X4_greatest l D cI cJ a (fu f k 1 (nI v)) (va_up σ 3 (fu f k 1 (nI v))) ((lbP f n k 1 t v).2) (sLd (sGo (fu f k 1 (nI v)) n t) n k)) hK hP ⟨Nat.le_of_ble_eq_true rfl, Nat.le_of_ble_eq_true rfl⟩ hl.1 rfl rfl (Nat.le_of_ble_eq_true rfl) (Nat.zero_le _) (Nat.zero_le _) dX4_loudestBy_68 ?_
          refine lv_istore (lv' := [(6, .int (iMax ((lbP f n k 1 t v).2) (sLd (sGo (fu f k 1 (nI v)) n t) n k))), (5, .int (nI v)), (8, .int (sLd (sGo (fu f k 1 (nI v)) n t) n k)), (0, .ref (a 0)), (1, .int (nI k)), (2, .int (nI 1)), (3, .int (nI t)), (4, .int (fi f k 1)), (7, .int (nI v))]) hx hb dX4_loudestBy_71 hl (by decide) rfl (fun ls hl => ?_)
          refine lv_iinc (v := nI (v + 1)) (lv' := [(7, .int (nI (v + 1))), (6, .int (iMax ((lbP f n k 1 t v).2) (sLd (sGo (fu f k 1 (nI v)) n t) n k))), (5, .int (nI v)), (8, .int (sLd (sGo (fu f k 1 (nI v)) n t) n k)), (0, .ref (a 0)), (1, .int (nI k)), (2, .int (nI 1)), (3, .int (nI t)), (4, .int (fi f k 1))]) hx hb dX4_loudestBy_73 hl (k := 8) rfl (q_inc _) (by decide) rfl (fun ls hl => ?_)
          refine lv_goto (tgt := 17) hx hb dX4_loudestBy_76 (by decide) ?_
          exact ih_17 (v + 1) _ _ ls (by omega) (by omega) hP hD hS (by rw [show nI ((lbP f n k 1 t (v + 1)).1) = nI v from by rw [lbP, if_pos (i32_lt_of_not_le c_52)], show (lbP f n k 1 t (v + 1)).2 = iMax ((lbP f n k 1 t v).2) (sLd (sGo (fu f k 1 (nI v)) n t) n k) from by rw [lbP, if_pos (i32_lt_of_not_le c_52)]; exact (if_pos (i32_lt_of_not_le c_52)).symm]; exact lv_sub hl [4, 5, 6, 7, 8, 2, 1, 0] rfl)
  exact L_17 ((6 - 0) + 1) 0 _ _ ls (Nat.lt_succ_self _) (Nat.zero_le _) hP hD hS (by rw [show nI ((lbP f n k 1 t 0).1) = nI 0 from rfl, show (lbP f n k 1 t 0).2 = (-1) from rfl]; exact lv_sub hl [4, 5, 6, 7, 3, 2, 1, 0] rfl)
set_option maxRecDepth 100000 in
set_option maxHeartbeats 4000000 in
theorem c_X4_loudestBy_w3 (l : Launch) (D : va_G) (cI cJ : ClassId) (a : Nat → Nat) (f : Nat → Int32) (σ : Nat → Nat → Int32) (k : Nat) (t : Nat) (n : Nat) (hw : Wk f n) (d : Nat) (hd : f 1 = nI d) (hk : k < n) (ht : t ≤ 40) (hd2 : d + 100 ≤ 99999) : WR l yX4_loudestBy cX4_loudestBy 9 (some .int) 7 D cI cJ (MW cI a f σ) [.ref (a 0), .int (nI k), .int (nI 3), .int (nI t)] (some (.int (nI ((lbP f n k 3 t 12).1)))) (MW cI a f (va_up σ 3 (fu f k 3 (nI 11)))) := by
  have h8 := hw.2.1
  refine WR.of (by decide) (Nat.le_of_ble_eq_true rfl) (fun p e s m below meth c ls A S hr hlk hK hP hD hS hA hl => ?_)
  obtain ⟨hx, hb, hml, hown, hU⟩ := id S
  have hl : lv_has ls 9 [(0, .ref (a 0)), (1, .int (nI k)), (2, .int (nI 3)), (3, .int (nI t))] := hl
  refine lv_aload_n hx hb dX4_loudestBy_0 rfl (lv_at hl 0 rfl) ?_
  refine lv_iload_n hx hb dX4_loudestBy_1 rfl (lv_at hl 1 rfl) ?_
  refine lv_iload_n hx hb dX4_loudestBy_2 rfl (lv_at hl 2 rfl) ?_
  refine RO.callV S kv_X4_57 (c_X4_its l D cI cJ a f σ k 3 (by omega)) hK hP rfl ⟨Nat.le_of_ble_eq_true rfl, Nat.le_of_ble_eq_true rfl⟩ hl.1 rfl rfl (Nat.le_of_ble_eq_true rfl) (Nat.zero_le _) (Nat.zero_le _) dX4_loudestBy_3 ?_
  refine lv_istore (lv' := [(4, .int (fi f k 3)), (0, .ref (a 0)), (1, .int (nI k)), (2, .int (nI 3)), (3, .int (nI t))]) hx hb dX4_loudestBy_6 hl (by decide) rfl (fun ls hl => ?_)
  refine lv_iconst (v := nI 0) hx hb dX4_loudestBy_8 (by decide) ?_
  refine lv_istore (lv' := [(5, .int (nI 0)), (4, .int (fi f k 3)), (0, .ref (a 0)), (1, .int (nI k)), (2, .int (nI 3)), (3, .int (nI t))]) hx hb dX4_loudestBy_9 hl (by decide) rfl (fun ls hl => ?_)
  refine lv_iconst (v := (-1)) hx hb dX4_loudestBy_11 (by decide) ?_
  refine lv_istore (lv' := [(6, .int (-1)), (5, .int (nI 0)), (4, .int (fi f k 3)), (0, .ref (a 0)), (1, .int (nI k)), (2, .int (nI 3)), (3, .int (nI t))]) hx hb dX4_loudestBy_12 hl (by decide) rfl (fun ls hl => ?_)
  refine lv_iconst (v := nI 0) hx hb dX4_loudestBy_14 (by decide) ?_
  refine lv_istore (lv' := [(7, .int (nI 0)), (6, .int (-1)), (5, .int (nI 0)), (4, .int (fi f k 3)), (0, .ref (a 0)), (1, .int (nI k)), (2, .int (nI 3)), (3, .int (nI t))]) hx hb dX4_loudestBy_15 hl (by decide) rfl (fun ls hl => ?_)
  have L_17 : ∀ (n9 : Nat) (v : Nat) (H : Heap) (locs : List Loc) (ls : Array Slot), 12 - v < n9 → v ≤ 12 → va_P D vwCl (MW cI a (lbS f k 3 v) (lbT σ f k 3 v)) H → va_D A (MW cI a (lbS f k 3 v) (lbT σ f k 3 v)) → va_S A s.heap H locs → lv_has ls 9 [(0, .ref (a 0)), (1, .int (nI k)), (2, .int (nI 3)), (3, .int (nI t)), (4, .int (fi f k 3)), (5, .int (nI ((lbP f n k 3 t v).1))), (6, .int ((lbP f n k 3 t v).2)), (7, .int (nI v))] → W p l e (rmd 7) s m ([.ref (a 0), .int (nI k), .int (nI 3), .int (nI t)] : List Value).toArray below meth c H locs 0 0 (ZW below ([.ref (a 0), .int (nI k), .int (nI 3), .int (nI t)] : List Value).toArray s D (some (.int (nI ((lbP f n k 3 t 12).1)))) (MW cI a f (va_up σ 3 (fu f k 3 (nI 11)))) A) (F0 m 17 ls []) := by
    intro n9
    induction n9 with
    | zero => intro v H locs ls hm; exact absurd hm (Nat.not_lt_zero _)
    | succ n9 ih_17 =>
      intro v H locs ls hm hv hP hD hS hl
      refine lv_iload hx hb dX4_loudestBy_17 (lv_at hl 7 rfl) ?_
      refine lv_iload_n hx hb dX4_loudestBy_19 rfl (lv_at hl 2 rfl) ?_
      refine RO.callS S ks_X4_98 (c_X4_greatestOf l D cI cJ a (lbS f k 3 v) (lbT σ f k 3 v) (nI 3)) hK hP ⟨Nat.le_of_ble_eq_true rfl, Nat.le_of_ble_eq_true rfl⟩ hl.1 rfl rfl (Nat.le_of_ble_eq_true rfl) (Nat.zero_le _) (Nat.zero_le _) dX4_loudestBy_20 ?_
      refine q_eqi (y := nI 11) (by decide) ?_
      refine q_icmp_gtN (tgt := 79) (a := v) (b := 11) hx hb dX4_loudestBy_23 (by decide) (by omega) (by omega) (fun c_23 => ?_) (fun c_23 => ?_)
      · refine lv_aload_n hx hb dX4_loudestBy_79 rfl (lv_at hl 0 rfl) ?_
        refine g4_s S hK hP dX4_loudestBy_80 ?_
        refine lv_iload_n hx hb dX4_loudestBy_83 rfl (lv_at hl 1 rfl) ?_
        refine lv_iload_n hx hb dX4_loudestBy_84 rfl (lv_at hl 2 rfl) ?_
        refine RO.callS S ks_X4_70 (c_X4_at l D cI cJ a (lbS f k 3 v) (lbT σ f k 3 v) k 3) hK hP ⟨Nat.le_of_ble_eq_true rfl, Nat.le_of_ble_eq_true rfl⟩ hl.1 rfl rfl (Nat.le_of_ble_eq_true rfl) (Nat.zero_le _) (Nat.zero_le _) dX4_loudestBy_85 ?_
        refine lv_iload hx hb dX4_loudestBy_88 (lv_at hl 4 rfl) ?_
        refine s4_s S hK hP hD hS (j := 16 + 7 * k + 3) (by omega) dX4_loudestBy_90 (fun H locs hP hD hS => ?_)
        rw [lbS_up (w := 3)] at hP hD
        rw [show fu f k 3 (fi f k 3) = f from fu_self] at hP hD
        refine lv_iload hx hb dX4_loudestBy_91 (lv_at hl 5 rfl) ?_
        exact WR.iret S hr hlk hP hS (by rw [show v = 12 by omega]; rfl) (congrArg (fun z => some (Value.int z)) (by rw [show v = 12 by omega])) dX4_loudestBy_93
      · refine lv_aload_n hx hb dX4_loudestBy_26 rfl (lv_at hl 0 rfl) ?_
        refine g4_s S hK hP dX4_loudestBy_27 ?_
        refine lv_iload_n hx hb dX4_loudestBy_30 rfl (lv_at hl 1 rfl) ?_
        refine lv_iload_n hx hb dX4_loudestBy_31 rfl (lv_at hl 2 rfl) ?_
        refine RO.callS S ks_X4_70 (c_X4_at l D cI cJ a (lbS f k 3 v) (lbT σ f k 3 v) k 3) hK hP ⟨Nat.le_of_ble_eq_true rfl, Nat.le_of_ble_eq_true rfl⟩ hl.1 rfl rfl (Nat.le_of_ble_eq_true rfl) (Nat.zero_le _) (Nat.zero_le _) dX4_loudestBy_32 ?_
        refine lv_iload hx hb dX4_loudestBy_35 (lv_at hl 7 rfl) ?_
        refine s4_s S hK hP hD hS (j := 16 + 7 * k + 3) (by omega) dX4_loudestBy_37 (fun H locs hP hD hS => ?_)
        rw [lbS_up (w := 3)] at hP hD
        refine lv_aload_n hx hb dX4_loudestBy_38 rfl (lv_at hl 0 rfl) ?_
        refine lv_iload_n hx hb dX4_loudestBy_39 rfl (lv_at hl 1 rfl) ?_
        refine lv_bipush (v := nI 7) hx hb dX4_loudestBy_40 (by decide) ?_
        refine lv_iload_n hx hb dX4_loudestBy_42 rfl (lv_at hl 3 rfl) ?_
        refine WR.callV (w1 := MW cI a (fu f k 3 (nI v)) (va_up (lbT σ f k 3 v) 3 (fu f k 3 (nI v)))) S kv_X4_150 (c_X4_then_w7 l D cI cJ a (fu f k 3 (nI v)) (lbT σ f k 3 v) k t n (hw.fuw (by decide) (by decide)) d ((fu_lo (by decide)).trans hd) (by omega) (by omega)) hK hP hD hS hA ([]) ([]) rfl rfl rfl rfl ⟨Nat.le_of_ble_eq_true rfl, Nat.le_of_ble_eq_true rfl⟩ hl.1 rfl rfl (Nat.le_of_ble_eq_true rfl) (Nat.zero_le _) (Nat.zero_le _) dX4_loudestBy_43 (fun H locs hP hD hS => ?_)
        rw [lbT_up] at hP hD
        refine lv_istore (lv' := [(8, .int (sLd (sGo (fu f k 3 (nI v)) n t) n k)), (0, .ref (a 0)), (1, .int (nI k)), (2, .int (nI 3)), (3, .int (nI t)), (4, .int (fi f k 3)), (5, .int (nI ((lbP f n k 3 t v).1))), (6, .int ((lbP f n k 3 t v).2)), (7, .int (nI v))]) hx hb dX4_loudestBy_46 hl (by decide) rfl (fun ls hl => ?_)
        refine lv_iload hx hb dX4_loudestBy_48 (lv_at hl 0 rfl) ?_
        refine lv_iload hx hb dX4_loudestBy_50 (lv_at hl 7 rfl) ?_
        refine lv_icmp_le (tgt := 60) hx hb dX4_loudestBy_52 (by decide) (fun c_52 => ?_) (fun c_52 => ?_)
        · refine lv_iload hx hb dX4_loudestBy_60 (lv_at hl 6 rfl) ?_
          refine lv_istore (lv' := [(5, .int (nI ((lbP f n k 3 t v).1))), (8, .int (sLd (sGo (fu f k 3 (nI v)) n t) n k)), (0, .ref (a 0)), (1, .int (nI k)), (2, .int (nI 3)), (3, .int (nI t)), (4, .int (fi f k 3)), (6, .int ((lbP f n k 3 t v).2)), (7, .int (nI v))]) hx hb dX4_loudestBy_62 hl (by decide) rfl (fun ls hl => ?_)
          refine lv_iload hx hb dX4_loudestBy_64 (lv_at hl 7 rfl) ?_
          refine lv_iload hx hb dX4_loudestBy_66 (lv_at hl 1 rfl) ?_
          refine RO.callS S ks_X4_80 (c_X4_greatest l D cI cJ a (fu f k 3 (nI v)) (va_up σ 3 (fu f k 3 (nI v))) ((lbP f n k 3 t v).2) (sLd (sGo (fu f k 3 (nI v)) n t) n k)) hK hP ⟨Nat.le_of_ble_eq_true rfl, Nat.le_of_ble_eq_true rfl⟩ hl.1 rfl rfl (Nat.le_of_ble_eq_true rfl) (Nat.zero_le _) (Nat.zero_le _) dX4_loudestBy_68 ?_
          refine lv_istore (lv' := [(6, .int (iMax ((lbP f n k 3 t v).2) (sLd (sGo (fu f k 3 (nI v)) n t) n k))), (5, .int (nI ((lbP f n k 3 t v).1))), (8, .int (sLd (sGo (fu f k 3 (nI v)) n t) n k)), (0, .ref (a 0)), (1, .int (nI k)), (2, .int (nI 3)), (3, .int (nI t)), (4, .int (fi f k 3)), (7, .int (nI v))]) hx hb dX4_loudestBy_71 hl (by decide) rfl (fun ls hl => ?_)
          refine lv_iinc (v := nI (v + 1)) (lv' := [(7, .int (nI (v + 1))), (6, .int (iMax ((lbP f n k 3 t v).2) (sLd (sGo (fu f k 3 (nI v)) n t) n k))), (5, .int (nI ((lbP f n k 3 t v).1))), (8, .int (sLd (sGo (fu f k 3 (nI v)) n t) n k)), (0, .ref (a 0)), (1, .int (nI k)), (2, .int (nI 3)), (3, .int (nI t)), (4, .int (fi f k 3))]) hx hb dX4_loudestBy_73 hl (k := 8) rfl (q_inc _) (by decide) rfl (fun ls hl => ?_)
          refine lv_goto (tgt := 17) hx hb dX4_loudestBy_76 (by decide) ?_
          exact ih_17 (v + 1) _ _ ls (by omega) (by omega) hP hD hS (by rw [show nI ((lbP f n k 3 t (v + 1)).1) = nI ((lbP f n k 3 t v).1) from by rw [lbP, if_neg (i32_not_lt_of_le c_52)], show (lbP f n k 3 t (v + 1)).2 = iMax ((lbP f n k 3 t v).2) (sLd (sGo (fu f k 3 (nI v)) n t) n k) from by rw [lbP, if_neg (i32_not_lt_of_le c_52)]; exact (if_neg (i32_not_lt_of_le c_52)).symm]; exact lv_sub hl [4, 5, 6, 7, 8, 2, 1, 0] rfl)
        · refine lv_iload hx hb dX4_loudestBy_55 (lv_at hl 8 rfl) ?_
          refine lv_goto (tgt := 62) hx hb dX4_loudestBy_57 (by decide) ?_
          refine lv_istore (lv' := [(5, .int (nI v)), (8, .int (sLd (sGo (fu f k 3 (nI v)) n t) n k)), (0, .ref (a 0)), (1, .int (nI k)), (2, .int (nI 3)), (3, .int (nI t)), (4, .int (fi f k 3)), (6, .int ((lbP f n k 3 t v).2)), (7, .int (nI v))]) hx hb dX4_loudestBy_62 hl (by decide) rfl (fun ls hl => ?_)
          refine lv_iload hx hb dX4_loudestBy_64 (lv_at hl 7 rfl) ?_
          refine lv_iload hx hb dX4_loudestBy_66 (lv_at hl 1 rfl) ?_
          refine RO.callS S ks_X4_80 (c_X4_greatest l D cI cJ a (fu f k 3 (nI v)) (va_up σ 3 (fu f k 3 (nI v))) ((lbP f n k 3 t v).2) (sLd (sGo (fu f k 3 (nI v)) n t) n k)) hK hP ⟨Nat.le_of_ble_eq_true rfl, Nat.le_of_ble_eq_true rfl⟩ hl.1 rfl rfl (Nat.le_of_ble_eq_true rfl) (Nat.zero_le _) (Nat.zero_le _) dX4_loudestBy_68 ?_
          refine lv_istore (lv' := [(6, .int (iMax ((lbP f n k 3 t v).2) (sLd (sGo (fu f k 3 (nI v)) n t) n k))), (5, .int (nI v)), (8, .int (sLd (sGo (fu f k 3 (nI v)) n t) n k)), (0, .ref (a 0)), (1, .int (nI k)), (2, .int (nI 3)), (3, .int (nI t)), (4, .int (fi f k 3)), (7, .int (nI v))]) hx hb dX4_loudestBy_71 hl (by decide) rfl (fun ls hl => ?_)
          refine lv_iinc (v := nI (v + 1)) (lv' := [(7, .int (nI (v + 1))), (6, .int (iMax ((lbP f n k 3 t v).2) (sLd (sGo (fu f k 3 (nI v)) n t) n k))), (5, .int (nI v)), (8, .int (sLd (sGo (fu f k 3 (nI v)) n t) n k)), (0, .ref (a 0)), (1, .int (nI k)), (2, .int (nI 3)), (3, .int (nI t)), (4, .int (fi f k 3))]) hx hb dX4_loudestBy_73 hl (k := 8) rfl (q_inc _) (by decide) rfl (fun ls hl => ?_)
          refine lv_goto (tgt := 17) hx hb dX4_loudestBy_76 (by decide) ?_
          exact ih_17 (v + 1) _ _ ls (by omega) (by omega) hP hD hS (by rw [show nI ((lbP f n k 3 t (v + 1)).1) = nI v from by rw [lbP, if_pos (i32_lt_of_not_le c_52)], show (lbP f n k 3 t (v + 1)).2 = iMax ((lbP f n k 3 t v).2) (sLd (sGo (fu f k 3 (nI v)) n t) n k) from by rw [lbP, if_pos (i32_lt_of_not_le c_52)]; exact (if_pos (i32_lt_of_not_le c_52)).symm]; exact lv_sub hl [4, 5, 6, 7, 8, 2, 1, 0] rfl)
  exact L_17 ((12 - 0) + 1) 0 _ _ ls (Nat.lt_succ_self _) (Nat.zero_le _) hP hD hS (by rw [show nI ((lbP f n k 3 t 0).1) = nI 0 from rfl, show (lbP f n k 3 t 0).2 = (-1) from rfl]; exact lv_sub hl [4, 5, 6, 7, 3, 2, 1, 0] rfl)
set_option maxRecDepth 100000 in
set_option maxHeartbeats 4000000 in
theorem c_X4_lay_ok (l : Launch) (D : va_G) (cI cJ : ClassId) (a : Nat → Nat) (f : Nat → Int32) (σ : Nat → Nat → Int32) (k : Nat) (t : Nat) (n : Nat) (hw : Wk f n) (d : Nat) (hd : f 1 = nI d) (hk : k < n) (ht : t ≤ 40) (hd2 : d + 100 ≤ 99999) : WR l yX4_lay cX4_lay 3 (some .int) 8 D cI cJ (MW cI a f σ) [.ref (a 0), .int (nI k), .int (nI t)] (some (.int (nI ((lbP f n k 1 t 6).1)))) (MW cI a f (va_up σ 3 (fu f k 1 (nI 5)))) := by
  have h8 := hw.2.1
  refine WR.of (by decide) (Nat.le_of_ble_eq_true rfl) (fun p e s m below meth c ls A S hr hlk hK hP hD hS hA hl => ?_)
  obtain ⟨hx, hb, hml, hown, hU⟩ := id S
  have hl : lv_has ls 3 [(0, .ref (a 0)), (1, .int (nI k)), (2, .int (nI t))] := hl
  refine lv_aload_n hx hb dX4_lay_0 rfl (lv_at hl 0 rfl) ?_
  refine lv_iload_n hx hb dX4_lay_1 rfl (lv_at hl 1 rfl) ?_
  refine lv_iload_n hx hb dX4_lay_2 rfl (lv_at hl 2 rfl) ?_
  refine RO.callV S kv_X4_161 (c_X4_isAsked l D cI cJ a f σ (nI k) (nI t) n (hw)) hK hP rfl ⟨Nat.le_of_ble_eq_true rfl, Nat.le_of_ble_eq_true rfl⟩ hl.1 rfl rfl (Nat.le_of_ble_eq_true rfl) (Nat.zero_le _) (Nat.zero_le _) dX4_lay_3 ?_
  refine q_if_eqB (tgt := 19) hx hb dX4_lay_6 (by decide) (fun h => absurd (⟨⟨nI_pos' (by omega), nI_lt (by omega) (by omega)⟩, ⟨nI_le (by omega) (by omega), nI_le (by omega) (by omega)⟩⟩) h) (fun _ => ?_)
  refine lv_aload_n hx hb dX4_lay_9 rfl (lv_at hl 0 rfl) ?_
  refine lv_iload_n hx hb dX4_lay_10 rfl (lv_at hl 1 rfl) ?_
  refine lv_iconst (v := nI 1) hx hb dX4_lay_11 (by decide) ?_
  refine lv_iload_n hx hb dX4_lay_12 rfl (lv_at hl 2 rfl) ?_
  refine WR.callV (w1 := MW cI a f (va_up σ 3 (fu f k 1 (nI 5)))) S kv_X4_165 (c_X4_loudestBy_w1 l D cI cJ a f σ k t n hw d hd (by omega) (by omega) (by omega)) hK hP hD hS hA ([]) ([]) rfl rfl rfl rfl ⟨Nat.le_of_ble_eq_true rfl, Nat.le_of_ble_eq_true rfl⟩ hl.1 rfl rfl (Nat.le_of_ble_eq_true rfl) (Nat.zero_le _) (Nat.zero_le _) dX4_lay_13 (fun H locs hP hD hS => ?_)
  refine lv_goto (tgt := 25) hx hb dX4_lay_16 (by decide) ?_
  exact WR.iret S hr hlk hP hS (rfl) rfl dX4_lay_25
set_option maxRecDepth 100000 in
set_option maxHeartbeats 4000000 in
theorem c_X4_lay_bad (l : Launch) (D : va_G) (cI cJ : ClassId) (a : Nat → Nat) (f : Nat → Int32) (σ : Nat → Nat → Int32) (x : Int32) (y : Int32) (n : Nat) (hw : Wk f n) (hb0 : ¬ ((0 ≤ x ∧ x < nI n) ∧ (nI 0 ≤ y ∧ y ≤ nI 40))) : WR l yX4_lay cX4_lay 3 (some .int) 8 D cI cJ (MW cI a f σ) [.ref (a 0), .int x, .int y] (some (.int (-1000001))) (MW cI a f (va_up σ 4 (mFi (σ 4) 0))) := by
  refine WR.of (by decide) (Nat.le_of_ble_eq_true rfl) (fun p e s m below meth c ls A S hr hlk hK hP hD hS hA hl => ?_)
  obtain ⟨hx, hb, hml, hown, hU⟩ := id S
  have hl : lv_has ls 3 [(0, .ref (a 0)), (1, .int x), (2, .int y)] := hl
  refine lv_aload_n hx hb dX4_lay_0 rfl (lv_at hl 0 rfl) ?_
  refine lv_iload_n hx hb dX4_lay_1 rfl (lv_at hl 1 rfl) ?_
  refine lv_iload_n hx hb dX4_lay_2 rfl (lv_at hl 2 rfl) ?_
  refine RO.callV S kv_X4_161 (c_X4_isAsked l D cI cJ a f σ x y n (hw)) hK hP rfl ⟨Nat.le_of_ble_eq_true rfl, Nat.le_of_ble_eq_true rfl⟩ hl.1 rfl rfl (Nat.le_of_ble_eq_true rfl) (Nat.zero_le _) (Nat.zero_le _) dX4_lay_3 ?_
  refine q_if_eqB (tgt := 19) hx hb dX4_lay_6 (by decide) (fun c_6 => ?_) (fun c_6 => ?_)
  · refine lv_aload_n hx hb dX4_lay_19 rfl (lv_at hl 0 rfl) ?_
    refine lv_ldc (v := (-1000001)) hx hb hown (hU _ mK_X4_37) dX4_lay_20 ?_
    refine WR.callV (w1 := MW cI a f (va_up σ 4 (mFi (σ 4) 0))) S kv_X4_39 (c_X4_fd0 l D cI cJ a f σ) hK hP hD hS hA ([]) ([]) rfl rfl rfl rfl ⟨Nat.le_of_ble_eq_true rfl, Nat.le_of_ble_eq_true rfl⟩ hl.1 rfl rfl (Nat.le_of_ble_eq_true rfl) (Nat.zero_le _) (Nat.zero_le _) dX4_lay_22 (fun H locs hP hD hS => ?_)
    exact WR.iret S hr hlk hP hS (rfl) rfl dX4_lay_25
  · exact absurd (c_6) hb0
set_option maxRecDepth 100000 in
set_option maxHeartbeats 4000000 in
theorem c_X4_kindFor_ok (l : Launch) (D : va_G) (cI cJ : ClassId) (a : Nat → Nat) (f : Nat → Int32) (σ : Nat → Nat → Int32) (k : Nat) (t : Nat) (n : Nat) (hw : Wk f n) (d : Nat) (hd : f 1 = nI d) (hk : k < n) (ht : t ≤ 40) (hd2 : d + 100 ≤ 99999) : WR l yX4_kindFor cX4_kindFor 3 (some .int) 8 D cI cJ (MW cI a f σ) [.ref (a 0), .int (nI k), .int (nI t)] (some (.int (nI ((lbP f n k 0 t 7).1)))) (MW cI a f (va_up σ 3 (fu f k 0 (nI 6)))) := by
  have h8 := hw.2.1
  refine WR.of (by decide) (Nat.le_of_ble_eq_true rfl) (fun p e s m below meth c ls A S hr hlk hK hP hD hS hA hl => ?_)
  obtain ⟨hx, hb, hml, hown, hU⟩ := id S
  have hl : lv_has ls 3 [(0, .ref (a 0)), (1, .int (nI k)), (2, .int (nI t))] := hl
  refine lv_aload_n hx hb dX4_kindFor_0 rfl (lv_at hl 0 rfl) ?_
  refine lv_iload_n hx hb dX4_kindFor_1 rfl (lv_at hl 1 rfl) ?_
  refine lv_iload_n hx hb dX4_kindFor_2 rfl (lv_at hl 2 rfl) ?_
  refine RO.callV S kv_X4_161 (c_X4_isAsked l D cI cJ a f σ (nI k) (nI t) n (hw)) hK hP rfl ⟨Nat.le_of_ble_eq_true rfl, Nat.le_of_ble_eq_true rfl⟩ hl.1 rfl rfl (Nat.le_of_ble_eq_true rfl) (Nat.zero_le _) (Nat.zero_le _) dX4_kindFor_3 ?_
  refine q_if_eqB (tgt := 19) hx hb dX4_kindFor_6 (by decide) (fun h => absurd (⟨⟨nI_pos' (by omega), nI_lt (by omega) (by omega)⟩, ⟨nI_le (by omega) (by omega), nI_le (by omega) (by omega)⟩⟩) h) (fun _ => ?_)
  refine lv_aload_n hx hb dX4_kindFor_9 rfl (lv_at hl 0 rfl) ?_
  refine lv_iload_n hx hb dX4_kindFor_10 rfl (lv_at hl 1 rfl) ?_
  refine lv_iconst (v := nI 0) hx hb dX4_kindFor_11 (by decide) ?_
  refine lv_iload_n hx hb dX4_kindFor_12 rfl (lv_at hl 2 rfl) ?_
  refine WR.callV (w1 := MW cI a f (va_up σ 3 (fu f k 0 (nI 6)))) S kv_X4_165 (c_X4_loudestBy_w0 l D cI cJ a f σ k t n hw d hd (by omega) (by omega) (by omega)) hK hP hD hS hA ([]) ([]) rfl rfl rfl rfl ⟨Nat.le_of_ble_eq_true rfl, Nat.le_of_ble_eq_true rfl⟩ hl.1 rfl rfl (Nat.le_of_ble_eq_true rfl) (Nat.zero_le _) (Nat.zero_le _) dX4_kindFor_13 (fun H locs hP hD hS => ?_)
  refine lv_goto (tgt := 25) hx hb dX4_kindFor_16 (by decide) ?_
  exact WR.iret S hr hlk hP hS (rfl) rfl dX4_kindFor_25
set_option maxRecDepth 100000 in
set_option maxHeartbeats 4000000 in
theorem c_X4_kindFor_bad (l : Launch) (D : va_G) (cI cJ : ClassId) (a : Nat → Nat) (f : Nat → Int32) (σ : Nat → Nat → Int32) (x : Int32) (y : Int32) (n : Nat) (hw : Wk f n) (hb0 : ¬ ((0 ≤ x ∧ x < nI n) ∧ (nI 0 ≤ y ∧ y ≤ nI 40))) : WR l yX4_kindFor cX4_kindFor 3 (some .int) 8 D cI cJ (MW cI a f σ) [.ref (a 0), .int x, .int y] (some (.int (-1000001))) (MW cI a f (va_up σ 4 (mFi (σ 4) 0))) := by
  refine WR.of (by decide) (Nat.le_of_ble_eq_true rfl) (fun p e s m below meth c ls A S hr hlk hK hP hD hS hA hl => ?_)
  obtain ⟨hx, hb, hml, hown, hU⟩ := id S
  have hl : lv_has ls 3 [(0, .ref (a 0)), (1, .int x), (2, .int y)] := hl
  refine lv_aload_n hx hb dX4_kindFor_0 rfl (lv_at hl 0 rfl) ?_
  refine lv_iload_n hx hb dX4_kindFor_1 rfl (lv_at hl 1 rfl) ?_
  refine lv_iload_n hx hb dX4_kindFor_2 rfl (lv_at hl 2 rfl) ?_
  refine RO.callV S kv_X4_161 (c_X4_isAsked l D cI cJ a f σ x y n (hw)) hK hP rfl ⟨Nat.le_of_ble_eq_true rfl, Nat.le_of_ble_eq_true rfl⟩ hl.1 rfl rfl (Nat.le_of_ble_eq_true rfl) (Nat.zero_le _) (Nat.zero_le _) dX4_kindFor_3 ?_
  refine q_if_eqB (tgt := 19) hx hb dX4_kindFor_6 (by decide) (fun c_6 => ?_) (fun c_6 => ?_)
  · refine lv_aload_n hx hb dX4_kindFor_19 rfl (lv_at hl 0 rfl) ?_
    refine lv_ldc (v := (-1000001)) hx hb hown (hU _ mK_X4_37) dX4_kindFor_20 ?_
    refine WR.callV (w1 := MW cI a f (va_up σ 4 (mFi (σ 4) 0))) S kv_X4_39 (c_X4_fd0 l D cI cJ a f σ) hK hP hD hS hA ([]) ([]) rfl rfl rfl rfl ⟨Nat.le_of_ble_eq_true rfl, Nat.le_of_ble_eq_true rfl⟩ hl.1 rfl rfl (Nat.le_of_ble_eq_true rfl) (Nat.zero_le _) (Nat.zero_le _) dX4_kindFor_22 (fun H locs hP hD hS => ?_)
    exact WR.iret S hr hlk hP hS (rfl) rfl dX4_kindFor_25
  · exact absurd (c_6) hb0
set_option maxRecDepth 100000 in
set_option maxHeartbeats 4000000 in
theorem c_X4_pitchFor_ok (l : Launch) (D : va_G) (cI cJ : ClassId) (a : Nat → Nat) (f : Nat → Int32) (σ : Nat → Nat → Int32) (k : Nat) (t : Nat) (n : Nat) (hw : Wk f n) (d : Nat) (hd : f 1 = nI d) (hk : k < n) (ht : t ≤ 40) (hd2 : d + 100 ≤ 99999) : WR l yX4_pitchFor cX4_pitchFor 3 (some .int) 8 D cI cJ (MW cI a f σ) [.ref (a 0), .int (nI k), .int (nI t)] (some (.int (nI ((lbP f n k 3 t 12).1)))) (MW cI a f (va_up σ 3 (fu f k 3 (nI 11)))) := by
  have h8 := hw.2.1
  refine WR.of (by decide) (Nat.le_of_ble_eq_true rfl) (fun p e s m below meth c ls A S hr hlk hK hP hD hS hA hl => ?_)
  obtain ⟨hx, hb, hml, hown, hU⟩ := id S
  have hl : lv_has ls 3 [(0, .ref (a 0)), (1, .int (nI k)), (2, .int (nI t))] := hl
  refine lv_aload_n hx hb dX4_pitchFor_0 rfl (lv_at hl 0 rfl) ?_
  refine lv_iload_n hx hb dX4_pitchFor_1 rfl (lv_at hl 1 rfl) ?_
  refine lv_iload_n hx hb dX4_pitchFor_2 rfl (lv_at hl 2 rfl) ?_
  refine RO.callV S kv_X4_161 (c_X4_isAsked l D cI cJ a f σ (nI k) (nI t) n (hw)) hK hP rfl ⟨Nat.le_of_ble_eq_true rfl, Nat.le_of_ble_eq_true rfl⟩ hl.1 rfl rfl (Nat.le_of_ble_eq_true rfl) (Nat.zero_le _) (Nat.zero_le _) dX4_pitchFor_3 ?_
  refine q_if_eqB (tgt := 19) hx hb dX4_pitchFor_6 (by decide) (fun h => absurd (⟨⟨nI_pos' (by omega), nI_lt (by omega) (by omega)⟩, ⟨nI_le (by omega) (by omega), nI_le (by omega) (by omega)⟩⟩) h) (fun _ => ?_)
  refine lv_aload_n hx hb dX4_pitchFor_9 rfl (lv_at hl 0 rfl) ?_
  refine lv_iload_n hx hb dX4_pitchFor_10 rfl (lv_at hl 1 rfl) ?_
  refine lv_iconst (v := nI 3) hx hb dX4_pitchFor_11 (by decide) ?_
  refine lv_iload_n hx hb dX4_pitchFor_12 rfl (lv_at hl 2 rfl) ?_
  refine WR.callV (w1 := MW cI a f (va_up σ 3 (fu f k 3 (nI 11)))) S kv_X4_165 (c_X4_loudestBy_w3 l D cI cJ a f σ k t n hw d hd (by omega) (by omega) (by omega)) hK hP hD hS hA ([]) ([]) rfl rfl rfl rfl ⟨Nat.le_of_ble_eq_true rfl, Nat.le_of_ble_eq_true rfl⟩ hl.1 rfl rfl (Nat.le_of_ble_eq_true rfl) (Nat.zero_le _) (Nat.zero_le _) dX4_pitchFor_13 (fun H locs hP hD hS => ?_)
  refine lv_goto (tgt := 25) hx hb dX4_pitchFor_16 (by decide) ?_
  exact WR.iret S hr hlk hP hS (rfl) rfl dX4_pitchFor_25
set_option maxRecDepth 100000 in
set_option maxHeartbeats 4000000 in
theorem c_X4_pitchFor_bad (l : Launch) (D : va_G) (cI cJ : ClassId) (a : Nat → Nat) (f : Nat → Int32) (σ : Nat → Nat → Int32) (x : Int32) (y : Int32) (n : Nat) (hw : Wk f n) (hb0 : ¬ ((0 ≤ x ∧ x < nI n) ∧ (nI 0 ≤ y ∧ y ≤ nI 40))) : WR l yX4_pitchFor cX4_pitchFor 3 (some .int) 8 D cI cJ (MW cI a f σ) [.ref (a 0), .int x, .int y] (some (.int (-1000001))) (MW cI a f (va_up σ 4 (mFi (σ 4) 0))) := by
  refine WR.of (by decide) (Nat.le_of_ble_eq_true rfl) (fun p e s m below meth c ls A S hr hlk hK hP hD hS hA hl => ?_)
  obtain ⟨hx, hb, hml, hown, hU⟩ := id S
  have hl : lv_has ls 3 [(0, .ref (a 0)), (1, .int x), (2, .int y)] := hl
  refine lv_aload_n hx hb dX4_pitchFor_0 rfl (lv_at hl 0 rfl) ?_
  refine lv_iload_n hx hb dX4_pitchFor_1 rfl (lv_at hl 1 rfl) ?_
  refine lv_iload_n hx hb dX4_pitchFor_2 rfl (lv_at hl 2 rfl) ?_
  refine RO.callV S kv_X4_161 (c_X4_isAsked l D cI cJ a f σ x y n (hw)) hK hP rfl ⟨Nat.le_of_ble_eq_true rfl, Nat.le_of_ble_eq_true rfl⟩ hl.1 rfl rfl (Nat.le_of_ble_eq_true rfl) (Nat.zero_le _) (Nat.zero_le _) dX4_pitchFor_3 ?_
  refine q_if_eqB (tgt := 19) hx hb dX4_pitchFor_6 (by decide) (fun c_6 => ?_) (fun c_6 => ?_)
  · refine lv_aload_n hx hb dX4_pitchFor_19 rfl (lv_at hl 0 rfl) ?_
    refine lv_ldc (v := (-1000001)) hx hb hown (hU _ mK_X4_37) dX4_pitchFor_20 ?_
    refine WR.callV (w1 := MW cI a f (va_up σ 4 (mFi (σ 4) 0))) S kv_X4_39 (c_X4_fd0 l D cI cJ a f σ) hK hP hD hS hA ([]) ([]) rfl rfl rfl rfl ⟨Nat.le_of_ble_eq_true rfl, Nat.le_of_ble_eq_true rfl⟩ hl.1 rfl rfl (Nat.le_of_ble_eq_true rfl) (Nat.zero_le _) (Nat.zero_le _) dX4_pitchFor_22 (fun H locs hP hD hS => ?_)
    exact WR.iret S hr hlk hP hS (rfl) rfl dX4_pitchFor_25
  · exact absurd (c_6) hb0
set_option maxRecDepth 100000 in
set_option maxHeartbeats 4000000 in
theorem c_X4_hoopsFor_ok (l : Launch) (D : va_G) (cI cJ : ClassId) (a : Nat → Nat) (f : Nat → Int32) (σ : Nat → Nat → Int32) (k : Nat) (t : Nat) (n : Nat) (hw : Wk f n) (d : Nat) (hd : f 1 = nI d) (hk : k < n) (ht : t ≤ 20) (hd2 : d + 100 ≤ 99999) : WR l yX4_hoopsFor cX4_hoopsFor 6 (some .int) 7 D cI cJ (MW cI a f σ) [.ref (a 0), .int (nI k), .int (nI t)] (some (.int (aN (oHo f n k t)))) (MW cI a f (sgN (lbT σ f k 4 (hoL (oHo f n k t))) (oHo f n k t))) := by
  have h8 := hw.2.1
  refine WR.of (by decide) (Nat.le_of_ble_eq_true rfl) (fun p e s m below meth c ls A S hr hlk hK hP hD hS hA hl => ?_)
  obtain ⟨hx, hb, hml, hown, hU⟩ := id S
  have hl : lv_has ls 6 [(0, .ref (a 0)), (1, .int (nI k)), (2, .int (nI t))] := hl
  refine lv_aload_n hx hb dX4_hoopsFor_0 rfl (lv_at hl 0 rfl) ?_
  refine lv_iload_n hx hb dX4_hoopsFor_1 rfl (lv_at hl 1 rfl) ?_
  refine RO.callV S kv_X4_86 (c_X4_isCask l D cI cJ a f σ (nI k) n (hw.1)) hK hP rfl ⟨Nat.le_of_ble_eq_true rfl, Nat.le_of_ble_eq_true rfl⟩ hl.1 rfl rfl (Nat.le_of_ble_eq_true rfl) (Nat.zero_le _) (Nat.zero_le _) dX4_hoopsFor_2 ?_
  refine q_if_eqB (tgt := 20) hx hb dX4_hoopsFor_5 (by decide) (fun h => absurd (⟨nI_pos' (by omega), nI_lt (by omega) (by omega)⟩) h) (fun _ => ?_)
  refine lv_iload_n hx hb dX4_hoopsFor_8 rfl (lv_at hl 2 rfl) ?_
  refine lv_i2l hx hb dX4_hoopsFor_9 rfl ?_
  refine lv_lconst (v := 0) hx hb dX4_hoopsFor_10 (by decide) ?_
  refine lv_ldc2 (v := 20) hx hb hown (hU _ mK_X4_168) dX4_hoopsFor_11 ?_
  refine RO.callS S ks_X4_49 (c_X4_isIn l D cI cJ a f σ (nI t) (nI 0) (nI 20)) hK hP ⟨Nat.le_of_ble_eq_true rfl, Nat.le_of_ble_eq_true rfl⟩ hl.1 rfl rfl (Nat.le_of_ble_eq_true rfl) (Nat.zero_le _) (Nat.zero_le _) dX4_hoopsFor_14 ?_
  refine q_if_neB (tgt := 27) hx hb dX4_hoopsFor_17 (by decide) (fun _ => ?_) (fun h => absurd (⟨nI_le (by omega) (by omega), nI_le (by omega) (by omega)⟩) h)
  refine lv_aload_n hx hb dX4_hoopsFor_27 rfl (lv_at hl 0 rfl) ?_
  refine lv_iload_n hx hb dX4_hoopsFor_28 rfl (lv_at hl 1 rfl) ?_
  refine lv_iconst (v := nI 4) hx hb dX4_hoopsFor_29 (by decide) ?_
  refine RO.callV S kv_X4_57 (c_X4_its l D cI cJ a f σ k 4 (by omega)) hK hP rfl ⟨Nat.le_of_ble_eq_true rfl, Nat.le_of_ble_eq_true rfl⟩ hl.1 rfl rfl (Nat.le_of_ble_eq_true rfl) (Nat.zero_le _) (Nat.zero_le _) dX4_hoopsFor_30 ?_
  refine lv_istore_n (lv' := [(3, .int (fi f k 4)), (0, .ref (a 0)), (1, .int (nI k)), (2, .int (nI t))]) hx hb dX4_hoopsFor_33 rfl hl (by decide) rfl (fun ls hl => ?_)
  refine lv_iconst (v := (-1)) hx hb dX4_hoopsFor_34 (by decide) ?_
  refine lv_istore (lv' := [(4, .int (-1)), (3, .int (fi f k 4)), (0, .ref (a 0)), (1, .int (nI k)), (2, .int (nI t))]) hx hb dX4_hoopsFor_35 hl (by decide) rfl (fun ls hl => ?_)
  refine lv_iconst (v := nI 0) hx hb dX4_hoopsFor_37 (by decide) ?_
  refine lv_istore (lv' := [(5, .int (nI 0)), (4, .int (-1)), (3, .int (fi f k 4)), (0, .ref (a 0)), (1, .int (nI k)), (2, .int (nI t))]) hx hb dX4_hoopsFor_38 hl (by decide) rfl (fun ls hl => ?_)
  have L_40 : ∀ (n9 : Nat) (v : Nat) (o : Option Nat) (H : Heap) (locs : List Loc) (ls : Array Slot), 201 - v < n9 → v ≤ 201 → (match o with | none => fst1 (fun v => decide (fi (sGo (fu f k 4 (nI v)) n t) k 6 = fi f k 6)) (201 - v) v = oHo f n k t | some b => oHo f n k t = some b ∧ v = b + 1) → va_P D vwCl (MW cI a (lbS f k 4 v) (lbT σ f k 4 v)) H → va_D A (MW cI a (lbS f k 4 v) (lbT σ f k 4 v)) → va_S A s.heap H locs → lv_has ls 6 [(0, .ref (a 0)), (1, .int (nI k)), (2, .int (nI t)), (3, .int (fi f k 4)), (4, .int (oI o)), (5, .int (nI v))] → W p l e (rmd 7) s m ([.ref (a 0), .int (nI k), .int (nI t)] : List Value).toArray below meth c H locs 0 0 (ZW below ([.ref (a 0), .int (nI k), .int (nI t)] : List Value).toArray s D (some (.int (aN (oHo f n k t)))) (MW cI a f (sgN (lbT σ f k 4 (hoL (oHo f n k t))) (oHo f n k t))) A) (F0 m 40 ls []) := by
    intro n9
    induction n9 with
    | zero => intro v o H locs ls hm; exact absurd hm (Nat.not_lt_zero _)
    | succ n9 ih_40 =>
      intro v o H locs ls hm hv hO hP hD hS hl
      cases o with
      | none =>
        have hl : lv_has ls 6 [(0, .ref (a 0)), (1, .int (nI k)), (2, .int (nI t)), (3, .int (fi f k 4)), (4, .int (-1)), (5, .int (nI v))] := hl
        have hO : fst1 (fun v => decide (fi (sGo (fu f k 4 (nI v)) n t) k 6 = fi f k 6)) (201 - v) v = oHo f n k t := hO
        refine lv_iload hx hb dX4_hoopsFor_40 (lv_at hl 5 rfl) ?_
        refine lv_sipush (v := nI 200) hx hb dX4_hoopsFor_42 (by decide) ?_
        refine q_icmp_gtN (tgt := 97) (a := v) (b := 200) hx hb dX4_hoopsFor_45 (by decide) (by omega) (by omega) (fun c_45 => ?_) (fun c_45 => ?_)
        · have hE : oHo f n k t = none := by rw [← hO, show 201 - v = 0 by omega]; rfl
          have hv2 : v = 201 := by omega
          refine lv_aload_n hx hb dX4_hoopsFor_97 rfl (lv_at hl 0 rfl) ?_
          refine g4_s S hK hP dX4_hoopsFor_98 ?_
          refine lv_iload_n hx hb dX4_hoopsFor_101 rfl (lv_at hl 1 rfl) ?_
          refine lv_iconst (v := nI 4) hx hb dX4_hoopsFor_102 (by decide) ?_
          refine RO.callS S ks_X4_70 (c_X4_at l D cI cJ a (lbS f k 4 v) (lbT σ f k 4 v) k 4) hK hP ⟨Nat.le_of_ble_eq_true rfl, Nat.le_of_ble_eq_true rfl⟩ hl.1 rfl rfl (Nat.le_of_ble_eq_true rfl) (Nat.zero_le _) (Nat.zero_le _) dX4_hoopsFor_103 ?_
          refine lv_iload_n hx hb dX4_hoopsFor_106 rfl (lv_at hl 3 rfl) ?_
          refine s4_s S hK hP hD hS (j := 16 + 7 * k + 4) (by omega) dX4_hoopsFor_107 (fun H locs hP hD hS => ?_)
          rw [lbS_up (w := 4)] at hP hD
          rw [show fu f k 4 (fi f k 4) = f from fu_self] at hP hD
          refine lv_aload_n hx hb dX4_hoopsFor_108 rfl (lv_at hl 0 rfl) ?_
          refine lv_iload hx hb dX4_hoopsFor_109 (lv_at hl 4 rfl) ?_
          refine WR.callV (w1 := MW cI a f (va_up (lbT σ f k 4 v) 4 (mFi ((lbT σ f k 4 v) 4) 3))) S kv_X4_170 (c_X4_orNone_none l D cI cJ a f (lbT σ f k 4 v)) hK hP hD hS hA ([]) ([]) rfl rfl rfl rfl ⟨Nat.le_of_ble_eq_true rfl, Nat.le_of_ble_eq_true rfl⟩ hl.1 rfl rfl (Nat.le_of_ble_eq_true rfl) (Nat.zero_le _) (Nat.zero_le _) dX4_hoopsFor_111 (fun H locs hP hD hS => ?_)
          exact WR.iret S hr hlk hP hS (by rw [hE, hv2]; rfl) (congrArg (fun z => some (Value.int z)) (by rw [hE]; rfl)) dX4_hoopsFor_114
        · refine lv_iload hx hb dX4_hoopsFor_48 (lv_at hl 4 rfl) ?_
          refine lv_if_ge (tgt := 97) hx hb dX4_hoopsFor_50 (by decide) (fun h => absurd h (by decide)) (fun _ => ?_)
          refine lv_aload_n hx hb dX4_hoopsFor_53 rfl (lv_at hl 0 rfl) ?_
          refine g4_s S hK hP dX4_hoopsFor_54 ?_
          refine lv_iload_n hx hb dX4_hoopsFor_57 rfl (lv_at hl 1 rfl) ?_
          refine lv_iconst (v := nI 4) hx hb dX4_hoopsFor_58 (by decide) ?_
          refine RO.callS S ks_X4_70 (c_X4_at l D cI cJ a (lbS f k 4 v) (lbT σ f k 4 v) k 4) hK hP ⟨Nat.le_of_ble_eq_true rfl, Nat.le_of_ble_eq_true rfl⟩ hl.1 rfl rfl (Nat.le_of_ble_eq_true rfl) (Nat.zero_le _) (Nat.zero_le _) dX4_hoopsFor_59 ?_
          refine lv_iload hx hb dX4_hoopsFor_62 (lv_at hl 5 rfl) ?_
          refine s4_s S hK hP hD hS (j := 16 + 7 * k + 4) (by omega) dX4_hoopsFor_64 (fun H locs hP hD hS => ?_)
          rw [lbS_up (w := 4)] at hP hD
          refine lv_aload_n hx hb dX4_hoopsFor_65 rfl (lv_at hl 0 rfl) ?_
          refine lv_iload_n hx hb dX4_hoopsFor_66 rfl (lv_at hl 1 rfl) ?_
          refine lv_bipush (v := nI 6) hx hb dX4_hoopsFor_67 (by decide) ?_
          refine lv_iload_n hx hb dX4_hoopsFor_69 rfl (lv_at hl 2 rfl) ?_
          refine WR.callV (w1 := MW cI a (fu f k 4 (nI v)) (va_up (lbT σ f k 4 v) 3 (fu f k 4 (nI v)))) S kv_X4_150 (c_X4_then_w6 l D cI cJ a (fu f k 4 (nI v)) (lbT σ f k 4 v) k t n (hw.fuw (by decide) (by decide)) d ((fu_lo (by decide)).trans hd) (by omega) (by omega)) hK hP hD hS hA ([]) ([]) rfl rfl rfl rfl ⟨Nat.le_of_ble_eq_true rfl, Nat.le_of_ble_eq_true rfl⟩ hl.1 rfl rfl (Nat.le_of_ble_eq_true rfl) (Nat.zero_le _) (Nat.zero_le _) dX4_hoopsFor_70 (fun H locs hP hD hS => ?_)
          rw [lbT_up] at hP hD
          refine lv_aload_n hx hb dX4_hoopsFor_73 rfl (lv_at hl 0 rfl) ?_
          refine lv_iload_n hx hb dX4_hoopsFor_74 rfl (lv_at hl 1 rfl) ?_
          refine lv_bipush (v := nI 6) hx hb dX4_hoopsFor_75 (by decide) ?_
          refine RO.callV S kv_X4_57 (c_X4_its l D cI cJ a (fu f k 4 (nI v)) (va_up σ 3 (fu f k 4 (nI v))) k 6 (by omega)) hK hP rfl ⟨Nat.le_of_ble_eq_true rfl, Nat.le_of_ble_eq_true rfl⟩ hl.1 rfl rfl (Nat.le_of_ble_eq_true rfl) (Nat.zero_le _) (Nat.zero_le _) dX4_hoopsFor_77 ?_
          refine q_eqi (y := fi f k 6) (fi_fu_ne (by decide) (by decide) (by omega)) ?_
          refine lv_icmp_ne (tgt := 88) hx hb dX4_hoopsFor_80 (by decide) (fun c_80 => ?_) (fun c_80 => ?_)
          · refine lv_iconst (v := (-1)) hx hb dX4_hoopsFor_88 (by decide) ?_
            refine lv_istore (lv' := [(4, .int (-1)), (0, .ref (a 0)), (1, .int (nI k)), (2, .int (nI t)), (3, .int (fi f k 4)), (5, .int (nI v))]) hx hb dX4_hoopsFor_89 hl (by decide) rfl (fun ls hl => ?_)
            refine lv_iinc (v := nI (v + 1)) (lv' := [(5, .int (nI (v + 1))), (4, .int (-1)), (0, .ref (a 0)), (1, .int (nI k)), (2, .int (nI t)), (3, .int (fi f k 4))]) hx hb dX4_hoopsFor_91 hl (k := 5) rfl (q_inc _) (by decide) rfl (fun ls hl => ?_)
            refine lv_goto (tgt := 40) hx hb dX4_hoopsFor_94 (by decide) ?_
            exact ih_40 (v + 1) none _ _ ls (by omega) (by omega) (by show fst1 (fun v => decide (fi (sGo (fu f k 4 (nI v)) n t) k 6 = fi f k 6)) (201 - (v + 1)) (v + 1) = oHo f n k t; rw [← hO, show 201 - v = (201 - (v + 1)) + 1 by omega, fst1_go (by simpa using c_80)]) hP hD hS (by rw [show oI none = (-1) from rfl]; exact lv_sub hl [2, 3, 4, 5, 1, 0] rfl)
          · refine lv_iload hx hb dX4_hoopsFor_83 (lv_at hl 5 rfl) ?_
            refine lv_goto (tgt := 89) hx hb dX4_hoopsFor_85 (by decide) ?_
            refine lv_istore (lv' := [(4, .int (nI v)), (0, .ref (a 0)), (1, .int (nI k)), (2, .int (nI t)), (3, .int (fi f k 4)), (5, .int (nI v))]) hx hb dX4_hoopsFor_89 hl (by decide) rfl (fun ls hl => ?_)
            refine lv_iinc (v := nI (v + 1)) (lv' := [(5, .int (nI (v + 1))), (4, .int (nI v)), (0, .ref (a 0)), (1, .int (nI k)), (2, .int (nI t)), (3, .int (fi f k 4))]) hx hb dX4_hoopsFor_91 hl (k := 5) rfl (q_inc _) (by decide) rfl (fun ls hl => ?_)
            refine lv_goto (tgt := 40) hx hb dX4_hoopsFor_94 (by decide) ?_
            exact ih_40 (v + 1) (some v) _ _ ls (by omega) (by omega) (by show oHo f n k t = some v ∧ v + 1 = v + 1; rw [← hO, show 201 - v = (201 - (v + 1)) + 1 by omega, fst1_hit (by simpa using c_80)]; exact ⟨rfl, rfl⟩) hP hD hS (by rw [show oI (some v) = nI v from rfl]; exact lv_sub hl [2, 3, 4, 5, 1, 0] rfl)
      | some b =>
        have hl : lv_has ls 6 [(0, .ref (a 0)), (1, .int (nI k)), (2, .int (nI t)), (3, .int (fi f k 4)), (4, .int (nI b)), (5, .int (nI v))] := hl
        have hO : oHo f n k t = some b ∧ v = b + 1 := hO
        refine lv_iload hx hb dX4_hoopsFor_40 (lv_at hl 5 rfl) ?_
        refine lv_sipush (v := nI 200) hx hb dX4_hoopsFor_42 (by decide) ?_
        refine q_icmp_gtN (tgt := 97) (a := v) (b := 200) hx hb dX4_hoopsFor_45 (by decide) (by omega) (by omega) (fun c_45 => ?_) (fun c_45 => ?_)
        · have hE : oHo f n k t = some b := hO.1
          have hv2 : v = b + 1 := hO.2
          refine lv_aload_n hx hb dX4_hoopsFor_97 rfl (lv_at hl 0 rfl) ?_
          refine g4_s S hK hP dX4_hoopsFor_98 ?_
          refine lv_iload_n hx hb dX4_hoopsFor_101 rfl (lv_at hl 1 rfl) ?_
          refine lv_iconst (v := nI 4) hx hb dX4_hoopsFor_102 (by decide) ?_
          refine RO.callS S ks_X4_70 (c_X4_at l D cI cJ a (lbS f k 4 v) (lbT σ f k 4 v) k 4) hK hP ⟨Nat.le_of_ble_eq_true rfl, Nat.le_of_ble_eq_true rfl⟩ hl.1 rfl rfl (Nat.le_of_ble_eq_true rfl) (Nat.zero_le _) (Nat.zero_le _) dX4_hoopsFor_103 ?_
          refine lv_iload_n hx hb dX4_hoopsFor_106 rfl (lv_at hl 3 rfl) ?_
          refine s4_s S hK hP hD hS (j := 16 + 7 * k + 4) (by omega) dX4_hoopsFor_107 (fun H locs hP hD hS => ?_)
          rw [lbS_up (w := 4)] at hP hD
          rw [show fu f k 4 (fi f k 4) = f from fu_self] at hP hD
          refine lv_aload_n hx hb dX4_hoopsFor_108 rfl (lv_at hl 0 rfl) ?_
          refine lv_iload hx hb dX4_hoopsFor_109 (lv_at hl 4 rfl) ?_
          refine WR.callV (w1 := MW cI a f (lbT σ f k 4 v)) S kv_X4_170 (c_X4_orNone_some l D cI cJ a f (lbT σ f k 4 v) b (by omega)) hK hP hD hS hA ([]) ([]) rfl rfl rfl rfl ⟨Nat.le_of_ble_eq_true rfl, Nat.le_of_ble_eq_true rfl⟩ hl.1 rfl rfl (Nat.le_of_ble_eq_true rfl) (Nat.zero_le _) (Nat.zero_le _) dX4_hoopsFor_111 (fun H locs hP hD hS => ?_)
          exact WR.iret S hr hlk hP hS (by rw [hE, hv2]; rfl) (congrArg (fun z => some (Value.int z)) (by rw [hE]; rfl)) dX4_hoopsFor_114
        · refine lv_iload hx hb dX4_hoopsFor_48 (lv_at hl 4 rfl) ?_
          refine q_if_geN (tgt := 97) (a := b) hx hb dX4_hoopsFor_50 (by decide) (by omega) ?_
          have hE : oHo f n k t = some b := hO.1
          have hv2 : v = b + 1 := hO.2
          refine lv_aload_n hx hb dX4_hoopsFor_97 rfl (lv_at hl 0 rfl) ?_
          refine g4_s S hK hP dX4_hoopsFor_98 ?_
          refine lv_iload_n hx hb dX4_hoopsFor_101 rfl (lv_at hl 1 rfl) ?_
          refine lv_iconst (v := nI 4) hx hb dX4_hoopsFor_102 (by decide) ?_
          refine RO.callS S ks_X4_70 (c_X4_at l D cI cJ a (lbS f k 4 v) (lbT σ f k 4 v) k 4) hK hP ⟨Nat.le_of_ble_eq_true rfl, Nat.le_of_ble_eq_true rfl⟩ hl.1 rfl rfl (Nat.le_of_ble_eq_true rfl) (Nat.zero_le _) (Nat.zero_le _) dX4_hoopsFor_103 ?_
          refine lv_iload_n hx hb dX4_hoopsFor_106 rfl (lv_at hl 3 rfl) ?_
          refine s4_s S hK hP hD hS (j := 16 + 7 * k + 4) (by omega) dX4_hoopsFor_107 (fun H locs hP hD hS => ?_)
          rw [lbS_up (w := 4)] at hP hD
          rw [show fu f k 4 (fi f k 4) = f from fu_self] at hP hD
          refine lv_aload_n hx hb dX4_hoopsFor_108 rfl (lv_at hl 0 rfl) ?_
          refine lv_iload hx hb dX4_hoopsFor_109 (lv_at hl 4 rfl) ?_
          refine WR.callV (w1 := MW cI a f (lbT σ f k 4 v)) S kv_X4_170 (c_X4_orNone_some l D cI cJ a f (lbT σ f k 4 v) b (by omega)) hK hP hD hS hA ([]) ([]) rfl rfl rfl rfl ⟨Nat.le_of_ble_eq_true rfl, Nat.le_of_ble_eq_true rfl⟩ hl.1 rfl rfl (Nat.le_of_ble_eq_true rfl) (Nat.zero_le _) (Nat.zero_le _) dX4_hoopsFor_111 (fun H locs hP hD hS => ?_)
          exact WR.iret S hr hlk hP hS (by rw [hE, hv2]; rfl) (congrArg (fun z => some (Value.int z)) (by rw [hE]; rfl)) dX4_hoopsFor_114
  exact L_40 ((201 - 0) + 1) 0 none _ _ ls (Nat.lt_succ_self _) (by omega) (rfl) hP hD hS (by rw [show oI none = (-1) from rfl]; exact lv_sub hl [3, 4, 5, 2, 1, 0] rfl)
set_option maxRecDepth 100000 in
set_option maxHeartbeats 4000000 in
theorem c_X4_hoopsFor_bad (l : Launch) (D : va_G) (cI cJ : ClassId) (a : Nat → Nat) (f : Nat → Int32) (σ : Nat → Nat → Int32) (x : Int32) (y : Int32) (n : Nat) (hw : Wk f n) (hb0 : ¬ ((0 ≤ x ∧ x < nI n) ∧ (nI 0 ≤ y ∧ y ≤ nI 20))) : WR l yX4_hoopsFor cX4_hoopsFor 6 (some .int) 7 D cI cJ (MW cI a f σ) [.ref (a 0), .int x, .int y] (some (.int (-1000001))) (MW cI a f (va_up σ 4 (mFi (σ 4) 0))) := by
  refine WR.of (by decide) (Nat.le_of_ble_eq_true rfl) (fun p e s m below meth c ls A S hr hlk hK hP hD hS hA hl => ?_)
  obtain ⟨hx, hb, hml, hown, hU⟩ := id S
  have hl : lv_has ls 6 [(0, .ref (a 0)), (1, .int x), (2, .int y)] := hl
  refine lv_aload_n hx hb dX4_hoopsFor_0 rfl (lv_at hl 0 rfl) ?_
  refine lv_iload_n hx hb dX4_hoopsFor_1 rfl (lv_at hl 1 rfl) ?_
  refine RO.callV S kv_X4_86 (c_X4_isCask l D cI cJ a f σ x n (hw.1)) hK hP rfl ⟨Nat.le_of_ble_eq_true rfl, Nat.le_of_ble_eq_true rfl⟩ hl.1 rfl rfl (Nat.le_of_ble_eq_true rfl) (Nat.zero_le _) (Nat.zero_le _) dX4_hoopsFor_2 ?_
  refine q_if_eqB (tgt := 20) hx hb dX4_hoopsFor_5 (by decide) (fun c_5 => ?_) (fun c_5 => ?_)
  · refine lv_aload_n hx hb dX4_hoopsFor_20 rfl (lv_at hl 0 rfl) ?_
    refine lv_ldc (v := (-1000001)) hx hb hown (hU _ mK_X4_37) dX4_hoopsFor_21 ?_
    refine WR.callV (w1 := MW cI a f (va_up σ 4 (mFi (σ 4) 0))) S kv_X4_39 (c_X4_fd0 l D cI cJ a f σ) hK hP hD hS hA ([]) ([]) rfl rfl rfl rfl ⟨Nat.le_of_ble_eq_true rfl, Nat.le_of_ble_eq_true rfl⟩ hl.1 rfl rfl (Nat.le_of_ble_eq_true rfl) (Nat.zero_le _) (Nat.zero_le _) dX4_hoopsFor_23 (fun H locs hP hD hS => ?_)
    exact WR.iret S hr hlk hP hS (rfl) rfl dX4_hoopsFor_26
  · refine lv_iload_n hx hb dX4_hoopsFor_8 rfl (lv_at hl 2 rfl) ?_
    refine lv_i2l hx hb dX4_hoopsFor_9 rfl ?_
    refine lv_lconst (v := 0) hx hb dX4_hoopsFor_10 (by decide) ?_
    refine lv_ldc2 (v := 20) hx hb hown (hU _ mK_X4_168) dX4_hoopsFor_11 ?_
    refine RO.callS S ks_X4_49 (c_X4_isIn l D cI cJ a f σ y (nI 0) (nI 20)) hK hP ⟨Nat.le_of_ble_eq_true rfl, Nat.le_of_ble_eq_true rfl⟩ hl.1 rfl rfl (Nat.le_of_ble_eq_true rfl) (Nat.zero_le _) (Nat.zero_le _) dX4_hoopsFor_14 ?_
    refine q_if_neB (tgt := 27) hx hb dX4_hoopsFor_17 (by decide) (fun c_17 => ?_) (fun c_17 => ?_)
    · exact absurd (⟨c_5, c_17⟩) hb0
    · refine lv_aload_n hx hb dX4_hoopsFor_20 rfl (lv_at hl 0 rfl) ?_
      refine lv_ldc (v := (-1000001)) hx hb hown (hU _ mK_X4_37) dX4_hoopsFor_21 ?_
      refine WR.callV (w1 := MW cI a f (va_up σ 4 (mFi (σ 4) 0))) S kv_X4_39 (c_X4_fd0 l D cI cJ a f σ) hK hP hD hS hA ([]) ([]) rfl rfl rfl rfl ⟨Nat.le_of_ble_eq_true rfl, Nat.le_of_ble_eq_true rfl⟩ hl.1 rfl rfl (Nat.le_of_ble_eq_true rfl) (Nat.zero_le _) (Nat.zero_le _) dX4_hoopsFor_23 (fun H locs hP hD hS => ?_)
      exact WR.iret S hr hlk hP hS (rfl) rfl dX4_hoopsFor_26
set_option maxRecDepth 100000 in
set_option maxHeartbeats 4000000 in
theorem c_X4_frostFor_ok (l : Launch) (D : va_G) (cI cJ : ClassId) (a : Nat → Nat) (f : Nat → Int32) (σ : Nat → Nat → Int32) (ce : Nat) (t : Nat) (n : Nat) (hw : Wk f n) (d : Nat) (hd : f 1 = nI d) (hc : ce < 6) (ht : t ≤ 40) (hd2 : d + 100 ≤ 99999) : WR l yX4_frostFor cX4_frostFor 6 (some .int) 7 D cI cJ (MW cI a f σ) [.ref (a 0), .int (nI ce), .int (nI t)] (some (.int (aN (oFr f n ce t)))) (MW cI a f (sgN (frT σ f ce (frL (oFr f n ce t))) (oFr f n ce t))) := by
  have h8 := hw.2.1
  refine WR.of (by decide) (Nat.le_of_ble_eq_true rfl) (fun p e s m below meth c ls A S hr hlk hK hP hD hS hA hl => ?_)
  obtain ⟨hx, hb, hml, hown, hU⟩ := id S
  have hl : lv_has ls 6 [(0, .ref (a 0)), (1, .int (nI ce)), (2, .int (nI t))] := hl
  refine lv_iload_n hx hb dX4_frostFor_0 rfl (lv_at hl 1 rfl) ?_
  refine RO.callS S ks_X4_43 (c_X4_isCellar l D cI cJ a f σ (nI ce)) hK hP ⟨Nat.le_of_ble_eq_true rfl, Nat.le_of_ble_eq_true rfl⟩ hl.1 rfl rfl (Nat.le_of_ble_eq_true rfl) (Nat.zero_le _) (Nat.zero_le _) dX4_frostFor_1 ?_
  refine q_if_eqB (tgt := 19) hx hb dX4_frostFor_4 (by decide) (fun h => absurd (⟨nI_pos' (by omega), nI_lt (by omega) (by decide)⟩) h) (fun _ => ?_)
  refine lv_iload_n hx hb dX4_frostFor_7 rfl (lv_at hl 2 rfl) ?_
  refine lv_i2l hx hb dX4_frostFor_8 rfl ?_
  refine lv_lconst (v := 0) hx hb dX4_frostFor_9 (by decide) ?_
  refine lv_ldc2 (v := 40) hx hb hown (hU _ mK_X4_159) dX4_frostFor_10 ?_
  refine RO.callS S ks_X4_49 (c_X4_isIn l D cI cJ a f σ (nI t) (nI 0) (nI 40)) hK hP ⟨Nat.le_of_ble_eq_true rfl, Nat.le_of_ble_eq_true rfl⟩ hl.1 rfl rfl (Nat.le_of_ble_eq_true rfl) (Nat.zero_le _) (Nat.zero_le _) dX4_frostFor_13 ?_
  refine q_if_neB (tgt := 26) hx hb dX4_frostFor_16 (by decide) (fun _ => ?_) (fun h => absurd (⟨nI_le (by omega) (by omega), nI_le (by omega) (by omega)⟩) h)
  refine lv_aload_n hx hb dX4_frostFor_26 rfl (lv_at hl 0 rfl) ?_
  refine g4_s S hK hP dX4_frostFor_27 ?_
  refine lv_iconst (v := nI 4) hx hb dX4_frostFor_30 (by decide) ?_
  refine lv_iload_n hx hb dX4_frostFor_31 rfl (lv_at hl 1 rfl) ?_
  refine q_iaddN (a := 4) (b := ce) hx hb dX4_frostFor_32 ?_
  refine l4_s S hK hP (j := 4 + ce) (by omega) dX4_frostFor_33 ?_
  refine lv_istore_n (lv' := [(3, .int (f (4 + ce))), (0, .ref (a 0)), (1, .int (nI ce)), (2, .int (nI t))]) hx hb dX4_frostFor_34 rfl hl (by decide) rfl (fun ls hl => ?_)
  refine lv_iconst (v := (-1)) hx hb dX4_frostFor_35 (by decide) ?_
  refine lv_istore (lv' := [(4, .int (-1)), (3, .int (f (4 + ce))), (0, .ref (a 0)), (1, .int (nI ce)), (2, .int (nI t))]) hx hb dX4_frostFor_36 hl (by decide) rfl (fun ls hl => ?_)
  refine lv_bipush (v := nI 9) hx hb dX4_frostFor_38 (by decide) ?_
  refine lv_istore (lv' := [(5, .int (nI 9)), (4, .int (-1)), (3, .int (f (4 + ce))), (0, .ref (a 0)), (1, .int (nI ce)), (2, .int (nI t))]) hx hb dX4_frostFor_40 hl (by decide) rfl (fun ls hl => ?_)
  have L_42 : ∀ (n9 : Nat) (u : Nat) (o : Option Nat) (H : Heap) (locs : List Loc) (ls : Array Slot), u < n9 → u ≤ 10 → (match o with | none => fsD (fun v => decide (sGo (upd f (4 + ce) (nI v)) n t 3 = f 3)) u = oFr f n ce t | some b => oFr f n ce t = some b ∧ u = b) → va_P D vwCl (MW cI a (frS f ce u) (frT σ f ce u)) H → va_D A (MW cI a (frS f ce u) (frT σ f ce u)) → va_S A s.heap H locs → lv_has ls 6 [(0, .ref (a 0)), (1, .int (nI ce)), (2, .int (nI t)), (3, .int (f (4 + ce))), (4, .int (oI o)), (5, .int (dnI u))] → W p l e (rmd 7) s m ([.ref (a 0), .int (nI ce), .int (nI t)] : List Value).toArray below meth c H locs 0 0 (ZW below ([.ref (a 0), .int (nI ce), .int (nI t)] : List Value).toArray s D (some (.int (aN (oFr f n ce t)))) (MW cI a f (sgN (frT σ f ce (frL (oFr f n ce t))) (oFr f n ce t))) A) (F0 m 42 ls []) := by
    intro n9
    induction n9 with
    | zero => intro u o H locs ls hm; exact absurd hm (Nat.not_lt_zero _)
    | succ n9 ih_42 =>
      intro u o H locs ls hm hu hO hP hD hS hl
      cases o with
      | none =>
        have hl : lv_has ls 6 [(0, .ref (a 0)), (1, .int (nI ce)), (2, .int (nI t)), (3, .int (f (4 + ce))), (4, .int (-1)), (5, .int (dnI u))] := hl
        have hO : fsD (fun v => decide (sGo (upd f (4 + ce) (nI v)) n t 3 = f 3)) u = oFr f n ce t := hO
        cases u with
        | zero =>
          have hl : lv_has ls 6 [(0, .ref (a 0)), (1, .int (nI ce)), (2, .int (nI t)), (3, .int (f (4 + ce))), (4, .int (-1)), (5, .int (-1))] := hl
          refine lv_iload hx hb dX4_frostFor_42 (lv_at hl 5 rfl) ?_
          refine lv_if_lt (tgt := 90) hx hb dX4_frostFor_44 (by decide) (fun _ => ?_) (fun h => absurd (by decide) h)
          have hE : oFr f n ce t = none := by rw [← hO]; rfl
          have hu2 : frL (oFr f n ce t) = 0 := by rw [hE]; rfl
          refine lv_aload_n hx hb dX4_frostFor_90 rfl (lv_at hl 0 rfl) ?_
          refine g4_s S hK hP dX4_frostFor_91 ?_
          refine lv_iconst (v := nI 4) hx hb dX4_frostFor_94 (by decide) ?_
          refine lv_iload_n hx hb dX4_frostFor_95 rfl (lv_at hl 1 rfl) ?_
          refine q_iaddN (a := 4) (b := ce) hx hb dX4_frostFor_96 ?_
          refine lv_iload_n hx hb dX4_frostFor_97 rfl (lv_at hl 3 rfl) ?_
          refine s4_s S hK hP hD hS (j := 4 + ce) (by omega) dX4_frostFor_98 (fun H locs hP hD hS => ?_)
          rw [frS_up] at hP hD
          rw [show upd f (4 + ce) (f (4 + ce)) = f from upd_self] at hP hD
          refine lv_aload_n hx hb dX4_frostFor_99 rfl (lv_at hl 0 rfl) ?_
          refine lv_iload hx hb dX4_frostFor_100 (lv_at hl 4 rfl) ?_
          refine WR.callV (w1 := MW cI a f (va_up (frT σ f ce 0) 4 (mFi ((frT σ f ce 0) 4) 3))) S kv_X4_170 (c_X4_orNone_none l D cI cJ a f (frT σ f ce 0)) hK hP hD hS hA ([]) ([]) rfl rfl rfl rfl ⟨Nat.le_of_ble_eq_true rfl, Nat.le_of_ble_eq_true rfl⟩ hl.1 rfl rfl (Nat.le_of_ble_eq_true rfl) (Nat.zero_le _) (Nat.zero_le _) dX4_frostFor_102 (fun H locs hP hD hS => ?_)
          exact WR.iret S hr hlk hP hS (by rw [hu2, hE]; rfl) (congrArg (fun z => some (Value.int z)) (by rw [hE]; rfl)) dX4_frostFor_105
        | succ v =>
          have hl : lv_has ls 6 [(0, .ref (a 0)), (1, .int (nI ce)), (2, .int (nI t)), (3, .int (f (4 + ce))), (4, .int (-1)), (5, .int (nI v))] := hl
          refine lv_iload hx hb dX4_frostFor_42 (lv_at hl 5 rfl) ?_
          refine q_if_ltN (tgt := 90) (a := v) hx hb dX4_frostFor_44 (by decide) (by omega) ?_
          refine lv_iload hx hb dX4_frostFor_47 (lv_at hl 4 rfl) ?_
          refine lv_if_ge (tgt := 90) hx hb dX4_frostFor_49 (by decide) (fun h => absurd h (by decide)) (fun _ => ?_)
          refine lv_aload_n hx hb dX4_frostFor_52 rfl (lv_at hl 0 rfl) ?_
          refine g4_s S hK hP dX4_frostFor_53 ?_
          refine lv_iconst (v := nI 4) hx hb dX4_frostFor_56 (by decide) ?_
          refine lv_iload_n hx hb dX4_frostFor_57 rfl (lv_at hl 1 rfl) ?_
          refine q_iaddN (a := 4) (b := ce) hx hb dX4_frostFor_58 ?_
          refine lv_iload hx hb dX4_frostFor_59 (lv_at hl 5 rfl) ?_
          refine s4_s S hK hP hD hS (j := 4 + ce) (by omega) dX4_frostFor_61 (fun H locs hP hD hS => ?_)
          rw [frS_up] at hP hD
          refine lv_aload_n hx hb dX4_frostFor_62 rfl (lv_at hl 0 rfl) ?_
          refine lv_iload_n hx hb dX4_frostFor_63 rfl (lv_at hl 2 rfl) ?_
          refine WR.callV (w1 := MW cI a (upd f (4 + ce) (nI v)) (va_up (frT σ f ce (v + 1)) 3 (upd f (4 + ce) (nI v)))) S kv_X4_154 (c_X4_clapsThen l D cI cJ a (upd f (4 + ce) (nI v)) (frT σ f ce (v + 1)) t n (hw.up (by omega) (by omega)) d ((upd_ne (by omega)).trans hd) (by omega)) hK hP hD hS hA ([]) ([]) rfl rfl rfl rfl ⟨Nat.le_of_ble_eq_true rfl, Nat.le_of_ble_eq_true rfl⟩ hl.1 rfl rfl (Nat.le_of_ble_eq_true rfl) (Nat.zero_le _) (Nat.zero_le _) dX4_frostFor_64 (fun H locs hP hD hS => ?_)
          rw [frT_up] at hP hD
          refine lv_aload_n hx hb dX4_frostFor_67 rfl (lv_at hl 0 rfl) ?_
          refine g4_s S hK hP dX4_frostFor_68 ?_
          refine lv_iconst (v := nI 3) hx hb dX4_frostFor_71 (by decide) ?_
          refine l4_s S hK hP (j := 3) (by omega) dX4_frostFor_72 ?_
          refine q_eqi (y := f 3) (upd_ne (by omega)) ?_
          refine lv_icmp_ne (tgt := 81) hx hb dX4_frostFor_73 (by decide) (fun c_73 => ?_) (fun c_73 => ?_)
          · refine lv_iconst (v := (-1)) hx hb dX4_frostFor_81 (by decide) ?_
            refine lv_istore (lv' := [(4, .int (-1)), (0, .ref (a 0)), (1, .int (nI ce)), (2, .int (nI t)), (3, .int (f (4 + ce))), (5, .int (nI v))]) hx hb dX4_frostFor_82 hl (by decide) rfl (fun ls hl => ?_)
            refine lv_iinc (v := nI v + Int32.ofInt (-1)) (lv' := [(5, .int (nI v + Int32.ofInt (-1))), (4, .int (-1)), (0, .ref (a 0)), (1, .int (nI ce)), (2, .int (nI t)), (3, .int (f (4 + ce)))]) hx hb dX4_frostFor_84 hl (k := 5) rfl rfl (by decide) rfl (fun ls hl => ?_)
            refine lv_goto (tgt := 42) hx hb dX4_frostFor_87 (by decide) ?_
            exact ih_42 v none _ _ ls (by omega) (by omega) (by show fsD (fun v => decide (sGo (upd f (4 + ce) (nI v)) n t 3 = f 3)) v = oFr f n ce t; rw [← hO, fsD_go (by simpa using c_73)]) (by rw [show frS f ce v = upd f (4 + ce) (nI v) from if_neg (by omega), show frT σ f ce v = va_up σ 3 (upd f (4 + ce) (nI v)) from if_neg (by omega)]; exact hP) (by rw [show frS f ce v = upd f (4 + ce) (nI v) from if_neg (by omega), show frT σ f ce v = va_up σ 3 (upd f (4 + ce) (nI v)) from if_neg (by omega)]; exact hD) hS (by rw [show oI none = (-1) from rfl, show dnI v = nI v + Int32.ofInt (-1) from (dnI_s v).symm]; exact lv_sub hl [2, 3, 4, 5, 1, 0] rfl)
          · refine lv_iload hx hb dX4_frostFor_76 (lv_at hl 5 rfl) ?_
            refine lv_goto (tgt := 82) hx hb dX4_frostFor_78 (by decide) ?_
            refine lv_istore (lv' := [(4, .int (nI v)), (0, .ref (a 0)), (1, .int (nI ce)), (2, .int (nI t)), (3, .int (f (4 + ce))), (5, .int (nI v))]) hx hb dX4_frostFor_82 hl (by decide) rfl (fun ls hl => ?_)
            refine lv_iinc (v := nI v + Int32.ofInt (-1)) (lv' := [(5, .int (nI v + Int32.ofInt (-1))), (4, .int (nI v)), (0, .ref (a 0)), (1, .int (nI ce)), (2, .int (nI t)), (3, .int (f (4 + ce)))]) hx hb dX4_frostFor_84 hl (k := 5) rfl rfl (by decide) rfl (fun ls hl => ?_)
            refine lv_goto (tgt := 42) hx hb dX4_frostFor_87 (by decide) ?_
            exact ih_42 v (some v) _ _ ls (by omega) (by omega) (by show oFr f n ce t = some v ∧ v = v; rw [← hO, fsD_hit (by simpa using c_73)]; exact ⟨rfl, rfl⟩) (by rw [show frS f ce v = upd f (4 + ce) (nI v) from if_neg (by omega), show frT σ f ce v = va_up σ 3 (upd f (4 + ce) (nI v)) from if_neg (by omega)]; exact hP) (by rw [show frS f ce v = upd f (4 + ce) (nI v) from if_neg (by omega), show frT σ f ce v = va_up σ 3 (upd f (4 + ce) (nI v)) from if_neg (by omega)]; exact hD) hS (by rw [show oI (some v) = nI v from rfl, show dnI v = nI v + Int32.ofInt (-1) from (dnI_s v).symm]; exact lv_sub hl [2, 3, 4, 5, 1, 0] rfl)
      | some b =>
        have hl : lv_has ls 6 [(0, .ref (a 0)), (1, .int (nI ce)), (2, .int (nI t)), (3, .int (f (4 + ce))), (4, .int (nI b)), (5, .int (dnI u))] := hl
        have hO : oFr f n ce t = some b ∧ u = b := hO
        cases u with
        | zero =>
          have hl : lv_has ls 6 [(0, .ref (a 0)), (1, .int (nI ce)), (2, .int (nI t)), (3, .int (f (4 + ce))), (4, .int (nI b)), (5, .int (-1))] := hl
          refine lv_iload hx hb dX4_frostFor_42 (lv_at hl 5 rfl) ?_
          refine lv_if_lt (tgt := 90) hx hb dX4_frostFor_44 (by decide) (fun _ => ?_) (fun h => absurd (by decide) h)
          have hE : oFr f n ce t = some b := hO.1
          have hu2 : frL (oFr f n ce t) = 0 := by rw [hE]; exact hO.2.symm
          refine lv_aload_n hx hb dX4_frostFor_90 rfl (lv_at hl 0 rfl) ?_
          refine g4_s S hK hP dX4_frostFor_91 ?_
          refine lv_iconst (v := nI 4) hx hb dX4_frostFor_94 (by decide) ?_
          refine lv_iload_n hx hb dX4_frostFor_95 rfl (lv_at hl 1 rfl) ?_
          refine q_iaddN (a := 4) (b := ce) hx hb dX4_frostFor_96 ?_
          refine lv_iload_n hx hb dX4_frostFor_97 rfl (lv_at hl 3 rfl) ?_
          refine s4_s S hK hP hD hS (j := 4 + ce) (by omega) dX4_frostFor_98 (fun H locs hP hD hS => ?_)
          rw [frS_up] at hP hD
          rw [show upd f (4 + ce) (f (4 + ce)) = f from upd_self] at hP hD
          refine lv_aload_n hx hb dX4_frostFor_99 rfl (lv_at hl 0 rfl) ?_
          refine lv_iload hx hb dX4_frostFor_100 (lv_at hl 4 rfl) ?_
          refine WR.callV (w1 := MW cI a f (frT σ f ce 0)) S kv_X4_170 (c_X4_orNone_some l D cI cJ a f (frT σ f ce 0) b (by omega)) hK hP hD hS hA ([]) ([]) rfl rfl rfl rfl ⟨Nat.le_of_ble_eq_true rfl, Nat.le_of_ble_eq_true rfl⟩ hl.1 rfl rfl (Nat.le_of_ble_eq_true rfl) (Nat.zero_le _) (Nat.zero_le _) dX4_frostFor_102 (fun H locs hP hD hS => ?_)
          exact WR.iret S hr hlk hP hS (by rw [hu2, hE]; rfl) (congrArg (fun z => some (Value.int z)) (by rw [hE]; rfl)) dX4_frostFor_105
        | succ v =>
          have hl : lv_has ls 6 [(0, .ref (a 0)), (1, .int (nI ce)), (2, .int (nI t)), (3, .int (f (4 + ce))), (4, .int (nI b)), (5, .int (nI v))] := hl
          refine lv_iload hx hb dX4_frostFor_42 (lv_at hl 5 rfl) ?_
          refine q_if_ltN (tgt := 90) (a := v) hx hb dX4_frostFor_44 (by decide) (by omega) ?_
          refine lv_iload hx hb dX4_frostFor_47 (lv_at hl 4 rfl) ?_
          refine q_if_geN (tgt := 90) (a := b) hx hb dX4_frostFor_49 (by decide) (by omega) ?_
          have hE : oFr f n ce t = some b := hO.1
          have hu2 : frL (oFr f n ce t) = v + 1 := by rw [hE]; exact hO.2.symm
          refine lv_aload_n hx hb dX4_frostFor_90 rfl (lv_at hl 0 rfl) ?_
          refine g4_s S hK hP dX4_frostFor_91 ?_
          refine lv_iconst (v := nI 4) hx hb dX4_frostFor_94 (by decide) ?_
          refine lv_iload_n hx hb dX4_frostFor_95 rfl (lv_at hl 1 rfl) ?_
          refine q_iaddN (a := 4) (b := ce) hx hb dX4_frostFor_96 ?_
          refine lv_iload_n hx hb dX4_frostFor_97 rfl (lv_at hl 3 rfl) ?_
          refine s4_s S hK hP hD hS (j := 4 + ce) (by omega) dX4_frostFor_98 (fun H locs hP hD hS => ?_)
          rw [frS_up] at hP hD
          rw [show upd f (4 + ce) (f (4 + ce)) = f from upd_self] at hP hD
          refine lv_aload_n hx hb dX4_frostFor_99 rfl (lv_at hl 0 rfl) ?_
          refine lv_iload hx hb dX4_frostFor_100 (lv_at hl 4 rfl) ?_
          refine WR.callV (w1 := MW cI a f (frT σ f ce (v + 1))) S kv_X4_170 (c_X4_orNone_some l D cI cJ a f (frT σ f ce (v + 1)) b (by omega)) hK hP hD hS hA ([]) ([]) rfl rfl rfl rfl ⟨Nat.le_of_ble_eq_true rfl, Nat.le_of_ble_eq_true rfl⟩ hl.1 rfl rfl (Nat.le_of_ble_eq_true rfl) (Nat.zero_le _) (Nat.zero_le _) dX4_frostFor_102 (fun H locs hP hD hS => ?_)
          exact WR.iret S hr hlk hP hS (by rw [hu2, hE]; rfl) (congrArg (fun z => some (Value.int z)) (by rw [hE]; rfl)) dX4_frostFor_105
  exact L_42 (10 + 1) 10 none _ _ ls (Nat.lt_succ_self _) (by omega) (rfl) (by rw [show frS f ce 10 = f from if_pos rfl, show frT σ f ce 10 = σ from if_pos rfl]; exact hP) (by rw [show frS f ce 10 = f from if_pos rfl, show frT σ f ce 10 = σ from if_pos rfl]; exact hD) hS (by rw [show oI none = (-1) from rfl, show dnI 10 = nI 9 from rfl]; exact lv_sub hl [3, 4, 5, 2, 1, 0] rfl)
set_option maxRecDepth 100000 in
set_option maxHeartbeats 4000000 in
theorem c_X4_frostFor_bad (l : Launch) (D : va_G) (cI cJ : ClassId) (a : Nat → Nat) (f : Nat → Int32) (σ : Nat → Nat → Int32) (x : Int32) (y : Int32) (hb0 : ¬ ((nI 0 ≤ x ∧ x ≤ nI 5) ∧ (nI 0 ≤ y ∧ y ≤ nI 40))) : WR l yX4_frostFor cX4_frostFor 6 (some .int) 7 D cI cJ (MW cI a f σ) [.ref (a 0), .int x, .int y] (some (.int (-1000001))) (MW cI a f (va_up σ 4 (mFi (σ 4) 0))) := by
  refine WR.of (by decide) (Nat.le_of_ble_eq_true rfl) (fun p e s m below meth c ls A S hr hlk hK hP hD hS hA hl => ?_)
  obtain ⟨hx, hb, hml, hown, hU⟩ := id S
  have hl : lv_has ls 6 [(0, .ref (a 0)), (1, .int x), (2, .int y)] := hl
  refine lv_iload_n hx hb dX4_frostFor_0 rfl (lv_at hl 1 rfl) ?_
  refine RO.callS S ks_X4_43 (c_X4_isCellar l D cI cJ a f σ x) hK hP ⟨Nat.le_of_ble_eq_true rfl, Nat.le_of_ble_eq_true rfl⟩ hl.1 rfl rfl (Nat.le_of_ble_eq_true rfl) (Nat.zero_le _) (Nat.zero_le _) dX4_frostFor_1 ?_
  refine q_if_eqB (tgt := 19) hx hb dX4_frostFor_4 (by decide) (fun c_4 => ?_) (fun c_4 => ?_)
  · refine lv_aload_n hx hb dX4_frostFor_19 rfl (lv_at hl 0 rfl) ?_
    refine lv_ldc (v := (-1000001)) hx hb hown (hU _ mK_X4_37) dX4_frostFor_20 ?_
    refine WR.callV (w1 := MW cI a f (va_up σ 4 (mFi (σ 4) 0))) S kv_X4_39 (c_X4_fd0 l D cI cJ a f σ) hK hP hD hS hA ([]) ([]) rfl rfl rfl rfl ⟨Nat.le_of_ble_eq_true rfl, Nat.le_of_ble_eq_true rfl⟩ hl.1 rfl rfl (Nat.le_of_ble_eq_true rfl) (Nat.zero_le _) (Nat.zero_le _) dX4_frostFor_22 (fun H locs hP hD hS => ?_)
    exact WR.iret S hr hlk hP hS (rfl) rfl dX4_frostFor_25
  · refine lv_iload_n hx hb dX4_frostFor_7 rfl (lv_at hl 2 rfl) ?_
    refine lv_i2l hx hb dX4_frostFor_8 rfl ?_
    refine lv_lconst (v := 0) hx hb dX4_frostFor_9 (by decide) ?_
    refine lv_ldc2 (v := 40) hx hb hown (hU _ mK_X4_159) dX4_frostFor_10 ?_
    refine RO.callS S ks_X4_49 (c_X4_isIn l D cI cJ a f σ y (nI 0) (nI 40)) hK hP ⟨Nat.le_of_ble_eq_true rfl, Nat.le_of_ble_eq_true rfl⟩ hl.1 rfl rfl (Nat.le_of_ble_eq_true rfl) (Nat.zero_le _) (Nat.zero_le _) dX4_frostFor_13 ?_
    refine q_if_neB (tgt := 26) hx hb dX4_frostFor_16 (by decide) (fun c_16 => ?_) (fun c_16 => ?_)
    · exact absurd (⟨rg5 c_4, c_16⟩) hb0
    · refine lv_aload_n hx hb dX4_frostFor_19 rfl (lv_at hl 0 rfl) ?_
      refine lv_ldc (v := (-1000001)) hx hb hown (hU _ mK_X4_37) dX4_frostFor_20 ?_
      refine WR.callV (w1 := MW cI a f (va_up σ 4 (mFi (σ 4) 0))) S kv_X4_39 (c_X4_fd0 l D cI cJ a f σ) hK hP hD hS hA ([]) ([]) rfl rfl rfl rfl ⟨Nat.le_of_ble_eq_true rfl, Nat.le_of_ble_eq_true rfl⟩ hl.1 rfl rfl (Nat.le_of_ble_eq_true rfl) (Nat.zero_le _) (Nat.zero_le _) dX4_frostFor_22 (fun H locs hP hD hS => ?_)
      exact WR.iret S hr hlk hP hS (rfl) rfl dX4_frostFor_25

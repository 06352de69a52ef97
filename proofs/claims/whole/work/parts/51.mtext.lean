set_option maxRecDepth 100000 in
set_option maxHeartbeats 4000000 in
theorem c_X4_byteAt_in (l : Launch) (D : va_G) (cI cJ : ClassId) (a : Nat → Nat) (f : Nat → Int32) (σ : Nat → Nat → Int32) (i : Nat) (L : Nat) (hL : σ 9 1 = nI L) (hL120 : L ≤ 120) (hi : i < L) : RO l yX4_byteAt cX4_byteAt 2 (some .int) 0 D cI cJ (MW cI a f σ) [.ref (a 0), .int (nI i)] (.int (σ 5 i)) := by
  refine RO.of (by decide) (Nat.le_of_ble_eq_true rfl) (fun p e s m below meth c ls S hr hlk hK hP hl => ?_)
  obtain ⟨hx, hb, hml, hown, hU⟩ := id S
  have hl : lv_has ls 2 [(0, .ref (a 0)), (1, .int (nI i))] := hl
  refine lv_iload_n hx hb dX4_byteAt_0 rfl (lv_at hl 1 rfl) ?_
  refine lv_aload_n hx hb dX4_byteAt_1 rfl (lv_at hl 0 rfl) ?_
  refine g4_taped S hK hP dX4_byteAt_2 ?_
  refine q_eqi (y := nI L) (hL) ?_
  refine q_icmp_geN (tgt := 17) (a := i) (b := L) hx hb dX4_byteAt_5 (by decide) (by omega) (by omega) (fun h => absurd h (by omega)) (fun _ => ?_)
  refine lv_aload_n hx hb dX4_byteAt_8 rfl (lv_at hl 0 rfl) ?_
  refine g4_tape S hK hP dX4_byteAt_9 ?_
  refine lv_iload_n hx hb dX4_byteAt_12 rfl (lv_at hl 1 rfl) ?_
  refine l4_tape S hK hP (j := i) (by omega) dX4_byteAt_13 ?_
  refine lv_goto (tgt := 18) hx hb dX4_byteAt_14 (by decide) ?_
  exact RO.iret S hr hlk rfl dX4_byteAt_18
set_option maxRecDepth 100000 in
set_option maxHeartbeats 4000000 in
theorem c_X4_byteAt_out (l : Launch) (D : va_G) (cI cJ : ClassId) (a : Nat → Nat) (f : Nat → Int32) (σ : Nat → Nat → Int32) (i : Nat) (L : Nat) (hL : σ 9 1 = nI L) (hL120 : L ≤ 120) (hi : L ≤ i) (hi2 : i < 2147483648) : RO l yX4_byteAt cX4_byteAt 2 (some .int) 0 D cI cJ (MW cI a f σ) [.ref (a 0), .int (nI i)] (.int (-1)) := by
  refine RO.of (by decide) (Nat.le_of_ble_eq_true rfl) (fun p e s m below meth c ls S hr hlk hK hP hl => ?_)
  obtain ⟨hx, hb, hml, hown, hU⟩ := id S
  have hl : lv_has ls 2 [(0, .ref (a 0)), (1, .int (nI i))] := hl
  refine lv_iload_n hx hb dX4_byteAt_0 rfl (lv_at hl 1 rfl) ?_
  refine lv_aload_n hx hb dX4_byteAt_1 rfl (lv_at hl 0 rfl) ?_
  refine g4_taped S hK hP dX4_byteAt_2 ?_
  refine q_eqi (y := nI L) (hL) ?_
  refine q_icmp_geN (tgt := 17) (a := i) (b := L) hx hb dX4_byteAt_5 (by decide) (by omega) (by omega) (fun _ => ?_) (fun h => absurd h (by omega))
  refine lv_iconst (v := (-1)) hx hb dX4_byteAt_17 (by decide) ?_
  exact RO.iret S hr hlk rfl dX4_byteAt_18
set_option maxRecDepth 100000 in
set_option maxHeartbeats 4000000 in
theorem c_X4_nextToken (l : Launch) (D : va_G) (cI cJ : ClassId) (a : Nat → Nat) (f : Nat → Int32) (σ : Nat → Nat → Int32) (k4 : Int32) (s5 : Int32) (e6 : Nat) (v7 : Int32) (L : Nat) (hL : σ 9 1 = nI L) (hL120 : L ≤ 120) (he6 : e6 ≤ L) (hby : By (σ 5) L) : WR l yX4_nextToken cX4_nextToken 2 none 1 D cI cJ (MW cI a f (TK σ k4 s5 (nI e6) v7)) [.ref (a 0)] (none) (MW cI a f (TK σ (nI (tK (σ 5) L (sS (σ 5) L e6))) (nI (sS (σ 5) L e6)) (nI (tE (σ 5) L (sS (σ 5) L e6))) (nI (tV (σ 5) L (sS (σ 5) L e6))))) := by
  refine WR.of (by decide) (Nat.le_of_ble_eq_true rfl) (fun p e s m below meth c ls A S hr hlk hK hP hD hS hA hl => ?_)
  obtain ⟨hx, hb, hml, hown, hU⟩ := id S
  have hl : lv_has ls 2 [(0, .ref (a 0))] := hl
  refine lv_aload_n hx hb dX4_nextToken_0 rfl (lv_at hl 0 rfl) ?_
  refine lv_aload_n hx hb dX4_nextToken_1 rfl (lv_at hl 0 rfl) ?_
  refine g4_to S hK hP dX4_nextToken_2 ?_
  refine p4_from S hK hP hD hS dX4_nextToken_5 (fun H locs hP hD hS => ?_)
  rw [TK_5] at hP hD
  have L_8 : ∀ (n9 : Nat) (i : Nat) (H : Heap) (locs : List Loc) (ls : Array Slot), L - i < n9 → (e6 ≤ i) → (i ≤ L) → (skp (σ 5) (L - i) i = sS (σ 5) L e6) → va_P D vwCl (MW cI a f (TK σ k4 (nI i) (nI e6) v7)) H → va_D A (MW cI a f (TK σ k4 (nI i) (nI e6) v7)) → va_S A s.heap H locs → lv_has ls 2 [(0, .ref (a 0))] → W p l e (rmd 1) s m ([.ref (a 0)] : List Value).toArray below meth c H locs 0 0 (ZW below ([.ref (a 0)] : List Value).toArray s D (none) (MW cI a f (TK σ (nI (tK (σ 5) L (sS (σ 5) L e6))) (nI (sS (σ 5) L e6)) (nI (tE (σ 5) L (sS (σ 5) L e6))) (nI (tV (σ 5) L (sS (σ 5) L e6))))) A) (F0 m 8 ls []) := by
    intro n9
    induction n9 with
    | zero => intro i H locs ls hmeas; exact absurd hmeas (Nat.not_lt_zero _)
    | succ n9 ih_8 =>
      intro i H locs ls hmeas hi1 hi hR hP hD hS hl
      refine lv_aload_n hx hb dX4_nextToken_8 rfl (lv_at hl 0 rfl) ?_
      refine lv_aload_n hx hb dX4_nextToken_9 rfl (lv_at hl 0 rfl) ?_
      refine g4_from S hK hP dX4_nextToken_10 ?_
      by_cases hin_13 : i < L
      · refine RO.callV S kv_X4_216 (c_X4_byteAt_in l D cI cJ a f (TK σ k4 (nI i) (nI e6) v7) i L hL hL120 (by omega)) hK hP rfl ⟨Nat.le_of_ble_eq_true rfl, Nat.le_of_ble_eq_true rfl⟩ hl.1 rfl rfl (Nat.le_of_ble_eq_true rfl) (Nat.zero_le _) (Nat.zero_le _) dX4_nextToken_13 ?_
        refine q_eqi (y := σ 5 i) rfl ?_
        refine lv_bipush (v := nI 32) hx hb dX4_nextToken_16 (by decide) ?_
        refine lv_icmp_ne (tgt := 34) hx hb dX4_nextToken_18 (by decide) (fun c_18 => ?_) (fun c_18 => ?_)
        · have hS9 : sS (σ 5) L e6 = i := by rw [← hR, show L - i = (L - i - 1) + 1 by omega, skp_0 c_18]
          obtain ⟨x, hx9, hbx⟩ := hby i hin_13
          refine lv_aload_n hx hb dX4_nextToken_34 rfl (lv_at hl 0 rfl) ?_
          refine lv_aload_n hx hb dX4_nextToken_35 rfl (lv_at hl 0 rfl) ?_
          refine g4_from S hK hP dX4_nextToken_36 ?_
          refine p4_to S hK hP hD hS dX4_nextToken_39 (fun H locs hP hD hS => ?_)
          rw [TK_6] at hP hD
          refine lv_aload_n hx hb dX4_nextToken_42 rfl (lv_at hl 0 rfl) ?_
          refine lv_aload_n hx hb dX4_nextToken_43 rfl (lv_at hl 0 rfl) ?_
          refine g4_from S hK hP dX4_nextToken_44 ?_
          refine RO.callV S kv_X4_216 (c_X4_byteAt_in l D cI cJ a f (TK σ k4 (nI i) (nI i) v7) i L hL hL120 (by omega)) hK hP rfl ⟨Nat.le_of_ble_eq_true rfl, Nat.le_of_ble_eq_true rfl⟩ hl.1 rfl rfl (Nat.le_of_ble_eq_true rfl) (Nat.zero_le _) (Nat.zero_le _) dX4_nextToken_47 ?_
          refine q_eqi (y := σ 5 i) rfl ?_
          refine q_eqi (y := nI x) (hbx) ?_
          refine lv_istore_n (lv' := [(1, .int (nI x)), (0, .ref (a 0))]) hx hb dX4_nextToken_50 rfl hl (by decide) rfl (fun ls hl => ?_)
          refine lv_aload_n hx hb dX4_nextToken_51 rfl (lv_at hl 1 rfl) ?_
          refine lv_iload_n hx hb dX4_nextToken_52 rfl (lv_at hl 0 rfl) ?_
          refine q_if_geN (tgt := 60) (a := x) hx hb dX4_nextToken_53 (by decide) (by omega) ?_
          refine lv_iload_n hx hb dX4_nextToken_60 rfl (lv_at hl 0 rfl) ?_
          refine RO.callS S ks_X4_219 (c_X4_isLetter l D cI cJ a f (TK σ k4 (nI i) (nI i) v7) (nI x)) hK hP ⟨Nat.le_of_ble_eq_true rfl, Nat.le_of_ble_eq_true rfl⟩ hl.1 rfl rfl (Nat.le_of_ble_eq_true rfl) (Nat.zero_le _) (Nat.zero_le _) dX4_nextToken_61 ?_
          refine q_if_eqB (tgt := 71) hx hb dX4_nextToken_64 (by decide) (fun c_64 => ?_) (fun c_64 => ?_)
          · refine lv_iload_n hx hb dX4_nextToken_71 rfl (lv_at hl 0 rfl) ?_
            refine RO.callS S ks_X4_222 (c_X4_isDigit l D cI cJ a f (TK σ k4 (nI i) (nI i) v7) (nI x)) hK hP ⟨Nat.le_of_ble_eq_true rfl, Nat.le_of_ble_eq_true rfl⟩ hl.1 rfl rfl (Nat.le_of_ble_eq_true rfl) (Nat.zero_le _) (Nat.zero_le _) dX4_nextToken_72 ?_
            refine q_if_eqB (tgt := 82) hx hb dX4_nextToken_75 (by decide) (fun c_75 => ?_) (fun c_75 => ?_)
            · refine lv_iload_n hx hb dX4_nextToken_82 rfl (lv_at hl 0 rfl) ?_
              refine lv_bipush (v := nI 59) hx hb dX4_nextToken_83 (by decide) ?_
              refine q_icmp_neN (tgt := 92) (a := x) (b := 59) hx hb dX4_nextToken_85 (by decide) (by omega) (by omega) (fun c_85 => ?_) (fun c_85 => ?_)
              · refine lv_iconst (v := nI 4) hx hb dX4_nextToken_92 (by decide) ?_
                refine p4_token S hK hP hD hS dX4_nextToken_93 (fun H locs hP hD hS => ?_)
                rw [TK_4] at hP hD
                refine lv_aload_n hx hb dX4_nextToken_96 rfl (lv_at hl 1 rfl) ?_
                refine lv_iconst (v := nI 0) hx hb dX4_nextToken_97 (by decide) ?_
                refine p4_value S hK hP hD hS dX4_nextToken_98 (fun H locs hP hD hS => ?_)
                rw [TK_7] at hP hD
                refine lv_aload_n hx hb dX4_nextToken_101 rfl (lv_at hl 1 rfl) ?_
                refine g4_token S hK hP dX4_nextToken_102 ?_
                refine lv_iconst (v := nI 1) hx hb dX4_nextToken_105 (by decide) ?_
                refine q_icmp_neN (tgt := 136) (a := 4) (b := 1) hx hb dX4_nextToken_106 (by decide) (by omega) (by omega) (fun _ => ?_) (fun h => absurd h (by omega))
                refine lv_aload_n hx hb dX4_nextToken_136 rfl (lv_at hl 1 rfl) ?_
                refine g4_token S hK hP dX4_nextToken_137 ?_
                refine lv_iconst (v := nI 2) hx hb dX4_nextToken_140 (by decide) ?_
                refine q_icmp_neN (tgt := 211) (a := 4) (b := 2) hx hb dX4_nextToken_141 (by decide) (by omega) (by omega) (fun _ => ?_) (fun h => absurd h (by omega))
                refine lv_aload_n hx hb dX4_nextToken_211 rfl (lv_at hl 1 rfl) ?_
                refine lv_dup hx hb dX4_nextToken_212 rfl ?_
                refine g4_to S hK hP dX4_nextToken_213 ?_
                refine lv_aload_n hx hb dX4_nextToken_216 rfl (lv_at hl 1 rfl) ?_
                refine g4_token S hK hP dX4_nextToken_217 ?_
                refine lv_iconst (v := nI 2) hx hb dX4_nextToken_220 (by decide) ?_
                refine q_icmp_leN (tgt := 228) (a := 4) (b := 2) hx hb dX4_nextToken_221 (by decide) (by omega) (by omega) (fun h => absurd h (by omega)) (fun _ => ?_)
                refine lv_iconst (v := nI 1) hx hb dX4_nextToken_224 (by decide) ?_
                refine lv_goto (tgt := 229) hx hb dX4_nextToken_225 (by decide) ?_
                refine q_iaddN (a := i) (b := 1) hx hb dX4_nextToken_229 ?_
                refine p4_to S hK hP hD hS dX4_nextToken_230 (fun H locs hP hD hS => ?_)
                rw [TK_6] at hP hD
                have hK9 : tK (σ 5) L i = 4 := (if_neg (show ¬ L ≤ i by omega)).trans ((if_neg (hbx ▸ c_64)).trans ((if_neg (hbx ▸ c_75)).trans (if_neg (fun q => c_85 (nI_inj (by omega) (by omega) (hbx.symm.trans q))))))
                have hE9 : tE (σ 5) L i = i + 1 := by unfold tE; rw [hK9]; rfl
                have hV9 : tV (σ 5) L i = 0 := if_neg (by omega)
                exact WR.vret S hr hlk hP hS (by rw [hS9, hK9, hE9, hV9]) dX4_nextToken_233
              · refine lv_iconst (v := nI 3) hx hb dX4_nextToken_88 (by decide) ?_
                refine lv_goto (tgt := 93) hx hb dX4_nextToken_89 (by decide) ?_
                refine p4_token S hK hP hD hS dX4_nextToken_93 (fun H locs hP hD hS => ?_)
                rw [TK_4] at hP hD
                refine lv_aload_n hx hb dX4_nextToken_96 rfl (lv_at hl 1 rfl) ?_
                refine lv_iconst (v := nI 0) hx hb dX4_nextToken_97 (by decide) ?_
                refine p4_value S hK hP hD hS dX4_nextToken_98 (fun H locs hP hD hS => ?_)
                rw [TK_7] at hP hD
                refine lv_aload_n hx hb dX4_nextToken_101 rfl (lv_at hl 1 rfl) ?_
                refine g4_token S hK hP dX4_nextToken_102 ?_
                refine lv_iconst (v := nI 1) hx hb dX4_nextToken_105 (by decide) ?_
                refine q_icmp_neN (tgt := 136) (a := 3) (b := 1) hx hb dX4_nextToken_106 (by decide) (by omega) (by omega) (fun _ => ?_) (fun h => absurd h (by omega))
                refine lv_aload_n hx hb dX4_nextToken_136 rfl (lv_at hl 1 rfl) ?_
                refine g4_token S hK hP dX4_nextToken_137 ?_
                refine lv_iconst (v := nI 2) hx hb dX4_nextToken_140 (by decide) ?_
                refine q_icmp_neN (tgt := 211) (a := 3) (b := 2) hx hb dX4_nextToken_141 (by decide) (by omega) (by omega) (fun _ => ?_) (fun h => absurd h (by omega))
                refine lv_aload_n hx hb dX4_nextToken_211 rfl (lv_at hl 1 rfl) ?_
                refine lv_dup hx hb dX4_nextToken_212 rfl ?_
                refine g4_to S hK hP dX4_nextToken_213 ?_
                refine lv_aload_n hx hb dX4_nextToken_216 rfl (lv_at hl 1 rfl) ?_
                refine g4_token S hK hP dX4_nextToken_217 ?_
                refine lv_iconst (v := nI 2) hx hb dX4_nextToken_220 (by decide) ?_
                refine q_icmp_leN (tgt := 228) (a := 3) (b := 2) hx hb dX4_nextToken_221 (by decide) (by omega) (by omega) (fun h => absurd h (by omega)) (fun _ => ?_)
                refine lv_iconst (v := nI 1) hx hb dX4_nextToken_224 (by decide) ?_
                refine lv_goto (tgt := 229) hx hb dX4_nextToken_225 (by decide) ?_
                refine q_iaddN (a := i) (b := 1) hx hb dX4_nextToken_229 ?_
                refine p4_to S hK hP hD hS dX4_nextToken_230 (fun H locs hP hD hS => ?_)
                rw [TK_6] at hP hD
                have hK9 : tK (σ 5) L i = 3 := (if_neg (show ¬ L ≤ i by omega)).trans ((if_neg (hbx ▸ c_64)).trans ((if_neg (hbx ▸ c_75)).trans (if_pos (by rw [hbx, c_85]))))
                have hE9 : tE (σ 5) L i = i + 1 := by unfold tE; rw [hK9]; rfl
                have hV9 : tV (σ 5) L i = 0 := if_neg (by omega)
                exact WR.vret S hr hlk hP hS (by rw [hS9, hK9, hE9, hV9]) dX4_nextToken_233
            · refine lv_iconst (v := nI 2) hx hb dX4_nextToken_78 (by decide) ?_
              refine lv_goto (tgt := 93) hx hb dX4_nextToken_79 (by decide) ?_
              refine p4_token S hK hP hD hS dX4_nextToken_93 (fun H locs hP hD hS => ?_)
              rw [TK_4] at hP hD
              refine lv_aload_n hx hb dX4_nextToken_96 rfl (lv_at hl 1 rfl) ?_
              refine lv_iconst (v := nI 0) hx hb dX4_nextToken_97 (by decide) ?_
              refine p4_value S hK hP hD hS dX4_nextToken_98 (fun H locs hP hD hS => ?_)
              rw [TK_7] at hP hD
              refine lv_aload_n hx hb dX4_nextToken_101 rfl (lv_at hl 1 rfl) ?_
              refine g4_token S hK hP dX4_nextToken_102 ?_
              refine lv_iconst (v := nI 1) hx hb dX4_nextToken_105 (by decide) ?_
              refine q_icmp_neN (tgt := 136) (a := 2) (b := 1) hx hb dX4_nextToken_106 (by decide) (by omega) (by omega) (fun _ => ?_) (fun h => absurd h (by omega))
              have L_136 : ∀ (n9 : Nat) (j : Nat) (w7 : Nat) (H : Heap) (locs : List Loc) (ls : Array Slot), L - j < n9 → (i ≤ j) → (j ≤ L) → (w7 ≤ 9999) → (rnD (σ 5) (L - j) j = rnD (σ 5) (L - i) i) → (vlD (σ 5) (L - j) j w7 = vlD (σ 5) (L - i) i 0) → va_P D vwCl (MW cI a f (TK σ (nI 2) (nI i) (nI j) (nI w7))) H → va_D A (MW cI a f (TK σ (nI 2) (nI i) (nI j) (nI w7))) → va_S A s.heap H locs → lv_has ls 2 [(0, .ref (a 0))] → W p l e (rmd 1) s m ([.ref (a 0)] : List Value).toArray below meth c H locs 0 0 (ZW below ([.ref (a 0)] : List Value).toArray s D (none) (MW cI a f (TK σ (nI (tK (σ 5) L (sS (σ 5) L e6))) (nI (sS (σ 5) L e6)) (nI (tE (σ 5) L (sS (σ 5) L e6))) (nI (tV (σ 5) L (sS (σ 5) L e6))))) A) (F0 m 136 ls []) := by
                intro n9
                induction n9 with
                | zero => intro j w7 H locs ls hmeas; exact absurd hmeas (Nat.not_lt_zero _)
                | succ n9 ih_136 =>
                  intro j w7 H locs ls hmeas hj1 hj hw7 hJ hV hP hD hS hl
                  refine lv_aload_n hx hb dX4_nextToken_136 rfl (lv_at hl 0 rfl) ?_
                  refine g4_token S hK hP dX4_nextToken_137 ?_
                  refine lv_iconst (v := nI 2) hx hb dX4_nextToken_140 (by decide) ?_
                  refine q_icmp_neN (tgt := 211) (a := 2) (b := 2) hx hb dX4_nextToken_141 (by decide) (by omega) (by omega) (fun h => absurd h (by omega)) (fun _ => ?_)
                  refine lv_aload_n hx hb dX4_nextToken_144 rfl (lv_at hl 0 rfl) ?_
                  refine lv_aload_n hx hb dX4_nextToken_145 rfl (lv_at hl 0 rfl) ?_
                  refine g4_to S hK hP dX4_nextToken_146 ?_
                  by_cases hin_149 : j < L
                  · refine RO.callV S kv_X4_216 (c_X4_byteAt_in l D cI cJ a f (TK σ (nI 2) (nI i) (nI j) (nI w7)) j L hL hL120 (by omega)) hK hP rfl ⟨Nat.le_of_ble_eq_true rfl, Nat.le_of_ble_eq_true rfl⟩ hl.1 rfl rfl (Nat.le_of_ble_eq_true rfl) (Nat.zero_le _) (Nat.zero_le _) dX4_nextToken_149 ?_
                    refine q_eqi (y := σ 5 j) rfl ?_
                    refine RO.callS S ks_X4_222 (c_X4_isDigit l D cI cJ a f (TK σ (nI 2) (nI i) (nI j) (nI w7)) (σ 5 j)) hK hP ⟨Nat.le_of_ble_eq_true rfl, Nat.le_of_ble_eq_true rfl⟩ hl.1 rfl rfl (Nat.le_of_ble_eq_true rfl) (Nat.zero_le _) (Nat.zero_le _) dX4_nextToken_152 ?_
                    refine q_if_eqB (tgt := 211) hx hb dX4_nextToken_155 (by decide) (fun c_155 => ?_) (fun c_155 => ?_)
                    · refine lv_aload_n hx hb dX4_nextToken_211 rfl (lv_at hl 0 rfl) ?_
                      refine lv_dup hx hb dX4_nextToken_212 rfl ?_
                      refine g4_to S hK hP dX4_nextToken_213 ?_
                      refine lv_aload_n hx hb dX4_nextToken_216 rfl (lv_at hl 0 rfl) ?_
                      refine g4_token S hK hP dX4_nextToken_217 ?_
                      refine lv_iconst (v := nI 2) hx hb dX4_nextToken_220 (by decide) ?_
                      refine q_icmp_leN (tgt := 228) (a := 2) (b := 2) hx hb dX4_nextToken_221 (by decide) (by omega) (by omega) (fun _ => ?_) (fun h => absurd h (by omega))
                      refine lv_iconst (v := nI 0) hx hb dX4_nextToken_228 (by decide) ?_
                      refine q_iaddN (a := j) (b := 0) hx hb dX4_nextToken_229 ?_
                      refine q_eqi (y := nI j) (rfl) ?_
                      refine p4_to S hK hP hD hS dX4_nextToken_230 (fun H locs hP hD hS => ?_)
                      rw [TK_6] at hP hD
                      have hK9 : tK (σ 5) L i = 2 := (if_neg (show ¬ L ≤ i by omega)).trans ((if_neg (hbx ▸ c_64)).trans (if_pos (hbx ▸ c_75)))
                      have hE9 : tE (σ 5) L i = j := by
                        unfold tE
                        rw [hK9, if_neg (by decide), if_neg (by decide), if_pos rfl, ← hJ, show L - j = (L - j - 1) + 1 by omega, rnD_0 c_155]
                      have hV9 : tV (σ 5) L i = w7 := by
                        unfold tV
                        rw [if_pos hK9, ← hV, show L - j = (L - j - 1) + 1 by omega, vlD_0 c_155]
                      exact WR.vret S hr hlk hP hS (by rw [hS9, hK9, hE9, hV9]) dX4_nextToken_233
                    · obtain ⟨x9, hx9, hb9x, hd9⟩ := dgt_eq c_155
                      refine lv_aload_n hx hb dX4_nextToken_158 rfl (lv_at hl 0 rfl) ?_
                      refine lv_aload_n hx hb dX4_nextToken_159 rfl (lv_at hl 0 rfl) ?_
                      refine g4_value S hK hP dX4_nextToken_160 ?_
                      refine lv_sipush (v := nI 999) hx hb dX4_nextToken_163 (by decide) ?_
                      refine q_icmp_leN (tgt := 176) (a := w7) (b := 999) hx hb dX4_nextToken_166 (by decide) (by omega) (by omega) (fun c_166 => ?_) (fun c_166 => ?_)
                      · refine lv_bipush (v := nI 10) hx hb dX4_nextToken_176 (by decide) ?_
                        refine lv_aload_n hx hb dX4_nextToken_178 rfl (lv_at hl 0 rfl) ?_
                        refine g4_value S hK hP dX4_nextToken_179 ?_
                        refine q_imulN (a := 10) (b := w7) hx hb dX4_nextToken_182 ?_
                        refine lv_aload_n hx hb dX4_nextToken_183 rfl (lv_at hl 0 rfl) ?_
                        refine lv_aload_n hx hb dX4_nextToken_184 rfl (lv_at hl 0 rfl) ?_
                        refine g4_to S hK hP dX4_nextToken_185 ?_
                        refine RO.callV S kv_X4_216 (c_X4_byteAt_in l D cI cJ a f (TK σ (nI 2) (nI i) (nI j) (nI w7)) j L hL hL120 (by omega)) hK hP rfl ⟨Nat.le_of_ble_eq_true rfl, Nat.le_of_ble_eq_true rfl⟩ hl.1 rfl rfl (Nat.le_of_ble_eq_true rfl) (Nat.zero_le _) (Nat.zero_le _) dX4_nextToken_188 ?_
                        refine q_eqi (y := σ 5 j) rfl ?_
                        refine q_eqi (y := nI (48 + x9)) (hb9x) ?_
                        refine q_iaddN (a := 10 * w7) (b := 48 + x9) hx hb dX4_nextToken_191 ?_
                        refine lv_bipush (v := nI 48) hx hb dX4_nextToken_192 (by decide) ?_
                        refine q_isubN (a := (10 * w7) + (48 + x9)) (b := 48) hx hb dX4_nextToken_194 (by omega) ?_
                        refine p4_value S hK hP hD hS dX4_nextToken_195 (fun H locs hP hD hS => ?_)
                        rw [TK_7] at hP hD
                        refine lv_aload_n hx hb dX4_nextToken_198 rfl (lv_at hl 0 rfl) ?_
                        refine lv_dup hx hb dX4_nextToken_199 rfl ?_
                        refine g4_to S hK hP dX4_nextToken_200 ?_
                        refine lv_iconst (v := nI 1) hx hb dX4_nextToken_203 (by decide) ?_
                        refine q_iaddN (a := j) (b := 1) hx hb dX4_nextToken_204 ?_
                        refine p4_to S hK hP hD hS dX4_nextToken_205 (fun H locs hP hD hS => ?_)
                        rw [TK_6] at hP hD
                        refine lv_goto (tgt := 136) hx hb dX4_nextToken_208 (by decide) ?_
                        exact ih_136 (j + 1) (10 * w7 + (48 + x9) - 48) _ _ ls (by omega) (by omega) (by omega) (by omega) (by rw [← hJ, show L - j = (L - (j + 1)) + 1 by omega, rnD_1 c_155]) (by rw [← hV, show L - j = (L - (j + 1)) + 1 by omega, vlD_1 c_155, if_neg (by omega), hd9, show 10 * w7 + (48 + x9) - 48 = 10 * w7 + x9 by omega]) hP hD hS (lv_sub hl [0] rfl)
                      · refine lv_aload_n hx hb dX4_nextToken_169 rfl (lv_at hl 0 rfl) ?_
                        refine g4_value S hK hP dX4_nextToken_170 ?_
                        refine lv_goto (tgt := 195) hx hb dX4_nextToken_173 (by decide) ?_
                        refine p4_value S hK hP hD hS dX4_nextToken_195 (fun H locs hP hD hS => ?_)
                        rw [TK_7] at hP hD
                        refine lv_aload_n hx hb dX4_nextToken_198 rfl (lv_at hl 0 rfl) ?_
                        refine lv_dup hx hb dX4_nextToken_199 rfl ?_
                        refine g4_to S hK hP dX4_nextToken_200 ?_
                        refine lv_iconst (v := nI 1) hx hb dX4_nextToken_203 (by decide) ?_
                        refine q_iaddN (a := j) (b := 1) hx hb dX4_nextToken_204 ?_
                        refine p4_to S hK hP hD hS dX4_nextToken_205 (fun H locs hP hD hS => ?_)
                        rw [TK_6] at hP hD
                        refine lv_goto (tgt := 136) hx hb dX4_nextToken_208 (by decide) ?_
                        exact ih_136 (j + 1) w7 _ _ ls (by omega) (by omega) (by omega) (by omega) (by rw [← hJ, show L - j = (L - (j + 1)) + 1 by omega, rnD_1 c_155]) (by rw [← hV, show L - j = (L - (j + 1)) + 1 by omega, vlD_1 c_155, if_pos (by omega)]) hP hD hS (lv_sub hl [0] rfl)
                  · refine RO.callV S kv_X4_216 (c_X4_byteAt_out l D cI cJ a f (TK σ (nI 2) (nI i) (nI j) (nI w7)) j L hL hL120 (by omega) (by omega)) hK hP rfl ⟨Nat.le_of_ble_eq_true rfl, Nat.le_of_ble_eq_true rfl⟩ hl.1 rfl rfl (Nat.le_of_ble_eq_true rfl) (Nat.zero_le _) (Nat.zero_le _) dX4_nextToken_149 ?_
                    refine RO.callS S ks_X4_222 (c_X4_isDigit l D cI cJ a f (TK σ (nI 2) (nI i) (nI j) (nI w7)) (-1)) hK hP ⟨Nat.le_of_ble_eq_true rfl, Nat.le_of_ble_eq_true rfl⟩ hl.1 rfl rfl (Nat.le_of_ble_eq_true rfl) (Nat.zero_le _) (Nat.zero_le _) dX4_nextToken_152 ?_
                    refine q_if_eqB (tgt := 211) hx hb dX4_nextToken_155 (by decide) (fun _ => ?_) (fun h => absurd h (by decide))
                    refine lv_aload_n hx hb dX4_nextToken_211 rfl (lv_at hl 0 rfl) ?_
                    refine lv_dup hx hb dX4_nextToken_212 rfl ?_
                    refine g4_to S hK hP dX4_nextToken_213 ?_
                    refine lv_aload_n hx hb dX4_nextToken_216 rfl (lv_at hl 0 rfl) ?_
                    refine g4_token S hK hP dX4_nextToken_217 ?_
                    refine lv_iconst (v := nI 2) hx hb dX4_nextToken_220 (by decide) ?_
                    refine q_icmp_leN (tgt := 228) (a := 2) (b := 2) hx hb dX4_nextToken_221 (by decide) (by omega) (by omega) (fun _ => ?_) (fun h => absurd h (by omega))
                    refine lv_iconst (v := nI 0) hx hb dX4_nextToken_228 (by decide) ?_
                    refine q_iaddN (a := j) (b := 0) hx hb dX4_nextToken_229 ?_
                    refine q_eqi (y := nI j) (rfl) ?_
                    refine p4_to S hK hP hD hS dX4_nextToken_230 (fun H locs hP hD hS => ?_)
                    rw [TK_6] at hP hD
                    have hK9 : tK (σ 5) L i = 2 := (if_neg (show ¬ L ≤ i by omega)).trans ((if_neg (hbx ▸ c_64)).trans (if_pos (hbx ▸ c_75)))
                    have hE9 : tE (σ 5) L i = j := by
                      unfold tE
                      rw [hK9, if_neg (by decide), if_neg (by decide), if_pos rfl, ← hJ, show L - j = 0 by omega]
                      rfl
                    have hV9 : tV (σ 5) L i = w7 := by
                      unfold tV
                      rw [if_pos hK9, ← hV, show L - j = 0 by omega]
                      rfl
                    exact WR.vret S hr hlk hP hS (by rw [hS9, hK9, hE9, hV9]) dX4_nextToken_233
              exact L_136 ((L - i) + 1) i 0 _ _ ls (Nat.lt_succ_self _) (Nat.le_refl _) (by omega) (by omega) (rfl) (rfl) hP hD hS (lv_sub hl [1] rfl)
          · refine lv_iconst (v := nI 1) hx hb dX4_nextToken_67 (by decide) ?_
            refine lv_goto (tgt := 93) hx hb dX4_nextToken_68 (by decide) ?_
            refine p4_token S hK hP hD hS dX4_nextToken_93 (fun H locs hP hD hS => ?_)
            rw [TK_4] at hP hD
            refine lv_aload_n hx hb dX4_nextToken_96 rfl (lv_at hl 1 rfl) ?_
            refine lv_iconst (v := nI 0) hx hb dX4_nextToken_97 (by decide) ?_
            refine p4_value S hK hP hD hS dX4_nextToken_98 (fun H locs hP hD hS => ?_)
            rw [TK_7] at hP hD
            have L_101 : ∀ (n9 : Nat) (j : Nat) (H : Heap) (locs : List Loc) (ls : Array Slot), L - j < n9 → (i ≤ j) → (j ≤ L) → (rnL (σ 5) (L - j) j = rnL (σ 5) (L - i) i) → va_P D vwCl (MW cI a f (TK σ (nI 1) (nI i) (nI j) (nI 0))) H → va_D A (MW cI a f (TK σ (nI 1) (nI i) (nI j) (nI 0))) → va_S A s.heap H locs → lv_has ls 2 [(0, .ref (a 0))] → W p l e (rmd 1) s m ([.ref (a 0)] : List Value).toArray below meth c H locs 0 0 (ZW below ([.ref (a 0)] : List Value).toArray s D (none) (MW cI a f (TK σ (nI (tK (σ 5) L (sS (σ 5) L e6))) (nI (sS (σ 5) L e6)) (nI (tE (σ 5) L (sS (σ 5) L e6))) (nI (tV (σ 5) L (sS (σ 5) L e6))))) A) (F0 m 101 ls []) := by
              intro n9
              induction n9 with
              | zero => intro j H locs ls hmeas; exact absurd hmeas (Nat.not_lt_zero _)
              | succ n9 ih_101 =>
                intro j H locs ls hmeas hj1 hj hJ hP hD hS hl
                refine lv_aload_n hx hb dX4_nextToken_101 rfl (lv_at hl 0 rfl) ?_
                refine g4_token S hK hP dX4_nextToken_102 ?_
                refine lv_iconst (v := nI 1) hx hb dX4_nextToken_105 (by decide) ?_
                refine q_icmp_neN (tgt := 136) (a := 1) (b := 1) hx hb dX4_nextToken_106 (by decide) (by omega) (by omega) (fun h => absurd h (by omega)) (fun _ => ?_)
                refine lv_aload_n hx hb dX4_nextToken_109 rfl (lv_at hl 0 rfl) ?_
                refine lv_aload_n hx hb dX4_nextToken_110 rfl (lv_at hl 0 rfl) ?_
                refine g4_to S hK hP dX4_nextToken_111 ?_
                by_cases hin_114 : j < L
                · refine RO.callV S kv_X4_216 (c_X4_byteAt_in l D cI cJ a f (TK σ (nI 1) (nI i) (nI j) (nI 0)) j L hL hL120 (by omega)) hK hP rfl ⟨Nat.le_of_ble_eq_true rfl, Nat.le_of_ble_eq_true rfl⟩ hl.1 rfl rfl (Nat.le_of_ble_eq_true rfl) (Nat.zero_le _) (Nat.zero_le _) dX4_nextToken_114 ?_
                  refine q_eqi (y := σ 5 j) rfl ?_
                  refine RO.callS S ks_X4_219 (c_X4_isLetter l D cI cJ a f (TK σ (nI 1) (nI i) (nI j) (nI 0)) (σ 5 j)) hK hP ⟨Nat.le_of_ble_eq_true rfl, Nat.le_of_ble_eq_true rfl⟩ hl.1 rfl rfl (Nat.le_of_ble_eq_true rfl) (Nat.zero_le _) (Nat.zero_le _) dX4_nextToken_117 ?_
                  refine q_if_eqB (tgt := 136) hx hb dX4_nextToken_120 (by decide) (fun c_120 => ?_) (fun c_120 => ?_)
                  · refine lv_aload_n hx hb dX4_nextToken_136 rfl (lv_at hl 0 rfl) ?_
                    refine g4_token S hK hP dX4_nextToken_137 ?_
                    refine lv_iconst (v := nI 2) hx hb dX4_nextToken_140 (by decide) ?_
                    refine q_icmp_neN (tgt := 211) (a := 1) (b := 2) hx hb dX4_nextToken_141 (by decide) (by omega) (by omega) (fun _ => ?_) (fun h => absurd h (by omega))
                    refine lv_aload_n hx hb dX4_nextToken_211 rfl (lv_at hl 0 rfl) ?_
                    refine lv_dup hx hb dX4_nextToken_212 rfl ?_
                    refine g4_to S hK hP dX4_nextToken_213 ?_
                    refine lv_aload_n hx hb dX4_nextToken_216 rfl (lv_at hl 0 rfl) ?_
                    refine g4_token S hK hP dX4_nextToken_217 ?_
                    refine lv_iconst (v := nI 2) hx hb dX4_nextToken_220 (by decide) ?_
                    refine q_icmp_leN (tgt := 228) (a := 1) (b := 2) hx hb dX4_nextToken_221 (by decide) (by omega) (by omega) (fun _ => ?_) (fun h => absurd h (by omega))
                    refine lv_iconst (v := nI 0) hx hb dX4_nextToken_228 (by decide) ?_
                    refine q_iaddN (a := j) (b := 0) hx hb dX4_nextToken_229 ?_
                    refine q_eqi (y := nI j) (rfl) ?_
                    refine p4_to S hK hP hD hS dX4_nextToken_230 (fun H locs hP hD hS => ?_)
                    rw [TK_6] at hP hD
                    have hK9 : tK (σ 5) L i = 1 := (if_neg (show ¬ L ≤ i by omega)).trans (if_pos (hbx ▸ c_64))
                    have hE9 : tE (σ 5) L i = j := by
                      unfold tE
                      rw [hK9, if_neg (by decide), if_pos rfl, ← hJ, show L - j = (L - j - 1) + 1 by omega, rnL_0 c_120]
                    have hV9 : tV (σ 5) L i = 0 := if_neg (by omega)
                    exact WR.vret S hr hlk hP hS (by rw [hS9, hK9, hE9, hV9]) dX4_nextToken_233
                  · refine lv_aload_n hx hb dX4_nextToken_123 rfl (lv_at hl 0 rfl) ?_
                    refine lv_dup hx hb dX4_nextToken_124 rfl ?_
                    refine g4_to S hK hP dX4_nextToken_125 ?_
                    refine lv_iconst (v := nI 1) hx hb dX4_nextToken_128 (by decide) ?_
                    refine q_iaddN (a := j) (b := 1) hx hb dX4_nextToken_129 ?_
                    refine p4_to S hK hP hD hS dX4_nextToken_130 (fun H locs hP hD hS => ?_)
                    rw [TK_6] at hP hD
                    refine lv_goto (tgt := 101) hx hb dX4_nextToken_133 (by decide) ?_
                    exact ih_101 (j + 1) _ _ ls (by omega) (by omega) (by omega) (by rw [← hJ, show L - j = (L - (j + 1)) + 1 by omega, rnL_1 c_120]) hP hD hS (lv_sub hl [0] rfl)
                · refine RO.callV S kv_X4_216 (c_X4_byteAt_out l D cI cJ a f (TK σ (nI 1) (nI i) (nI j) (nI 0)) j L hL hL120 (by omega) (by omega)) hK hP rfl ⟨Nat.le_of_ble_eq_true rfl, Nat.le_of_ble_eq_true rfl⟩ hl.1 rfl rfl (Nat.le_of_ble_eq_true rfl) (Nat.zero_le _) (Nat.zero_le _) dX4_nextToken_114 ?_
                  refine RO.callS S ks_X4_219 (c_X4_isLetter l D cI cJ a f (TK σ (nI 1) (nI i) (nI j) (nI 0)) (-1)) hK hP ⟨Nat.le_of_ble_eq_true rfl, Nat.le_of_ble_eq_true rfl⟩ hl.1 rfl rfl (Nat.le_of_ble_eq_true rfl) (Nat.zero_le _) (Nat.zero_le _) dX4_nextToken_117 ?_
                  refine q_if_eqB (tgt := 136) hx hb dX4_nextToken_120 (by decide) (fun _ => ?_) (fun h => absurd h (by decide))
                  refine lv_aload_n hx hb dX4_nextToken_136 rfl (lv_at hl 0 rfl) ?_
                  refine g4_token S hK hP dX4_nextToken_137 ?_
                  refine lv_iconst (v := nI 2) hx hb dX4_nextToken_140 (by decide) ?_
                  refine q_icmp_neN (tgt := 211) (a := 1) (b := 2) hx hb dX4_nextToken_141 (by decide) (by omega) (by omega) (fun _ => ?_) (fun h => absurd h (by omega))
                  refine lv_aload_n hx hb dX4_nextToken_211 rfl (lv_at hl 0 rfl) ?_
                  refine lv_dup hx hb dX4_nextToken_212 rfl ?_
                  refine g4_to S hK hP dX4_nextToken_213 ?_
                  refine lv_aload_n hx hb dX4_nextToken_216 rfl (lv_at hl 0 rfl) ?_
                  refine g4_token S hK hP dX4_nextToken_217 ?_
                  refine lv_iconst (v := nI 2) hx hb dX4_nextToken_220 (by decide) ?_
                  refine q_icmp_leN (tgt := 228) (a := 1) (b := 2) hx hb dX4_nextToken_221 (by decide) (by omega) (by omega) (fun _ => ?_) (fun h => absurd h (by omega))
                  refine lv_iconst (v := nI 0) hx hb dX4_nextToken_228 (by decide) ?_
                  refine q_iaddN (a := j) (b := 0) hx hb dX4_nextToken_229 ?_
                  refine q_eqi (y := nI j) (rfl) ?_
                  refine p4_to S hK hP hD hS dX4_nextToken_230 (fun H locs hP hD hS => ?_)
                  rw [TK_6] at hP hD
                  have hK9 : tK (σ 5) L i = 1 := (if_neg (show ¬ L ≤ i by omega)).trans (if_pos (hbx ▸ c_64))
                  have hE9 : tE (σ 5) L i = j := by
                    unfold tE
                    rw [hK9, if_neg (by decide), if_pos rfl, ← hJ, show L - j = 0 by omega]
                    rfl
                  have hV9 : tV (σ 5) L i = 0 := if_neg (by omega)
                  exact WR.vret S hr hlk hP hS (by rw [hS9, hK9, hE9, hV9]) dX4_nextToken_233
            exact L_101 ((L - i) + 1) i _ _ ls (Nat.lt_succ_self _) (Nat.le_refl _) (by omega) (rfl) hP hD hS (lv_sub hl [1] rfl)
        · refine lv_aload_n hx hb dX4_nextToken_21 rfl (lv_at hl 0 rfl) ?_
          refine lv_dup hx hb dX4_nextToken_22 rfl ?_
          refine g4_from S hK hP dX4_nextToken_23 ?_
          refine lv_iconst (v := nI 1) hx hb dX4_nextToken_26 (by decide) ?_
          refine q_iaddN (a := i) (b := 1) hx hb dX4_nextToken_27 ?_
          refine p4_from S hK hP hD hS dX4_nextToken_28 (fun H locs hP hD hS => ?_)
          rw [TK_5] at hP hD
          refine lv_goto (tgt := 8) hx hb dX4_nextToken_31 (by decide) ?_
          exact ih_8 (i + 1) _ _ ls (by omega) (by omega) (by omega) (by rw [← hR, show L - i = (L - (i + 1)) + 1 by omega, skp_1 c_18]) hP hD hS (lv_sub hl [0] rfl)
      · refine RO.callV S kv_X4_216 (c_X4_byteAt_out l D cI cJ a f (TK σ k4 (nI i) (nI e6) v7) i L hL hL120 (by omega) (by omega)) hK hP rfl ⟨Nat.le_of_ble_eq_true rfl, Nat.le_of_ble_eq_true rfl⟩ hl.1 rfl rfl (Nat.le_of_ble_eq_true rfl) (Nat.zero_le _) (Nat.zero_le _) dX4_nextToken_13 ?_
        refine lv_bipush (v := nI 32) hx hb dX4_nextToken_16 (by decide) ?_
        refine lv_icmp_ne (tgt := 34) hx hb dX4_nextToken_18 (by decide) (fun c_18 => ?_) (fun c_18 => ?_)
        · have hS9 : sS (σ 5) L e6 = i := by rw [← hR, show L - i = 0 by omega]; rfl
          refine lv_aload_n hx hb dX4_nextToken_34 rfl (lv_at hl 0 rfl) ?_
          refine lv_aload_n hx hb dX4_nextToken_35 rfl (lv_at hl 0 rfl) ?_
          refine g4_from S hK hP dX4_nextToken_36 ?_
          refine p4_to S hK hP hD hS dX4_nextToken_39 (fun H locs hP hD hS => ?_)
          rw [TK_6] at hP hD
          refine lv_aload_n hx hb dX4_nextToken_42 rfl (lv_at hl 0 rfl) ?_
          refine lv_aload_n hx hb dX4_nextToken_43 rfl (lv_at hl 0 rfl) ?_
          refine g4_from S hK hP dX4_nextToken_44 ?_
          refine RO.callV S kv_X4_216 (c_X4_byteAt_out l D cI cJ a f (TK σ k4 (nI i) (nI i) v7) i L hL hL120 (by omega) (by omega)) hK hP rfl ⟨Nat.le_of_ble_eq_true rfl, Nat.le_of_ble_eq_true rfl⟩ hl.1 rfl rfl (Nat.le_of_ble_eq_true rfl) (Nat.zero_le _) (Nat.zero_le _) dX4_nextToken_47 ?_
          refine lv_istore_n (lv' := [(1, .int (-1)), (0, .ref (a 0))]) hx hb dX4_nextToken_50 rfl hl (by decide) rfl (fun ls hl => ?_)
          refine lv_aload_n hx hb dX4_nextToken_51 rfl (lv_at hl 1 rfl) ?_
          refine lv_iload_n hx hb dX4_nextToken_52 rfl (lv_at hl 0 rfl) ?_
          refine lv_if_ge (tgt := 60) hx hb dX4_nextToken_53 (by decide) (fun h => absurd h (by decide)) (fun _ => ?_)
          refine lv_iconst (v := nI 0) hx hb dX4_nextToken_56 (by decide) ?_
          refine lv_goto (tgt := 93) hx hb dX4_nextToken_57 (by decide) ?_
          refine p4_token S hK hP hD hS dX4_nextToken_93 (fun H locs hP hD hS => ?_)
          rw [TK_4] at hP hD
          refine lv_aload_n hx hb dX4_nextToken_96 rfl (lv_at hl 1 rfl) ?_
          refine lv_iconst (v := nI 0) hx hb dX4_nextToken_97 (by decide) ?_
          refine p4_value S hK hP hD hS dX4_nextToken_98 (fun H locs hP hD hS => ?_)
          rw [TK_7] at hP hD
          refine lv_aload_n hx hb dX4_nextToken_101 rfl (lv_at hl 1 rfl) ?_
          refine g4_token S hK hP dX4_nextToken_102 ?_
          refine lv_iconst (v := nI 1) hx hb dX4_nextToken_105 (by decide) ?_
          refine q_icmp_neN (tgt := 136) (a := 0) (b := 1) hx hb dX4_nextToken_106 (by decide) (by omega) (by omega) (fun _ => ?_) (fun h => absurd h (by omega))
          refine lv_aload_n hx hb dX4_nextToken_136 rfl (lv_at hl 1 rfl) ?_
          refine g4_token S hK hP dX4_nextToken_137 ?_
          refine lv_iconst (v := nI 2) hx hb dX4_nextToken_140 (by decide) ?_
          refine q_icmp_neN (tgt := 211) (a := 0) (b := 2) hx hb dX4_nextToken_141 (by decide) (by omega) (by omega) (fun _ => ?_) (fun h => absurd h (by omega))
          refine lv_aload_n hx hb dX4_nextToken_211 rfl (lv_at hl 1 rfl) ?_
          refine lv_dup hx hb dX4_nextToken_212 rfl ?_
          refine g4_to S hK hP dX4_nextToken_213 ?_
          refine lv_aload_n hx hb dX4_nextToken_216 rfl (lv_at hl 1 rfl) ?_
          refine g4_token S hK hP dX4_nextToken_217 ?_
          refine lv_iconst (v := nI 2) hx hb dX4_nextToken_220 (by decide) ?_
          refine q_icmp_leN (tgt := 228) (a := 0) (b := 2) hx hb dX4_nextToken_221 (by decide) (by omega) (by omega) (fun _ => ?_) (fun h => absurd h (by omega))
          refine lv_iconst (v := nI 0) hx hb dX4_nextToken_228 (by decide) ?_
          refine q_iaddN (a := i) (b := 0) hx hb dX4_nextToken_229 ?_
          refine q_eqi (y := nI i) (rfl) ?_
          refine p4_to S hK hP hD hS dX4_nextToken_230 (fun H locs hP hD hS => ?_)
          rw [TK_6] at hP hD
          have hK9 : tK (σ 5) L i = 0 := if_pos (by omega)
          have hE9 : tE (σ 5) L i = i := if_pos hK9
          have hV9 : tV (σ 5) L i = 0 := if_neg (by omega)
          exact WR.vret S hr hlk hP hS (by rw [hS9, hK9, hE9, hV9]) dX4_nextToken_233
        · exact absurd c_18 (by decide)
  exact L_8 ((L - e6) + 1) e6 _ _ ls (Nat.lt_succ_self _) (Nat.le_refl _) (by omega) (rfl) hP hD hS (lv_sub hl [0] rfl)

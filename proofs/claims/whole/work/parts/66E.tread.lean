set_option maxRecDepth 100000 in
set_option maxHeartbeats 4000000 in
theorem c_X2_readInto_ok (l : Launch) (D : va_G) (cI cJ : ClassId) (t : Nat → Nat) (f g h : Nat → Int32) (τ : Nat → Nat → Int32) (mt ka : Nat) (kk vv : Nat → Nat) (n : Nat) (hI : Iv g n) (L : Nat) (hL : τ 0 1 = nI L) (hL120 : L ≤ 120) (hG : txG (τ 1) L g) : WY mt ka kk vv l yX2_readInto cX2_readInto 3 (some .int) 7 D cI cJ (TW cI cJ t f g h τ) [.ref (sf t 34 0), .ref (sf t 12 0)] (some (.int (nI ((txA (τ 1) L g).2)))) (TW cI cJ t f ((txA (τ 1) L g).1.2.1) h (CS τ L (txA (τ 1) L g).1.2.2 (vA (τ 1) L (τ 0 5) g))) := by
  refine WY.of (by decide) (Nat.le_of_ble_eq_true rfl) (fun p e s m below meth c ls A S hr hlk hK hP hD hS hA hZ hl => ?_)
  obtain ⟨hx, hb, hml, hown, hU⟩ := id S
  have hl : lv_has ls 3 [(0, .ref (sf t 34 0)), (1, .ref (sf t 12 0))] := hl
  refine lv_aload_n hx hb dX2_readInto_0 rfl (lv_at hl 0 rfl) ?_
  refine lv_iconst (v := nI 0) hx hb dX2_readInto_1 (by decide) ?_
  refine p32_end S hK hP hD hS dX2_readInto_2 (fun H locs hP hD hS => ?_)
  rw [m0_end] at hP hD
  refine lv_aload_n hx hb dX2_readInto_5 rfl (lv_at hl 0 rfl) ?_
  refine WR.callV (w1 := TW cI cJ t f g h (CS τ L (sS (τ 1) L 0) (τ 0 5))) S kv_X2_31 (c_X2_stepZ l D cI cJ (sf t 34) τ (τ 0 2) (τ 0 3) (τ 0 5) L hL hL120) hK hP hD hS hA (_) (_) TW_ck TW_cs TT_fst rfl ⟨Nat.le_of_ble_eq_true rfl, Nat.le_of_ble_eq_true rfl⟩ hl.1 rfl rfl (Nat.le_of_ble_eq_true rfl) (Nat.zero_le _) (Nat.zero_le _) dX2_readInto_6 (fun H locs hP hD hS => ?_)
  refine W.eq (g2 := F0 m 9 ls []) rfl ?_
  refine lv_iconst (v := nI 0) hx hb dX2_readInto_9 (by decide) ?_
  refine lv_istore_n (lv' := [(2, .int (nI 0)), (0, .ref (sf t 34 0)), (1, .ref (sf t 12 0))]) hx hb dX2_readInto_10 rfl hl (by decide) rfl (fun ls hl => ?_)
  have L_11 : ∀ (n9 : Nat) (G : Nat → Int32) (S1 : Nat) (v1 : Int32) (ct : Nat) (H : Heap) (locs : List Loc) (ls : Array Slot), 121 - ct < n9 → (S1 ≤ L) → (ct ≤ S1) → (∃ n8, Iv G n8) → (txL (τ 1) L (120 - ct) (iT (τ 1) L G S1 (nO G)) (ct + 1) = txA (τ 1) L g) → (vL (τ 1) L (120 - ct) (iT (τ 1) L G S1 (nO G)) (vT (τ 1) L v1 G S1 (nO G)) = vA (τ 1) L (τ 0 5) g) → va_P D vwCl (TW cI cJ t f G h (CS τ L S1 v1)) H → va_D A (TW cI cJ t f G h (CS τ L S1 v1)) → va_S A s.heap H locs → lv_has ls 3 [(0, .ref (sf t 34 0)), (1, .ref (sf t 12 0)), (2, .int (nI ct))] → W p l e (rmd 7) s m ([.ref (sf t 34 0), .ref (sf t 12 0)] : List Value).toArray below meth c H locs 0 0 (ZW below ([.ref (sf t 34 0), .ref (sf t 12 0)] : List Value).toArray s D (some (.int (nI ((txA (τ 1) L g).2)))) (TW cI cJ t f ((txA (τ 1) L g).1.2.1) h (CS τ L (txA (τ 1) L g).1.2.2 (vA (τ 1) L (τ 0 5) g))) A) (F0 m 11 ls []) := by
    intro n9
    induction n9 with
    | zero => intro G S1 v1 ct H locs ls hmeas; exact absurd hmeas (Nat.not_lt_zero _)
    | succ n9 ih_11 =>
      intro G S1 v1 ct H locs ls hmeas hS1 hct hIv hT hV hP hD hS hl
      obtain ⟨n7, hI7⟩ := hIv
      have hn7 := hI7.nO
      rw [hn7] at hT hV
      refine lv_iload_n hx hb dX2_readInto_11 rfl (lv_at hl 2 rfl) ?_
      refine lv_bipush (v := nI 120) hx hb dX2_readInto_12 (by decide) ?_
      refine q_icmp_gtN (tgt := 66) (a := ct) (b := 120) hx hb dX2_readInto_14 (by decide) (by omega) (by omega) (fun h => absurd h (by omega)) (fun _ => ?_)
      refine lv_aload_n hx hb dX2_readInto_17 rfl (lv_at hl 0 rfl) ?_
      refine lv_aload_n hx hb dX2_readInto_18 rfl (lv_at hl 1 rfl) ?_
      refine WY.callV 34 (w1 := TW cI cJ t f ((iT (τ 1) L G S1 n7).2.1) h (CS τ L ((iT (τ 1) L G S1 n7).2.2) (vT (τ 1) L v1 G S1 n7))) hZ S kv_X2_34 (c_X2_readItem l D cI cJ t f G h τ mt ka kk vv v1 L S1 n7 hL hL120 hS1 hI7.wk.1 hI7.wk.2.1) hK hP hD hS hA [] [] (List.append_nil _).symm (List.append_nil _).symm TW_fst rfl ⟨Nat.le_of_ble_eq_true rfl, Nat.le_of_ble_eq_true rfl⟩ hl.1 rfl rfl (Nat.le_of_ble_eq_true rfl) (Nat.zero_le _) (Nat.zero_le _) dX2_readInto_19 (fun H locs hP hD hS => ?_)
      have hXL : (iT (τ 1) L G S1 n7).2.2 ≤ L := iT_le hS1
      have hXg : S1 ≤ (iT (τ 1) L G S1 n7).2.2 := iT_ge hS1
      have htk := tK_lt (b := τ 1) (L := L) (s := (iT (τ 1) L G S1 n7).2.2)
      refine q_if_neB (tgt := 32) hx hb dX2_readInto_22 (by decide) (fun c_22 => ?_) (fun c_22 => ?_)
      · refine lv_iinc (v := nI (ct + 1)) (lv' := [(2, .int (nI (ct + 1))), (0, .ref (sf t 34 0)), (1, .ref (sf t 12 0))]) hx hb dX2_readInto_32 hl (k := 2) rfl (q_inc _) (by decide) rfl (fun ls hl => ?_)
        refine lv_aload_n hx hb dX2_readInto_35 rfl (lv_at hl 1 rfl) ?_
        refine g22_token S hK (TW_tape hP) dX2_readInto_36 ?_
        refine q_if_neN (tgt := 44) (a := tK (τ 1) L ((iT (τ 1) L G S1 n7).2.2)) hx hb dX2_readInto_39 (by decide) (by omega) (fun c_39 => ?_) (fun c_39 => ?_)
        · refine lv_aload_n hx hb dX2_readInto_44 rfl (lv_at hl 1 rfl) ?_
          refine g22_token S hK (TW_tape hP) dX2_readInto_45 ?_
          refine lv_iconst (v := nI 3) hx hb dX2_readInto_48 (by decide) ?_
          refine q_icmp_eqN (tgt := 59) (a := tK (τ 1) L ((iT (τ 1) L G S1 n7).2.2)) (b := 3) hx hb dX2_readInto_49 (by decide) (by omega) (by omega) (fun c_49 => ?_) (fun c_49 => ?_)
          · refine lv_aload_n hx hb dX2_readInto_59 rfl (lv_at hl 1 rfl) ?_
            refine WR.callV (w1 := TW cI cJ t f ((iT (τ 1) L G S1 n7).2.1) h (CS τ L (nx (τ 1) L ((iT (τ 1) L G S1 n7).2.2)) (cV (τ 1) L ((iT (τ 1) L G S1 n7).2.2) (vT (τ 1) L v1 G S1 n7)))) S kv_X2_31 (c_X2_stepS l D cI cJ (sf t 34) τ (vT (τ 1) L v1 G S1 n7) L ((iT (τ 1) L G S1 n7).2.2) hL hL120 (hXL)) hK hP hD hS hA (_) (_) TW_cs TW_cs TT_fst rfl ⟨Nat.le_of_ble_eq_true rfl, Nat.le_of_ble_eq_true rfl⟩ hl.1 rfl rfl (Nat.le_of_ble_eq_true rfl) (Nat.zero_le _) (Nat.zero_le _) dX2_readInto_60 (fun H locs hP hD hS => ?_)
            refine W.eq (g2 := F0 m 63 ls []) rfl ?_
            refine lv_goto (tgt := 11) hx hb dX2_readInto_63 (by decide) ?_
            have hgt := nx_gt hXL c_49
            have hnl := nx_le (b := τ 1) (L := L) hXL
            exact ih_11 ((iT (τ 1) L G S1 n7).2.1) (nx (τ 1) L (iT (τ 1) L G S1 n7).2.2) (cV (τ 1) L (iT (τ 1) L G S1 n7).2.2 (vT (τ 1) L v1 G S1 n7)) (ct + 1) _ _ ls (by omega) (hnl) (by omega) (iT_iv hI7) (by rw [← hT, show 120 - ct = (120 - (ct + 1)) + 1 by omega, txL_1 ⟨c_22, c_49⟩]) (by rw [← hV, show 120 - ct = (120 - (ct + 1)) + 1 by omega, vL_1 ⟨c_22, c_49⟩]) hP hD hS (lv_sub hl [1, 2, 0] rfl)
          · have hTA : txA (τ 1) L g = (iT (τ 1) L G S1 n7, ct + 1) := by rw [← hT]; exact txL_0 (fun q => c_49 q.2)
            have hVA : vA (τ 1) L (τ 0 5) g = vT (τ 1) L v1 G S1 n7 := by rw [← hV]; exact vL_0 (fun q => c_49 q.2)
            exact absurd (show tK (τ 1) L (iT (τ 1) L G S1 n7).2.2 = 0 from by have h9 := hG.2; rw [hTA] at h9; exact h9) (by omega)
        · have hTA : txA (τ 1) L g = (iT (τ 1) L G S1 n7, ct + 1) := by rw [← hT]; exact txL_0 (fun q => absurd q.2 (by omega))
          have hVA : vA (τ 1) L (τ 0 5) g = vT (τ 1) L v1 G S1 n7 := by rw [← hV]; exact vL_0 (fun q => absurd q.2 (by omega))
          refine lv_iload_n hx hb dX2_readInto_42 rfl (lv_at hl 0 rfl) ?_
          exact WR.iret S hr hlk hP hS (by rw [hTA, hVA]) (congrArg (fun z => some (Value.int z)) (by rw [hTA])) dX2_readInto_43
      · have hTA : txA (τ 1) L g = (iT (τ 1) L G S1 n7, ct + 1) := by rw [← hT]; exact txL_0 (fun q => c_22 q.1)
        have hVA : vA (τ 1) L (τ 0 5) g = vT (τ 1) L v1 G S1 n7 := by rw [← hV]; exact vL_0 (fun q => c_22 q.1)
        exact absurd (by have h9 := hG.1; rw [hTA] at h9; exact h9) c_22
  exact L_11 ((121 - 0) + 1) g (sS (τ 1) L 0) (τ 0 5) 0 _ _ ls (Nat.lt_succ_self _) ((sS_le (Nat.zero_le L)).2) (Nat.zero_le _) (⟨n, hI⟩) (rfl) (rfl) hP hD hS (lv_sub hl [1, 2, 0] rfl)
set_option maxRecDepth 100000 in
set_option maxHeartbeats 4000000 in
theorem c_X2_readInto_no (l : Launch) (D : va_G) (cI cJ : ClassId) (t : Nat → Nat) (f g h : Nat → Int32) (τ : Nat → Nat → Int32) (mt ka : Nat) (kk vv : Nat → Nat) (n : Nat) (hI : Iv g n) (L : Nat) (hL : τ 0 1 = nI L) (hL120 : L ≤ 120) (hG : ¬ txG (τ 1) L g) : WY mt ka kk vv l yX2_readInto cX2_readInto 3 (some .int) 7 D cI cJ (TW cI cJ t f g h τ) [.ref (sf t 34 0), .ref (sf t 12 0)] (some (.int ((-1) - nI (txA (τ 1) L g).1.2.2))) (TW cI cJ t f ((txA (τ 1) L g).1.2.1) h (CS τ L (txA (τ 1) L g).1.2.2 (vA (τ 1) L (τ 0 5) g))) := by
  refine WY.of (by decide) (Nat.le_of_ble_eq_true rfl) (fun p e s m below meth c ls A S hr hlk hK hP hD hS hA hZ hl => ?_)
  obtain ⟨hx, hb, hml, hown, hU⟩ := id S
  have hl : lv_has ls 3 [(0, .ref (sf t 34 0)), (1, .ref (sf t 12 0))] := hl
  refine lv_aload_n hx hb dX2_readInto_0 rfl (lv_at hl 0 rfl) ?_
  refine lv_iconst (v := nI 0) hx hb dX2_readInto_1 (by decide) ?_
  refine p32_end S hK hP hD hS dX2_readInto_2 (fun H locs hP hD hS => ?_)
  rw [m0_end] at hP hD
  refine lv_aload_n hx hb dX2_readInto_5 rfl (lv_at hl 0 rfl) ?_
  refine WR.callV (w1 := TW cI cJ t f g h (CS τ L (sS (τ 1) L 0) (τ 0 5))) S kv_X2_31 (c_X2_stepZ l D cI cJ (sf t 34) τ (τ 0 2) (τ 0 3) (τ 0 5) L hL hL120) hK hP hD hS hA (_) (_) TW_ck TW_cs TT_fst rfl ⟨Nat.le_of_ble_eq_true rfl, Nat.le_of_ble_eq_true rfl⟩ hl.1 rfl rfl (Nat.le_of_ble_eq_true rfl) (Nat.zero_le _) (Nat.zero_le _) dX2_readInto_6 (fun H locs hP hD hS => ?_)
  refine W.eq (g2 := F0 m 9 ls []) rfl ?_
  refine lv_iconst (v := nI 0) hx hb dX2_readInto_9 (by decide) ?_
  refine lv_istore_n (lv' := [(2, .int (nI 0)), (0, .ref (sf t 34 0)), (1, .ref (sf t 12 0))]) hx hb dX2_readInto_10 rfl hl (by decide) rfl (fun ls hl => ?_)
  have L_11 : ∀ (n9 : Nat) (G : Nat → Int32) (S1 : Nat) (v1 : Int32) (ct : Nat) (H : Heap) (locs : List Loc) (ls : Array Slot), 121 - ct < n9 → (S1 ≤ L) → (ct ≤ S1) → (∃ n8, Iv G n8) → (txL (τ 1) L (120 - ct) (iT (τ 1) L G S1 (nO G)) (ct + 1) = txA (τ 1) L g) → (vL (τ 1) L (120 - ct) (iT (τ 1) L G S1 (nO G)) (vT (τ 1) L v1 G S1 (nO G)) = vA (τ 1) L (τ 0 5) g) → va_P D vwCl (TW cI cJ t f G h (CS τ L S1 v1)) H → va_D A (TW cI cJ t f G h (CS τ L S1 v1)) → va_S A s.heap H locs → lv_has ls 3 [(0, .ref (sf t 34 0)), (1, .ref (sf t 12 0)), (2, .int (nI ct))] → W p l e (rmd 7) s m ([.ref (sf t 34 0), .ref (sf t 12 0)] : List Value).toArray below meth c H locs 0 0 (ZW below ([.ref (sf t 34 0), .ref (sf t 12 0)] : List Value).toArray s D (some (.int ((-1) - nI (txA (τ 1) L g).1.2.2))) (TW cI cJ t f ((txA (τ 1) L g).1.2.1) h (CS τ L (txA (τ 1) L g).1.2.2 (vA (τ 1) L (τ 0 5) g))) A) (F0 m 11 ls []) := by
    intro n9
    induction n9 with
    | zero => intro G S1 v1 ct H locs ls hmeas; exact absurd hmeas (Nat.not_lt_zero _)
    | succ n9 ih_11 =>
      intro G S1 v1 ct H locs ls hmeas hS1 hct hIv hT hV hP hD hS hl
      obtain ⟨n7, hI7⟩ := hIv
      have hn7 := hI7.nO
      rw [hn7] at hT hV
      refine lv_iload_n hx hb dX2_readInto_11 rfl (lv_at hl 2 rfl) ?_
      refine lv_bipush (v := nI 120) hx hb dX2_readInto_12 (by decide) ?_
      refine q_icmp_gtN (tgt := 66) (a := ct) (b := 120) hx hb dX2_readInto_14 (by decide) (by omega) (by omega) (fun h => absurd h (by omega)) (fun _ => ?_)
      refine lv_aload_n hx hb dX2_readInto_17 rfl (lv_at hl 0 rfl) ?_
      refine lv_aload_n hx hb dX2_readInto_18 rfl (lv_at hl 1 rfl) ?_
      refine WY.callV 34 (w1 := TW cI cJ t f ((iT (τ 1) L G S1 n7).2.1) h (CS τ L ((iT (τ 1) L G S1 n7).2.2) (vT (τ 1) L v1 G S1 n7))) hZ S kv_X2_34 (c_X2_readItem l D cI cJ t f G h τ mt ka kk vv v1 L S1 n7 hL hL120 hS1 hI7.wk.1 hI7.wk.2.1) hK hP hD hS hA [] [] (List.append_nil _).symm (List.append_nil _).symm TW_fst rfl ⟨Nat.le_of_ble_eq_true rfl, Nat.le_of_ble_eq_true rfl⟩ hl.1 rfl rfl (Nat.le_of_ble_eq_true rfl) (Nat.zero_le _) (Nat.zero_le _) dX2_readInto_19 (fun H locs hP hD hS => ?_)
      have hXL : (iT (τ 1) L G S1 n7).2.2 ≤ L := iT_le hS1
      have hXg : S1 ≤ (iT (τ 1) L G S1 n7).2.2 := iT_ge hS1
      have htk := tK_lt (b := τ 1) (L := L) (s := (iT (τ 1) L G S1 n7).2.2)
      refine q_if_neB (tgt := 32) hx hb dX2_readInto_22 (by decide) (fun c_22 => ?_) (fun c_22 => ?_)
      · refine lv_iinc (v := nI (ct + 1)) (lv' := [(2, .int (nI (ct + 1))), (0, .ref (sf t 34 0)), (1, .ref (sf t 12 0))]) hx hb dX2_readInto_32 hl (k := 2) rfl (q_inc _) (by decide) rfl (fun ls hl => ?_)
        refine lv_aload_n hx hb dX2_readInto_35 rfl (lv_at hl 1 rfl) ?_
        refine g22_token S hK (TW_tape hP) dX2_readInto_36 ?_
        refine q_if_neN (tgt := 44) (a := tK (τ 1) L ((iT (τ 1) L G S1 n7).2.2)) hx hb dX2_readInto_39 (by decide) (by omega) (fun c_39 => ?_) (fun c_39 => ?_)
        · refine lv_aload_n hx hb dX2_readInto_44 rfl (lv_at hl 1 rfl) ?_
          refine g22_token S hK (TW_tape hP) dX2_readInto_45 ?_
          refine lv_iconst (v := nI 3) hx hb dX2_readInto_48 (by decide) ?_
          refine q_icmp_eqN (tgt := 59) (a := tK (τ 1) L ((iT (τ 1) L G S1 n7).2.2)) (b := 3) hx hb dX2_readInto_49 (by decide) (by omega) (by omega) (fun c_49 => ?_) (fun c_49 => ?_)
          · refine lv_aload_n hx hb dX2_readInto_59 rfl (lv_at hl 1 rfl) ?_
            refine WR.callV (w1 := TW cI cJ t f ((iT (τ 1) L G S1 n7).2.1) h (CS τ L (nx (τ 1) L ((iT (τ 1) L G S1 n7).2.2)) (cV (τ 1) L ((iT (τ 1) L G S1 n7).2.2) (vT (τ 1) L v1 G S1 n7)))) S kv_X2_31 (c_X2_stepS l D cI cJ (sf t 34) τ (vT (τ 1) L v1 G S1 n7) L ((iT (τ 1) L G S1 n7).2.2) hL hL120 (hXL)) hK hP hD hS hA (_) (_) TW_cs TW_cs TT_fst rfl ⟨Nat.le_of_ble_eq_true rfl, Nat.le_of_ble_eq_true rfl⟩ hl.1 rfl rfl (Nat.le_of_ble_eq_true rfl) (Nat.zero_le _) (Nat.zero_le _) dX2_readInto_60 (fun H locs hP hD hS => ?_)
            refine W.eq (g2 := F0 m 63 ls []) rfl ?_
            refine lv_goto (tgt := 11) hx hb dX2_readInto_63 (by decide) ?_
            have hgt := nx_gt hXL c_49
            have hnl := nx_le (b := τ 1) (L := L) hXL
            exact ih_11 ((iT (τ 1) L G S1 n7).2.1) (nx (τ 1) L (iT (τ 1) L G S1 n7).2.2) (cV (τ 1) L (iT (τ 1) L G S1 n7).2.2 (vT (τ 1) L v1 G S1 n7)) (ct + 1) _ _ ls (by omega) (hnl) (by omega) (iT_iv hI7) (by rw [← hT, show 120 - ct = (120 - (ct + 1)) + 1 by omega, txL_1 ⟨c_22, c_49⟩]) (by rw [← hV, show 120 - ct = (120 - (ct + 1)) + 1 by omega, vL_1 ⟨c_22, c_49⟩]) hP hD hS (lv_sub hl [1, 2, 0] rfl)
          · have hTA : txA (τ 1) L g = (iT (τ 1) L G S1 n7, ct + 1) := by rw [← hT]; exact txL_0 (fun q => c_49 q.2)
            have hVA : vA (τ 1) L (τ 0 5) g = vT (τ 1) L v1 G S1 n7 := by rw [← hV]; exact vL_0 (fun q => c_49 q.2)
            refine lv_iconst (v := (-1)) hx hb dX2_readInto_52 (by decide) ?_
            refine lv_aload_n hx hb dX2_readInto_53 rfl (lv_at hl 1 rfl) ?_
            refine g22_start S hK (TW_tape hP) dX2_readInto_54 ?_
            refine lv_isub hx hb dX2_readInto_57 ?_
            exact WR.iret S hr hlk hP hS (by rw [hTA, hVA]) (congrArg (fun z => some (Value.int z)) (by rw [hTA]; rfl)) dX2_readInto_58
        · have hTA : txA (τ 1) L g = (iT (τ 1) L G S1 n7, ct + 1) := by rw [← hT]; exact txL_0 (fun q => absurd q.2 (by omega))
          have hVA : vA (τ 1) L (τ 0 5) g = vT (τ 1) L v1 G S1 n7 := by rw [← hV]; exact vL_0 (fun q => absurd q.2 (by omega))
          exact absurd ⟨by rw [hTA]; exact c_22, by rw [hTA]; exact c_39⟩ hG
      · have hTA : txA (τ 1) L g = (iT (τ 1) L G S1 n7, ct + 1) := by rw [← hT]; exact txL_0 (fun q => c_22 q.1)
        have hVA : vA (τ 1) L (τ 0 5) g = vT (τ 1) L v1 G S1 n7 := by rw [← hV]; exact vL_0 (fun q => c_22 q.1)
        refine lv_iconst (v := (-1)) hx hb dX2_readInto_25 (by decide) ?_
        refine lv_aload_n hx hb dX2_readInto_26 rfl (lv_at hl 0 rfl) ?_
        refine g22_start S hK (TW_tape hP) dX2_readInto_27 ?_
        refine lv_isub hx hb dX2_readInto_30 ?_
        exact WR.iret S hr hlk hP hS (by rw [hTA, hVA]) (congrArg (fun z => some (Value.int z)) (by rw [hTA]; rfl)) dX2_readInto_31
  exact L_11 ((121 - 0) + 1) g (sS (τ 1) L 0) (τ 0 5) 0 _ _ ls (Nat.lt_succ_self _) ((sS_le (Nat.zero_le L)).2) (Nat.zero_le _) (⟨n, hI⟩) (rfl) (rfl) hP hD hS (lv_sub hl [1, 2, 0] rfl)

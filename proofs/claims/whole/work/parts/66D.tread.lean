set_option maxRecDepth 100000 in
set_option maxHeartbeats 4000000 in
theorem c_X2_readItem (l : Launch) (D : va_G) (cI cJ : ClassId) (t : Nat → Nat) (f g h : Nat → Int32) (τ : Nat → Nat → Int32) (mt ka : Nat) (kk vv : Nat → Nat) (v : Int32) (L : Nat) (S9 : Nat) (n : Nat) (hL : τ 0 1 = nI L) (hL120 : L ≤ 120) (hS9 : S9 ≤ L) (hg0 : g 0 = nI n) (h8 : n ≤ 8) : WY mt ka kk vv l yX2_readItem cX2_readItem 4 (some .boolean) 6 D cI cJ (TW cI cJ t f g h (CS τ L S9 v)) [.ref (sf t 34 0), .ref (sf t 12 0)] (some (.int (bI ((iT (τ 1) L g S9 n).1 = true)))) (TW cI cJ t f ((iT (τ 1) L g S9 n).2.1) h (CS τ L (iT (τ 1) L g S9 n).2.2 (vT (τ 1) L v g S9 n))) := by
  refine WY.of (by decide) (Nat.le_of_ble_eq_true rfl) (fun p e s m below meth c ls A S hr hlk hK hP hD hS hA hZ hl => ?_)
  obtain ⟨hx, hb, hml, hown, hU⟩ := id S
  have hl : lv_has ls 4 [(0, .ref (sf t 34 0)), (1, .ref (sf t 12 0))] := hl
  refine lv_aload_n hx hb dX2_readItem_0 rfl (lv_at hl 0 rfl) ?_
  refine va_ldcS hx hb hown (show vk_R RX2 38 "storm" (kk 0) s from hZ.2.2.2.2.1 0 (by decide)) dX2_readItem_1 ?_
  refine RY.callV hZ hS S kv_X2_40 (c_X2_isWord l D cI cJ (sf t 34) τ mt ka kk vv v L S9 hL hL120 (hS9) 0 (by decide)) hK (TW_tape hP) rfl ⟨Nat.le_of_ble_eq_true rfl, Nat.le_of_ble_eq_true rfl⟩ hl.1 rfl rfl (Nat.le_of_ble_eq_true rfl) (Nat.zero_le _) (Nat.zero_le _) dX2_readItem_3 ?_
  refine q_if_eqB (tgt := 20) hx hb dX2_readItem_6 (by decide) (fun c_6 => ?_) (fun c_6 => ?_)
  · refine lv_aload_n hx hb dX2_readItem_20 rfl (lv_at hl 0 rfl) ?_
    refine va_ldcS hx hb hown (show vk_R RX2 53 "frost" (kk 1) s from hZ.2.2.2.2.1 1 (by decide)) dX2_readItem_21 ?_
    refine RY.callV hZ hS S kv_X2_40 (c_X2_isWord l D cI cJ (sf t 34) τ mt ka kk vv v L S9 hL hL120 (hS9) 1 (by decide)) hK (TW_tape hP) rfl ⟨Nat.le_of_ble_eq_true rfl, Nat.le_of_ble_eq_true rfl⟩ hl.1 rfl rfl (Nat.le_of_ble_eq_true rfl) (Nat.zero_le _) (Nat.zero_le _) dX2_readItem_23 ?_
    refine q_if_eqB (tgt := 40) hx hb dX2_readItem_26 (by decide) (fun c_26 => ?_) (fun c_26 => ?_)
    · refine lv_aload_n hx hb dX2_readItem_40 rfl (lv_at hl 0 rfl) ?_
      refine RY.callV hZ hS S kv_X2_58 (c_X2_kindOfWord l D cI cJ (sf t 34) τ mt ka kk vv v L S9 hL hL120 (hS9)) hK (TW_tape hP) rfl ⟨Nat.le_of_ble_eq_true rfl, Nat.le_of_ble_eq_true rfl⟩ hl.1 rfl rfl (Nat.le_of_ble_eq_true rfl) (Nat.zero_le _) (Nat.zero_le _) dX2_readItem_41 ?_
      refine lv_istore_n (lv' := [(2, .int (oI (kdO (τ 1) L S9))), (0, .ref (sf t 34 0)), (1, .ref (sf t 12 0))]) hx hb dX2_readItem_44 rfl hl (by decide) rfl (fun ls hl => ?_)
      cases hk : kdO (τ 1) L S9 with
      | none =>
        have hl : lv_has ls 4 [(2, .int (-1)), (0, .ref (sf t 34 0)), (1, .ref (sf t 12 0))] := by rw [hk] at hl; exact hl
        refine lv_iload_n hx hb dX2_readItem_45 rfl (lv_at hl 0 rfl) ?_
        refine lv_if_lt (tgt := 58) hx hb dX2_readItem_46 (by decide) (fun _ => ?_) (fun h => absurd (by decide) h)
        refine lv_iconst (v := nI 0) hx hb dX2_readItem_58 (by decide) ?_
        exact WR.zret S hr hlk hP hS (by rw [iT_none c_6 c_26 hk, vT_none c_6 c_26 hk]) (bI_f (by rw [iT_none c_6 c_26 hk]; exact Bool.false_ne_true)) dX2_readItem_59
      | some k =>
        have hl : lv_has ls 4 [(2, .int (nI k)), (0, .ref (sf t 34 0)), (1, .ref (sf t 12 0))] := by rw [hk] at hl; exact hl
        have hk7 := fst1_lt hk
        refine lv_iload_n hx hb dX2_readItem_45 rfl (lv_at hl 0 rfl) ?_
        refine q_if_ltN (tgt := 58) (a := k) hx hb dX2_readItem_46 (by decide) (by omega) ?_
        refine lv_aload_n hx hb dX2_readItem_49 rfl (lv_at hl 2 rfl) ?_
        refine g20_casks S hK (TW_trial hP) dX2_readItem_50 ?_
        refine q_eqi (y := nI n) (hg0) ?_
        refine lv_bipush (v := nI 8) hx hb dX2_readItem_53 (by decide) ?_
        refine q_icmp_ltN (tgt := 60) (a := n) (b := 8) hx hb dX2_readItem_55 (by decide) (by omega) (by omega) (fun c_55 => ?_) (fun c_55 => ?_)
        · refine lv_aload_n hx hb dX2_readItem_60 rfl (lv_at hl 2 rfl) ?_
          refine lv_iload_n hx hb dX2_readItem_61 rfl (lv_at hl 0 rfl) ?_
          refine lv_iconst (v := nI 0) hx hb dX2_readItem_62 (by decide) ?_
          refine WR.callV (w1 := TW cI cJ t f (sAd g n (nI k) (nI 0)) h (CS τ L S9 v)) S kv_X2_65 (c_X0_addCask l D cI cJ (sf t 12) g (nI k) (nI 0) n (hg0) (by omega)) hK hP hD hS hA (_) (_) TW_s2 TW_s2 PW_fst rfl ⟨Nat.le_of_ble_eq_true rfl, Nat.le_of_ble_eq_true rfl⟩ hl.1 rfl rfl (Nat.le_of_ble_eq_true rfl) (Nat.zero_le _) (Nat.zero_le _) dX2_readItem_63 (fun H locs hP hD hS => ?_)
          refine lv_istore_n (lv' := [(3, .int (nI n)), (2, .int (nI k)), (0, .ref (sf t 34 0)), (1, .ref (sf t 12 0))]) hx hb dX2_readItem_66 rfl hl (by decide) rfl (fun ls hl => ?_)
          refine lv_aload_n hx hb dX2_readItem_67 rfl (lv_at hl 2 rfl) ?_
          refine WR.callV (w1 := TW cI cJ t f ((iX (τ 1) L g S9 n k 0).2.1) h (CS τ L ((iX (τ 1) L g S9 n k 0).2.2) (vX (τ 1) L v g S9 n k 0))) S kv_X2_31 (c_X2_stepS l D cI cJ (sf t 34) τ v L S9 hL hL120 (hS9)) hK hP hD hS hA (_) (_) TW_cs TW_cs TT_fst rfl ⟨Nat.le_of_ble_eq_true rfl, Nat.le_of_ble_eq_true rfl⟩ hl.1 rfl rfl (Nat.le_of_ble_eq_true rfl) (Nat.zero_le _) (Nat.zero_le _) dX2_readItem_68 (fun H locs hP hD hS => ?_)
          refine W.eq (g2 := F0 m 71 ls []) rfl ?_
          refine lv_aload_n hx hb dX2_readItem_71 rfl (lv_at hl 2 rfl) ?_
          refine lv_aload_n hx hb dX2_readItem_72 rfl (lv_at hl 3 rfl) ?_
          refine lv_iload_n hx hb dX2_readItem_73 rfl (lv_at hl 0 rfl) ?_
          refine va_ldcS hx hb hown (show vk_R RX2 69 "in" (kk 2) s from hZ.2.2.2.2.1 2 (by decide)) dX2_readItem_74 ?_
          refine lv_iconst (v := nI 1) hx hb dX2_readItem_76 (by decide) ?_
          refine WY.callV 34 (w1 := TW cI cJ t f ((iX (τ 1) L g S9 n k 1).2.1) h (CS τ L ((iX (τ 1) L g S9 n k 1).2.2) (vX (τ 1) L v g S9 n k 1))) hZ S kv_X2_71 (c_X2_readMark_1 l D cI cJ t f h τ mt ka kk vv (vX (τ 1) L v g S9 n k 0) L (iX (τ 1) L g S9 n k 0) hL hL120 (iX_le hS9 0) rfl n (by omega)) hK hP hD hS hA [] [] (List.append_nil _).symm (List.append_nil _).symm TW_fst rfl ⟨Nat.le_of_ble_eq_true rfl, Nat.le_of_ble_eq_true rfl⟩ hl.1 rfl rfl (Nat.le_of_ble_eq_true rfl) (Nat.zero_le _) (Nat.zero_le _) dX2_readItem_77 (fun H locs hP hD hS => ?_)
          refine q_if_eqB (tgt := 123) hx hb dX2_readItem_80 (by decide) (fun c_80 => ?_) (fun c_80 => ?_)
          · refine lv_iconst (v := nI 0) hx hb dX2_readItem_123 (by decide) ?_
            exact WR.zret S hr hlk hP hS (by rw [iT_some hk (by omega), show iX (τ 1) L g S9 n k 4 = iX (τ 1) L g S9 n k 1 from iX_to (show ¬ (iX (τ 1) L g S9 n k 1).1 = true from c_80) 3, vT_some hk (by omega), show vX (τ 1) L v g S9 n k 4 = vX (τ 1) L v g S9 n k 1 from vX_to (show ¬ (iX (τ 1) L g S9 n k 1).1 = true from c_80) 3]) (bI_f (by rw [iT_some hk (by omega), show iX (τ 1) L g S9 n k 4 = iX (τ 1) L g S9 n k 1 from iX_to (show ¬ (iX (τ 1) L g S9 n k 1).1 = true from c_80) 3]; exact c_80)) dX2_readItem_124
          · refine lv_aload_n hx hb dX2_readItem_83 rfl (lv_at hl 2 rfl) ?_
            refine lv_aload_n hx hb dX2_readItem_84 rfl (lv_at hl 3 rfl) ?_
            refine lv_iload_n hx hb dX2_readItem_85 rfl (lv_at hl 0 rfl) ?_
            refine va_ldcS hx hb hown (show vk_R RX2 75 "peal" (kk 3) s from hZ.2.2.2.2.1 3 (by decide)) dX2_readItem_86 ?_
            refine lv_iconst (v := nI 2) hx hb dX2_readItem_88 (by decide) ?_
            refine WY.callV 34 (w1 := TW cI cJ t f ((iX (τ 1) L g S9 n k 2).2.1) h (CS τ L ((iX (τ 1) L g S9 n k 2).2.2) (vX (τ 1) L v g S9 n k 2))) hZ S kv_X2_71 (c_X2_readMark_2 l D cI cJ t f h τ mt ka kk vv (vX (τ 1) L v g S9 n k 1) L (iX (τ 1) L g S9 n k 1) hL hL120 (iX_le hS9 1) c_80 n (by omega)) hK hP hD hS hA [] [] (List.append_nil _).symm (List.append_nil _).symm TW_fst rfl ⟨Nat.le_of_ble_eq_true rfl, Nat.le_of_ble_eq_true rfl⟩ hl.1 rfl rfl (Nat.le_of_ble_eq_true rfl) (Nat.zero_le _) (Nat.zero_le _) dX2_readItem_89 (fun H locs hP hD hS => ?_)
            refine q_if_eqB (tgt := 123) hx hb dX2_readItem_92 (by decide) (fun c_92 => ?_) (fun c_92 => ?_)
            · refine lv_iconst (v := nI 0) hx hb dX2_readItem_123 (by decide) ?_
              exact WR.zret S hr hlk hP hS (by rw [iT_some hk (by omega), show iX (τ 1) L g S9 n k 4 = iX (τ 1) L g S9 n k 2 from iX_to (show ¬ (iX (τ 1) L g S9 n k 2).1 = true from c_92) 2, vT_some hk (by omega), show vX (τ 1) L v g S9 n k 4 = vX (τ 1) L v g S9 n k 2 from vX_to (show ¬ (iX (τ 1) L g S9 n k 2).1 = true from c_92) 2]) (bI_f (by rw [iT_some hk (by omega), show iX (τ 1) L g S9 n k 4 = iX (τ 1) L g S9 n k 2 from iX_to (show ¬ (iX (τ 1) L g S9 n k 2).1 = true from c_92) 2]; exact c_92)) dX2_readItem_124
            · refine lv_aload_n hx hb dX2_readItem_95 rfl (lv_at hl 2 rfl) ?_
              refine lv_aload_n hx hb dX2_readItem_96 rfl (lv_at hl 3 rfl) ?_
              refine lv_iload_n hx hb dX2_readItem_97 rfl (lv_at hl 0 rfl) ?_
              refine va_ldcS hx hb hown (show vk_R RX2 77 "pitch" (kk 4) s from hZ.2.2.2.2.1 4 (by decide)) dX2_readItem_98 ?_
              refine lv_iconst (v := nI 3) hx hb dX2_readItem_100 (by decide) ?_
              refine WY.callV 34 (w1 := TW cI cJ t f ((iX (τ 1) L g S9 n k 3).2.1) h (CS τ L ((iX (τ 1) L g S9 n k 3).2.2) (vX (τ 1) L v g S9 n k 3))) hZ S kv_X2_71 (c_X2_readMark_3 l D cI cJ t f h τ mt ka kk vv (vX (τ 1) L v g S9 n k 2) L (iX (τ 1) L g S9 n k 2) hL hL120 (iX_le hS9 2) c_92 n (by omega)) hK hP hD hS hA [] [] (List.append_nil _).symm (List.append_nil _).symm TW_fst rfl ⟨Nat.le_of_ble_eq_true rfl, Nat.le_of_ble_eq_true rfl⟩ hl.1 rfl rfl (Nat.le_of_ble_eq_true rfl) (Nat.zero_le _) (Nat.zero_le _) dX2_readItem_101 (fun H locs hP hD hS => ?_)
              refine q_if_eqB (tgt := 123) hx hb dX2_readItem_104 (by decide) (fun c_104 => ?_) (fun c_104 => ?_)
              · refine lv_iconst (v := nI 0) hx hb dX2_readItem_123 (by decide) ?_
                exact WR.zret S hr hlk hP hS (by rw [iT_some hk (by omega), show iX (τ 1) L g S9 n k 4 = iX (τ 1) L g S9 n k 3 from iX_to (show ¬ (iX (τ 1) L g S9 n k 3).1 = true from c_104) 1, vT_some hk (by omega), show vX (τ 1) L v g S9 n k 4 = vX (τ 1) L v g S9 n k 3 from vX_to (show ¬ (iX (τ 1) L g S9 n k 3).1 = true from c_104) 1]) (bI_f (by rw [iT_some hk (by omega), show iX (τ 1) L g S9 n k 4 = iX (τ 1) L g S9 n k 3 from iX_to (show ¬ (iX (τ 1) L g S9 n k 3).1 = true from c_104) 1]; exact c_104)) dX2_readItem_124
              · refine lv_aload_n hx hb dX2_readItem_107 rfl (lv_at hl 2 rfl) ?_
                refine lv_aload_n hx hb dX2_readItem_108 rfl (lv_at hl 3 rfl) ?_
                refine lv_iload_n hx hb dX2_readItem_109 rfl (lv_at hl 0 rfl) ?_
                refine va_ldcS hx hb hown (show vk_R RX2 79 "hoops" (kk 5) s from hZ.2.2.2.2.1 5 (by decide)) dX2_readItem_110 ?_
                refine lv_iconst (v := nI 4) hx hb dX2_readItem_112 (by decide) ?_
                refine WY.callV 34 (w1 := TW cI cJ t f ((iX (τ 1) L g S9 n k 4).2.1) h (CS τ L ((iX (τ 1) L g S9 n k 4).2.2) (vX (τ 1) L v g S9 n k 4))) hZ S kv_X2_71 (c_X2_readMark_4 l D cI cJ t f h τ mt ka kk vv (vX (τ 1) L v g S9 n k 3) L (iX (τ 1) L g S9 n k 3) hL hL120 (iX_le hS9 3) c_104 n (by omega)) hK hP hD hS hA [] [] (List.append_nil _).symm (List.append_nil _).symm TW_fst rfl ⟨Nat.le_of_ble_eq_true rfl, Nat.le_of_ble_eq_true rfl⟩ hl.1 rfl rfl (Nat.le_of_ble_eq_true rfl) (Nat.zero_le _) (Nat.zero_le _) dX2_readItem_113 (fun H locs hP hD hS => ?_)
                refine q_if_eqB (tgt := 123) hx hb dX2_readItem_116 (by decide) (fun c_116 => ?_) (fun c_116 => ?_)
                · refine lv_iconst (v := nI 0) hx hb dX2_readItem_123 (by decide) ?_
                  exact WR.zret S hr hlk hP hS (by rw [iT_some hk (by omega), vT_some hk (by omega)]) (bI_f (by rw [iT_some hk (by omega)]; exact c_116)) dX2_readItem_124
                · refine lv_iconst (v := nI 1) hx hb dX2_readItem_119 (by decide) ?_
                  refine lv_goto (tgt := 124) hx hb dX2_readItem_120 (by decide) ?_
                  exact WR.zret S hr hlk hP hS (by rw [iT_some hk (by omega), vT_some hk (by omega)]) (bI_t (by rw [iT_some hk (by omega)]; exact c_116)) dX2_readItem_124
        · refine lv_iconst (v := nI 0) hx hb dX2_readItem_58 (by decide) ?_
          exact WR.zret S hr hlk hP hS (by rw [iT_full hk (by omega), vT_full hk (by omega)]) (bI_f (by rw [iT_full hk (by omega)]; exact Bool.false_ne_true)) dX2_readItem_59
    · refine lv_aload_n hx hb dX2_readItem_29 rfl (lv_at hl 0 rfl) ?_
      refine lv_aload_n hx hb dX2_readItem_30 rfl (lv_at hl 1 rfl) ?_
      refine g20_frosts S hK (TW_trial hP) dX2_readItem_31 ?_
      refine lv_bipush (v := nI 9) hx hb dX2_readItem_34 (by decide) ?_
      refine WY.callV 34 (w1 := TW cI cJ t f ((iR (τ 1) L g S9 4 9).2.1) h (CS τ L ((iR (τ 1) L g S9 4 9).2.2) (vR (τ 1) L v S9 9))) hZ S kv_X2_49 (c_X2_readPair_frosts l D cI cJ t f g h τ mt ka kk vv v L S9 hL hL120 (hS9)) hK hP hD hS hA [] [] (List.append_nil _).symm (List.append_nil _).symm TW_fst rfl ⟨Nat.le_of_ble_eq_true rfl, Nat.le_of_ble_eq_true rfl⟩ hl.1 rfl rfl (Nat.le_of_ble_eq_true rfl) (Nat.zero_le _) (Nat.zero_le _) dX2_readItem_36 (fun H locs hP hD hS => ?_)
      exact WR.zret S hr hlk hP hS (by rw [iT_frost c_6 c_26, vT_frost c_6 c_26]) (by rw [iT_frost c_6 c_26]) dX2_readItem_39
  · refine lv_aload_n hx hb dX2_readItem_9 rfl (lv_at hl 0 rfl) ?_
    refine lv_aload_n hx hb dX2_readItem_10 rfl (lv_at hl 1 rfl) ?_
    refine g20_list S hK (TW_trial hP) dX2_readItem_11 ?_
    refine lv_bipush (v := nI 99) hx hb dX2_readItem_14 (by decide) ?_
    refine WY.callV 34 (w1 := TW cI cJ t f ((iR (τ 1) L g S9 10 99).2.1) h (CS τ L ((iR (τ 1) L g S9 10 99).2.2) (vR (τ 1) L v S9 99))) hZ S kv_X2_49 (c_X2_readPair_list l D cI cJ t f g h τ mt ka kk vv v L S9 hL hL120 (hS9)) hK hP hD hS hA [] [] (List.append_nil _).symm (List.append_nil _).symm TW_fst rfl ⟨Nat.le_of_ble_eq_true rfl, Nat.le_of_ble_eq_true rfl⟩ hl.1 rfl rfl (Nat.le_of_ble_eq_true rfl) (Nat.zero_le _) (Nat.zero_le _) dX2_readItem_16 (fun H locs hP hD hS => ?_)
    exact WR.zret S hr hlk hP hS (by rw [iT_storm c_6, vT_storm c_6]) (by rw [iT_storm c_6]) dX2_readItem_19

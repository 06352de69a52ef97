theorem tr_eq {x : Bool × (Nat → Int32) × Nat} (h : x.1 = true) : x = (true, x.2.1, x.2.2) := by
  obtain ⟨b, f, s⟩ := x
  cases h
  rfl
section
variable {b : Nat → Int32} {L : Nat} {f : Nat → Int32} {S n k : Nat}
theorem iT_s (h : kdO b L S = some k) : iT b L f S n = iC b L f S n k := by unfold iT; rw [h]
theorem iT_st (h : kdO b L S = none) (h1 : wd b L S [115, 116, 111, 114, 109] = true) : iT b L f S n = iR b L f S 10 99 := by unfold iT; rw [h]; exact if_pos h1
theorem iT_fr (h : kdO b L S = none) (h1 : ¬ wd b L S [115, 116, 111, 114, 109] = true) (h2 : wd b L S [102, 114, 111, 115, 116] = true) : iT b L f S n = iR b L f S 4 9 := by unfold iT; rw [h]; exact (if_neg h1).trans (if_pos h2)
theorem iT_no (h : kdO b L S = none) (h1 : ¬ wd b L S [115, 116, 111, 114, 109] = true) (h2 : ¬ wd b L S [102, 114, 111, 115, 116] = true) : iT b L f S n = (false, f, S) := by unfold iT; rw [h]; exact (if_neg h1).trans (if_neg h2)
end
set_option maxRecDepth 100000 in
set_option maxHeartbeats 4000000 in
theorem c_X4_caskHere (l : Launch) (D : va_G) (cI cJ : ClassId) (a : Nat → Nat) (f : Nat → Int32) (σ : Nat → Nat → Int32) (L : Nat) (S9 : Nat) (hL : σ 9 1 = nI L) (hL120 : L ≤ 120) (hS9 : S9 ≤ L) (hby : By (σ 5) L) (kk : Nat) (hkk : kk ≤ 6) (n : Nat) (hw : Wk f n) : WR l yX4_caskHere cX4_caskHere 3 (some .boolean) 3 D cI cJ (MW cI a f (TS σ L S9)) [.ref (a 0), .int (nI kk)] (some (.int (bI ((iC (σ 5) L f S9 n kk).1 = true)))) (MW cI a ((iC (σ 5) L f S9 n kk).2.1) (XS σ L (iC (σ 5) L f S9 n kk))) := by
  have hte := tE_le (b := σ 5) (L := L) (s := S9) hS9
  have htv := tV_lt (b := σ 5) (L := L) (s := S9)
  have htk := tK_lt (b := σ 5) (L := L) (s := S9)
  have h8 := hw.2.1
  have hte2 := tE_le (b := σ 5) (L := L) (s := nx (σ 5) L S9) (nx_le hS9)
  refine WR.of (by decide) (Nat.le_of_ble_eq_true rfl) (fun p e s m below meth c ls A S hr hlk hK hP hD hS hA hl => ?_)
  obtain ⟨hx, hb, hml, hown, hU⟩ := id S
  have hl : lv_has ls 3 [(0, .ref (a 0)), (1, .int (nI kk))] := hl
  refine lv_aload_n hx hb dX4_caskHere_0 rfl (lv_at hl 0 rfl) ?_
  refine g4_s S hK hP dX4_caskHere_1 ?_
  refine lv_iconst (v := nI 0) hx hb dX4_caskHere_4 (by decide) ?_
  refine l4_s S hK hP (j := 0) (by omega) dX4_caskHere_5 ?_
  refine q_eqi (y := nI n) (hw.1) ?_
  refine lv_bipush (v := nI 8) hx hb dX4_caskHere_6 (by decide) ?_
  refine q_icmp_neN (tgt := 16) (a := n) (b := 8) hx hb dX4_caskHere_8 (by decide) (by omega) (by omega) (fun c_8 => ?_) (fun c_8 => ?_)
  · refine lv_aload_n hx hb dX4_caskHere_16 rfl (lv_at hl 0 rfl) ?_
    refine lv_iload_n hx hb dX4_caskHere_17 rfl (lv_at hl 1 rfl) ?_
    refine lv_iconst (v := nI 0) hx hb dX4_caskHere_18 (by decide) ?_
    refine WR.callV (w1 := MW cI a (sAd f n (nI kk) (nI 0)) (TS σ L S9)) S kv_X4_76 (c_X4_comes l D cI cJ a f (TS σ L S9) (nI kk) (nI 0) n (hw.1) (by omega)) hK hP hD hS hA ([]) ([]) rfl rfl MW_fst rfl ⟨Nat.le_of_ble_eq_true rfl, Nat.le_of_ble_eq_true rfl⟩ hl.1 rfl rfl (Nat.le_of_ble_eq_true rfl) (Nat.zero_le _) (Nat.zero_le _) dX4_caskHere_19 (fun H locs hP hD hS => ?_)
    refine W.eq (g2 := F0 m 22 ls []) rfl ?_
    refine lv_aload_n hx hb dX4_caskHere_22 rfl (lv_at hl 0 rfl) ?_
    refine g4_s S hK hP dX4_caskHere_23 ?_
    refine lv_iconst (v := nI 0) hx hb dX4_caskHere_26 (by decide) ?_
    refine l4_s S hK hP (j := 0) (by omega) dX4_caskHere_27 ?_
    refine q_eqi (y := nI (n + 1)) (upd_at) ?_
    refine lv_iconst (v := nI 1) hx hb dX4_caskHere_28 (by decide) ?_
    refine q_isubN (a := n + 1) (b := 1) hx hb dX4_caskHere_29 (by omega) ?_
    refine q_eqi (y := nI n) (rfl) ?_
    refine lv_istore_n (lv' := [(2, .int (nI n)), (0, .ref (a 0)), (1, .int (nI kk))]) hx hb dX4_caskHere_30 rfl hl (by decide) rfl (fun ls hl => ?_)
    refine lv_aload_n hx hb dX4_caskHere_31 rfl (lv_at hl 1 rfl) ?_
    refine WR.callV (w1 := MW cI a (sAd f n (nI kk) (nI 0)) (TS σ L (nx (σ 5) L S9))) S kv_X4_256 (c_X4_nextToken l D cI cJ a (sAd f n (nI kk) (nI 0)) σ (nI (tK (σ 5) L S9)) (nI S9) (tE (σ 5) L S9) (nI (tV (σ 5) L S9)) L hL hL120 (tE_le (hS9)).2 hby) hK hP hD hS hA ([]) ([]) rfl rfl MW_fst rfl ⟨Nat.le_of_ble_eq_true rfl, Nat.le_of_ble_eq_true rfl⟩ hl.1 rfl rfl (Nat.le_of_ble_eq_true rfl) (Nat.zero_le _) (Nat.zero_le _) dX4_caskHere_32 (fun H locs hP hD hS => ?_)
    refine W.eq (g2 := F0 m 35 ls []) rfl ?_
    refine lv_aload_n hx hb dX4_caskHere_35 rfl (lv_at hl 1 rfl) ?_
    refine lv_aload_n hx hb dX4_caskHere_36 rfl (lv_at hl 1 rfl) ?_
    refine lv_iconst (v := nI 2) hx hb dX4_caskHere_37 (by decide) ?_
    refine RO.callV S kv_X4_234 (c_X4_isWord l D cI cJ a (sAd f n (nI kk) (nI 0)) σ L (nx (σ 5) L S9) hL hL120 (nx_le (hS9)) 2 (by omega)) hK hP rfl ⟨Nat.le_of_ble_eq_true rfl, Nat.le_of_ble_eq_true rfl⟩ hl.1 rfl rfl (Nat.le_of_ble_eq_true rfl) (Nat.zero_le _) (Nat.zero_le _) dX4_caskHere_38 ?_
    refine q_if_eqB (tgt := 76) hx hb dX4_caskHere_41 (by decide) (fun c_41 => ?_) (fun c_41 => ?_)
    · refine lv_iconst (v := nI 0) hx hb dX4_caskHere_76 (by decide) ?_
      refine q_eqi (y := bI (wd (σ 5) L (nx (σ 5) L S9) [105, 110] = true)) ((bI_f (fun q5 => c_41 ⟨(wd2_iff.mp q5).1, (wd2_iff.mp q5).2.1⟩)).symm) ?_
      refine lv_iload_n hx hb dX4_caskHere_77 rfl (lv_at hl 0 rfl) ?_
      refine lv_iconst (v := nI 1) hx hb dX4_caskHere_78 (by decide) ?_
      refine RO.callS S ks_X4_70 (c_X4_at l D cI cJ a (sAd f n (nI kk) (nI 0)) (TS σ L (nx (σ 5) L S9)) n 1) hK hP ⟨Nat.le_of_ble_eq_true rfl, Nat.le_of_ble_eq_true rfl⟩ hl.1 rfl rfl (Nat.le_of_ble_eq_true rfl) (Nat.zero_le _) (Nat.zero_le _) dX4_caskHere_79 ?_
      refine lv_iconst (v := nI 5) hx hb dX4_caskHere_82 (by decide) ?_
      refine WR.callV (w1 := MW cI a ((pP (σ 5) L (true, sAd f n (nI kk) (nI 0), nx (σ 5) L S9) [105, 110] (16 + 7 * n + 1) 5).2.1) (XS σ L (pP (σ 5) L (true, sAd f n (nI kk) (nI 0), nx (σ 5) L S9) [105, 110] (16 + 7 * n + 1) 5))) S kv_X4_262 (c_X4_perhaps_w l D cI cJ a (sAd f n (nI kk) (nI 0)) σ L (nx (σ 5) L S9) hL hL120 (nx_le (hS9)) hby [105, 110] (16 + 7 * n + 1) 5 (by omega) (by omega)) hK hP hD hS hA ([]) ([]) rfl rfl MW_fst rfl ⟨Nat.le_of_ble_eq_true rfl, Nat.le_of_ble_eq_true rfl⟩ hl.1 rfl rfl (Nat.le_of_ble_eq_true rfl) (Nat.zero_le _) (Nat.zero_le _) dX4_caskHere_83 (fun H locs hP hD hS => ?_)
      refine q_if_eqB (tgt := 177) hx hb dX4_caskHere_86 (by decide) (fun c_86 => ?_) (fun c_86 => ?_)
      · refine lv_iconst (v := nI 0) hx hb dX4_caskHere_177 (by decide) ?_
        exact WR.zret S hr hlk hP hS (by rw [show iC (σ 5) L f S9 n kk = _ from if_neg (by omega), pP_f c_86, pP_f c_86, pP_f c_86]) (bI_f (by rw [show iC (σ 5) L f S9 n kk = _ from if_neg (by omega), pP_f c_86, pP_f c_86, pP_f c_86]; exact c_86)) dX4_caskHere_178
      · obtain ⟨f1_83, S1_83, hX_83⟩ : ∃ f1 S1, pP (σ 5) L (true, sAd f n (nI kk) (nI 0), nx (σ 5) L S9) [105, 110] (16 + 7 * n + 1) 5 = (true, f1, S1) := ⟨_, _, tr_eq c_86⟩
        have hS1_83 : S1_83 ≤ L := by have h9 := pP_le (b := σ 5) (L := L) (x := (true, sAd f n (nI kk) (nI 0), nx (σ 5) L S9)) (pl := 16 + 7 * n + 1) (mo := 5) (ws := [105, 110]) (nx_le (hS9)); rw [hX_83] at h9; exact h9
        rw [XS_t c_86, hX_83] at hP hD
        have hP : va_P D vwCl (MW cI a f1_83 (TS σ L S1_83)) H := hP
        have hD : va_D A (MW cI a f1_83 (TS σ L S1_83)) := hD
        have hte83 := tE_le (b := σ 5) (L := L) (s := S1_83) hS1_83
        refine lv_aload_n hx hb dX4_caskHere_89 rfl (lv_at hl 1 rfl) ?_
        refine lv_aload_n hx hb dX4_caskHere_90 rfl (lv_at hl 1 rfl) ?_
        refine lv_bipush (v := nI 112) hx hb dX4_caskHere_91 (by decide) ?_
        refine lv_bipush (v := nI 101) hx hb dX4_caskHere_93 (by decide) ?_
        refine lv_bipush (v := nI 97) hx hb dX4_caskHere_95 (by decide) ?_
        refine lv_bipush (v := nI 108) hx hb dX4_caskHere_97 (by decide) ?_
        refine RO.callV S kv_X4_245 (c_X4_isFour l D cI cJ a f1_83 σ L S1_83 hL hL120 (hS1_83) 112 101 97 108) hK hP rfl ⟨Nat.le_of_ble_eq_true rfl, Nat.le_of_ble_eq_true rfl⟩ hl.1 rfl rfl (Nat.le_of_ble_eq_true rfl) (Nat.zero_le _) (Nat.zero_le _) dX4_caskHere_99 ?_
        refine lv_iload_n hx hb dX4_caskHere_102 rfl (lv_at hl 0 rfl) ?_
        refine lv_iconst (v := nI 2) hx hb dX4_caskHere_103 (by decide) ?_
        refine RO.callS S ks_X4_70 (c_X4_at l D cI cJ a f1_83 (TS σ L S1_83) n 2) hK hP ⟨Nat.le_of_ble_eq_true rfl, Nat.le_of_ble_eq_true rfl⟩ hl.1 rfl rfl (Nat.le_of_ble_eq_true rfl) (Nat.zero_le _) (Nat.zero_le _) dX4_caskHere_104 ?_
        refine lv_sipush (v := nI 999) hx hb dX4_caskHere_107 (by decide) ?_
        refine WR.callV (w1 := MW cI a ((pP (σ 5) L (true, f1_83, S1_83) [112, 101, 97, 108] (16 + 7 * n + 2) 999).2.1) (XS σ L (pP (σ 5) L (true, f1_83, S1_83) [112, 101, 97, 108] (16 + 7 * n + 2) 999))) S kv_X4_262 (c_X4_perhaps_w l D cI cJ a f1_83 σ L S1_83 hL hL120 (hS1_83) hby [112, 101, 97, 108] (16 + 7 * n + 2) 999 (by omega) (by omega)) hK hP hD hS hA ([]) ([]) rfl rfl MW_fst rfl ⟨Nat.le_of_ble_eq_true rfl, Nat.le_of_ble_eq_true rfl⟩ hl.1 rfl rfl (Nat.le_of_ble_eq_true rfl) (Nat.zero_le _) (Nat.zero_le _) dX4_caskHere_110 (fun H locs hP hD hS => ?_)
        refine q_if_eqB (tgt := 177) hx hb dX4_caskHere_113 (by decide) (fun c_113 => ?_) (fun c_113 => ?_)
        · refine lv_iconst (v := nI 0) hx hb dX4_caskHere_177 (by decide) ?_
          exact WR.zret S hr hlk hP hS (by rw [show iC (σ 5) L f S9 n kk = _ from if_neg (by omega), hX_83, pP_f c_113, pP_f c_113]) (bI_f (by rw [show iC (σ 5) L f S9 n kk = _ from if_neg (by omega), hX_83, pP_f c_113, pP_f c_113]; exact c_113)) dX4_caskHere_178
        · obtain ⟨f1_110, S1_110, hX_110⟩ : ∃ f1 S1, pP (σ 5) L (true, f1_83, S1_83) [112, 101, 97, 108] (16 + 7 * n + 2) 999 = (true, f1, S1) := ⟨_, _, tr_eq c_113⟩
          have hS1_110 : S1_110 ≤ L := by have h9 := pP_le (b := σ 5) (L := L) (x := (true, f1_83, S1_83)) (pl := 16 + 7 * n + 2) (mo := 999) (ws := [112, 101, 97, 108]) (hS1_83); rw [hX_110] at h9; exact h9
          rw [XS_t c_113, hX_110] at hP hD
          have hP : va_P D vwCl (MW cI a f1_110 (TS σ L S1_110)) H := hP
          have hD : va_D A (MW cI a f1_110 (TS σ L S1_110)) := hD
          have hte110 := tE_le (b := σ 5) (L := L) (s := S1_110) hS1_110
          refine lv_aload_n hx hb dX4_caskHere_116 rfl (lv_at hl 1 rfl) ?_
          refine lv_aload_n hx hb dX4_caskHere_117 rfl (lv_at hl 1 rfl) ?_
          refine lv_bipush (v := nI 112) hx hb dX4_caskHere_118 (by decide) ?_
          refine lv_bipush (v := nI 105) hx hb dX4_caskHere_120 (by decide) ?_
          refine lv_bipush (v := nI 116) hx hb dX4_caskHere_122 (by decide) ?_
          refine lv_bipush (v := nI 99) hx hb dX4_caskHere_124 (by decide) ?_
          refine lv_bipush (v := nI 104) hx hb dX4_caskHere_126 (by decide) ?_
          refine RO.callV S kv_X4_248 (c_X4_isFive l D cI cJ a f1_110 σ L S1_110 hL hL120 (hS1_110) 112 105 116 99 104) hK hP rfl ⟨Nat.le_of_ble_eq_true rfl, Nat.le_of_ble_eq_true rfl⟩ hl.1 rfl rfl (Nat.le_of_ble_eq_true rfl) (Nat.zero_le _) (Nat.zero_le _) dX4_caskHere_128 ?_
          refine lv_iload_n hx hb dX4_caskHere_131 rfl (lv_at hl 0 rfl) ?_
          refine lv_iconst (v := nI 3) hx hb dX4_caskHere_132 (by decide) ?_
          refine RO.callS S ks_X4_70 (c_X4_at l D cI cJ a f1_110 (TS σ L S1_110) n 3) hK hP ⟨Nat.le_of_ble_eq_true rfl, Nat.le_of_ble_eq_true rfl⟩ hl.1 rfl rfl (Nat.le_of_ble_eq_true rfl) (Nat.zero_le _) (Nat.zero_le _) dX4_caskHere_133 ?_
          refine lv_bipush (v := nI 11) hx hb dX4_caskHere_136 (by decide) ?_
          refine WR.callV (w1 := MW cI a ((pP (σ 5) L (true, f1_110, S1_110) [112, 105, 116, 99, 104] (16 + 7 * n + 3) 11).2.1) (XS σ L (pP (σ 5) L (true, f1_110, S1_110) [112, 105, 116, 99, 104] (16 + 7 * n + 3) 11))) S kv_X4_262 (c_X4_perhaps_w l D cI cJ a f1_110 σ L S1_110 hL hL120 (hS1_110) hby [112, 105, 116, 99, 104] (16 + 7 * n + 3) 11 (by omega) (by omega)) hK hP hD hS hA ([]) ([]) rfl rfl MW_fst rfl ⟨Nat.le_of_ble_eq_true rfl, Nat.le_of_ble_eq_true rfl⟩ hl.1 rfl rfl (Nat.le_of_ble_eq_true rfl) (Nat.zero_le _) (Nat.zero_le _) dX4_caskHere_138 (fun H locs hP hD hS => ?_)
          refine q_if_eqB (tgt := 177) hx hb dX4_caskHere_141 (by decide) (fun c_141 => ?_) (fun c_141 => ?_)
          · refine lv_iconst (v := nI 0) hx hb dX4_caskHere_177 (by decide) ?_
            exact WR.zret S hr hlk hP hS (by rw [show iC (σ 5) L f S9 n kk = _ from if_neg (by omega), hX_83, hX_110, pP_f c_141]) (bI_f (by rw [show iC (σ 5) L f S9 n kk = _ from if_neg (by omega), hX_83, hX_110, pP_f c_141]; exact c_141)) dX4_caskHere_178
          · obtain ⟨f1_138, S1_138, hX_138⟩ : ∃ f1 S1, pP (σ 5) L (true, f1_110, S1_110) [112, 105, 116, 99, 104] (16 + 7 * n + 3) 11 = (true, f1, S1) := ⟨_, _, tr_eq c_141⟩
            have hS1_138 : S1_138 ≤ L := by have h9 := pP_le (b := σ 5) (L := L) (x := (true, f1_110, S1_110)) (pl := 16 + 7 * n + 3) (mo := 11) (ws := [112, 105, 116, 99, 104]) (hS1_110); rw [hX_138] at h9; exact h9
            rw [XS_t c_141, hX_138] at hP hD
            have hP : va_P D vwCl (MW cI a f1_138 (TS σ L S1_138)) H := hP
            have hD : va_D A (MW cI a f1_138 (TS σ L S1_138)) := hD
            have hte138 := tE_le (b := σ 5) (L := L) (s := S1_138) hS1_138
            refine lv_aload_n hx hb dX4_caskHere_144 rfl (lv_at hl 1 rfl) ?_
            refine lv_aload_n hx hb dX4_caskHere_145 rfl (lv_at hl 1 rfl) ?_
            refine lv_bipush (v := nI 104) hx hb dX4_caskHere_146 (by decide) ?_
            refine lv_bipush (v := nI 111) hx hb dX4_caskHere_148 (by decide) ?_
            refine lv_bipush (v := nI 111) hx hb dX4_caskHere_150 (by decide) ?_
            refine lv_bipush (v := nI 112) hx hb dX4_caskHere_152 (by decide) ?_
            refine lv_bipush (v := nI 115) hx hb dX4_caskHere_154 (by decide) ?_
            refine RO.callV S kv_X4_248 (c_X4_isFive l D cI cJ a f1_138 σ L S1_138 hL hL120 (hS1_138) 104 111 111 112 115) hK hP rfl ⟨Nat.le_of_ble_eq_true rfl, Nat.le_of_ble_eq_true rfl⟩ hl.1 rfl rfl (Nat.le_of_ble_eq_true rfl) (Nat.zero_le _) (Nat.zero_le _) dX4_caskHere_156 ?_
            refine lv_iload_n hx hb dX4_caskHere_159 rfl (lv_at hl 0 rfl) ?_
            refine lv_iconst (v := nI 4) hx hb dX4_caskHere_160 (by decide) ?_
            refine RO.callS S ks_X4_70 (c_X4_at l D cI cJ a f1_138 (TS σ L S1_138) n 4) hK hP ⟨Nat.le_of_ble_eq_true rfl, Nat.le_of_ble_eq_true rfl⟩ hl.1 rfl rfl (Nat.le_of_ble_eq_true rfl) (Nat.zero_le _) (Nat.zero_le _) dX4_caskHere_161 ?_
            refine lv_sipush (v := nI 999) hx hb dX4_caskHere_164 (by decide) ?_
            refine WR.callV (w1 := MW cI a ((pP (σ 5) L (true, f1_138, S1_138) [104, 111, 111, 112, 115] (16 + 7 * n + 4) 999).2.1) (XS σ L (pP (σ 5) L (true, f1_138, S1_138) [104, 111, 111, 112, 115] (16 + 7 * n + 4) 999))) S kv_X4_262 (c_X4_perhaps_w l D cI cJ a f1_138 σ L S1_138 hL hL120 (hS1_138) hby [104, 111, 111, 112, 115] (16 + 7 * n + 4) 999 (by omega) (by omega)) hK hP hD hS hA ([]) ([]) rfl rfl MW_fst rfl ⟨Nat.le_of_ble_eq_true rfl, Nat.le_of_ble_eq_true rfl⟩ hl.1 rfl rfl (Nat.le_of_ble_eq_true rfl) (Nat.zero_le _) (Nat.zero_le _) dX4_caskHere_167 (fun H locs hP hD hS => ?_)
            refine q_if_eqB (tgt := 177) hx hb dX4_caskHere_170 (by decide) (fun c_170 => ?_) (fun c_170 => ?_)
            · refine lv_iconst (v := nI 0) hx hb dX4_caskHere_177 (by decide) ?_
              exact WR.zret S hr hlk hP hS (by rw [show iC (σ 5) L f S9 n kk = _ from if_neg (by omega), hX_83, hX_110, hX_138]) (bI_f (by rw [show iC (σ 5) L f S9 n kk = _ from if_neg (by omega), hX_83, hX_110, hX_138]; exact c_170)) dX4_caskHere_178
            · obtain ⟨f1_167, S1_167, hX_167⟩ : ∃ f1 S1, pP (σ 5) L (true, f1_138, S1_138) [104, 111, 111, 112, 115] (16 + 7 * n + 4) 999 = (true, f1, S1) := ⟨_, _, tr_eq c_170⟩
              have hS1_167 : S1_167 ≤ L := by have h9 := pP_le (b := σ 5) (L := L) (x := (true, f1_138, S1_138)) (pl := 16 + 7 * n + 4) (mo := 999) (ws := [104, 111, 111, 112, 115]) (hS1_138); rw [hX_167] at h9; exact h9
              rw [XS_t c_170, hX_167] at hP hD
              have hP : va_P D vwCl (MW cI a f1_167 (TS σ L S1_167)) H := hP
              have hD : va_D A (MW cI a f1_167 (TS σ L S1_167)) := hD
              have hte167 := tE_le (b := σ 5) (L := L) (s := S1_167) hS1_167
              refine lv_iconst (v := nI 1) hx hb dX4_caskHere_173 (by decide) ?_
              refine lv_goto (tgt := 178) hx hb dX4_caskHere_174 (by decide) ?_
              exact WR.zret S hr hlk hP hS (by rw [show iC (σ 5) L f S9 n kk = _ from if_neg (by omega), hX_83, hX_110, hX_138, hX_167]; rfl) (bI_t (by rw [show iC (σ 5) L f S9 n kk = _ from if_neg (by omega), hX_83, hX_110, hX_138, hX_167])) dX4_caskHere_178
    · refine lv_aload_n hx hb dX4_caskHere_44 rfl (lv_at hl 1 rfl) ?_
      refine lv_aload_n hx hb dX4_caskHere_45 rfl (lv_at hl 1 rfl) ?_
      refine g4_from S hK hP dX4_caskHere_46 ?_
      refine RO.callV S kv_X4_216 (c_X4_byteAt_in l D cI cJ a (sAd f n (nI kk) (nI 0)) (TS σ L (nx (σ 5) L S9)) (nx (σ 5) L S9) L hL hL120 (by omega)) hK hP rfl ⟨Nat.le_of_ble_eq_true rfl, Nat.le_of_ble_eq_true rfl⟩ hl.1 rfl rfl (Nat.le_of_ble_eq_true rfl) (Nat.zero_le _) (Nat.zero_le _) dX4_caskHere_49 ?_
      refine q_eqi (y := σ 5 (nx (σ 5) L S9)) rfl ?_
      refine lv_bipush (v := nI 105) hx hb dX4_caskHere_52 (by decide) ?_
      refine lv_icmp_ne (tgt := 76) hx hb dX4_caskHere_54 (by decide) (fun c_54 => ?_) (fun c_54 => ?_)
      · refine lv_iconst (v := nI 0) hx hb dX4_caskHere_76 (by decide) ?_
        refine q_eqi (y := bI (wd (σ 5) L (nx (σ 5) L S9) [105, 110] = true)) ((bI_f (fun q5 => c_54 (wd2_iff.mp q5).2.2.1)).symm) ?_
        refine lv_iload_n hx hb dX4_caskHere_77 rfl (lv_at hl 0 rfl) ?_
        refine lv_iconst (v := nI 1) hx hb dX4_caskHere_78 (by decide) ?_
        refine RO.callS S ks_X4_70 (c_X4_at l D cI cJ a (sAd f n (nI kk) (nI 0)) (TS σ L (nx (σ 5) L S9)) n 1) hK hP ⟨Nat.le_of_ble_eq_true rfl, Nat.le_of_ble_eq_true rfl⟩ hl.1 rfl rfl (Nat.le_of_ble_eq_true rfl) (Nat.zero_le _) (Nat.zero_le _) dX4_caskHere_79 ?_
        refine lv_iconst (v := nI 5) hx hb dX4_caskHere_82 (by decide) ?_
        refine WR.callV (w1 := MW cI a ((pP (σ 5) L (true, sAd f n (nI kk) (nI 0), nx (σ 5) L S9) [105, 110] (16 + 7 * n + 1) 5).2.1) (XS σ L (pP (σ 5) L (true, sAd f n (nI kk) (nI 0), nx (σ 5) L S9) [105, 110] (16 + 7 * n + 1) 5))) S kv_X4_262 (c_X4_perhaps_w l D cI cJ a (sAd f n (nI kk) (nI 0)) σ L (nx (σ 5) L S9) hL hL120 (nx_le (hS9)) hby [105, 110] (16 + 7 * n + 1) 5 (by omega) (by omega)) hK hP hD hS hA ([]) ([]) rfl rfl MW_fst rfl ⟨Nat.le_of_ble_eq_true rfl, Nat.le_of_ble_eq_true rfl⟩ hl.1 rfl rfl (Nat.le_of_ble_eq_true rfl) (Nat.zero_le _) (Nat.zero_le _) dX4_caskHere_83 (fun H locs hP hD hS => ?_)
        refine q_if_eqB (tgt := 177) hx hb dX4_caskHere_86 (by decide) (fun c_86 => ?_) (fun c_86 => ?_)
        · refine lv_iconst (v := nI 0) hx hb dX4_caskHere_177 (by decide) ?_
          exact WR.zret S hr hlk hP hS (by rw [show iC (σ 5) L f S9 n kk = _ from if_neg (by omega), pP_f c_86, pP_f c_86, pP_f c_86]) (bI_f (by rw [show iC (σ 5) L f S9 n kk = _ from if_neg (by omega), pP_f c_86, pP_f c_86, pP_f c_86]; exact c_86)) dX4_caskHere_178
        · obtain ⟨f1_83, S1_83, hX_83⟩ : ∃ f1 S1, pP (σ 5) L (true, sAd f n (nI kk) (nI 0), nx (σ 5) L S9) [105, 110] (16 + 7 * n + 1) 5 = (true, f1, S1) := ⟨_, _, tr_eq c_86⟩
          have hS1_83 : S1_83 ≤ L := by have h9 := pP_le (b := σ 5) (L := L) (x := (true, sAd f n (nI kk) (nI 0), nx (σ 5) L S9)) (pl := 16 + 7 * n + 1) (mo := 5) (ws := [105, 110]) (nx_le (hS9)); rw [hX_83] at h9; exact h9
          rw [XS_t c_86, hX_83] at hP hD
          have hP : va_P D vwCl (MW cI a f1_83 (TS σ L S1_83)) H := hP
          have hD : va_D A (MW cI a f1_83 (TS σ L S1_83)) := hD
          have hte83 := tE_le (b := σ 5) (L := L) (s := S1_83) hS1_83
          refine lv_aload_n hx hb dX4_caskHere_89 rfl (lv_at hl 1 rfl) ?_
          refine lv_aload_n hx hb dX4_caskHere_90 rfl (lv_at hl 1 rfl) ?_
          refine lv_bipush (v := nI 112) hx hb dX4_caskHere_91 (by decide) ?_
          refine lv_bipush (v := nI 101) hx hb dX4_caskHere_93 (by decide) ?_
          refine lv_bipush (v := nI 97) hx hb dX4_caskHere_95 (by decide) ?_
          refine lv_bipush (v := nI 108) hx hb dX4_caskHere_97 (by decide) ?_
          refine RO.callV S kv_X4_245 (c_X4_isFour l D cI cJ a f1_83 σ L S1_83 hL hL120 (hS1_83) 112 101 97 108) hK hP rfl ⟨Nat.le_of_ble_eq_true rfl, Nat.le_of_ble_eq_true rfl⟩ hl.1 rfl rfl (Nat.le_of_ble_eq_true rfl) (Nat.zero_le _) (Nat.zero_le _) dX4_caskHere_99 ?_
          refine lv_iload_n hx hb dX4_caskHere_102 rfl (lv_at hl 0 rfl) ?_
          refine lv_iconst (v := nI 2) hx hb dX4_caskHere_103 (by decide) ?_
          refine RO.callS S ks_X4_70 (c_X4_at l D cI cJ a f1_83 (TS σ L S1_83) n 2) hK hP ⟨Nat.le_of_ble_eq_true rfl, Nat.le_of_ble_eq_true rfl⟩ hl.1 rfl rfl (Nat.le_of_ble_eq_true rfl) (Nat.zero_le _) (Nat.zero_le _) dX4_caskHere_104 ?_
          refine lv_sipush (v := nI 999) hx hb dX4_caskHere_107 (by decide) ?_
          refine WR.callV (w1 := MW cI a ((pP (σ 5) L (true, f1_83, S1_83) [112, 101, 97, 108] (16 + 7 * n + 2) 999).2.1) (XS σ L (pP (σ 5) L (true, f1_83, S1_83) [112, 101, 97, 108] (16 + 7 * n + 2) 999))) S kv_X4_262 (c_X4_perhaps_w l D cI cJ a f1_83 σ L S1_83 hL hL120 (hS1_83) hby [112, 101, 97, 108] (16 + 7 * n + 2) 999 (by omega) (by omega)) hK hP hD hS hA ([]) ([]) rfl rfl MW_fst rfl ⟨Nat.le_of_ble_eq_true rfl, Nat.le_of_ble_eq_true rfl⟩ hl.1 rfl rfl (Nat.le_of_ble_eq_true rfl) (Nat.zero_le _) (Nat.zero_le _) dX4_caskHere_110 (fun H locs hP hD hS => ?_)
          refine q_if_eqB (tgt := 177) hx hb dX4_caskHere_113 (by decide) (fun c_113 => ?_) (fun c_113 => ?_)
          · refine lv_iconst (v := nI 0) hx hb dX4_caskHere_177 (by decide) ?_
            exact WR.zret S hr hlk hP hS (by rw [show iC (σ 5) L f S9 n kk = _ from if_neg (by omega), hX_83, pP_f c_113, pP_f c_113]) (bI_f (by rw [show iC (σ 5) L f S9 n kk = _ from if_neg (by omega), hX_83, pP_f c_113, pP_f c_113]; exact c_113)) dX4_caskHere_178
          · obtain ⟨f1_110, S1_110, hX_110⟩ : ∃ f1 S1, pP (σ 5) L (true, f1_83, S1_83) [112, 101, 97, 108] (16 + 7 * n + 2) 999 = (true, f1, S1) := ⟨_, _, tr_eq c_113⟩
            have hS1_110 : S1_110 ≤ L := by have h9 := pP_le (b := σ 5) (L := L) (x := (true, f1_83, S1_83)) (pl := 16 + 7 * n + 2) (mo := 999) (ws := [112, 101, 97, 108]) (hS1_83); rw [hX_110] at h9; exact h9
            rw [XS_t c_113, hX_110] at hP hD
            have hP : va_P D vwCl (MW cI a f1_110 (TS σ L S1_110)) H := hP
            have hD : va_D A (MW cI a f1_110 (TS σ L S1_110)) := hD
            have hte110 := tE_le (b := σ 5) (L := L) (s := S1_110) hS1_110
            refine lv_aload_n hx hb dX4_caskHere_116 rfl (lv_at hl 1 rfl) ?_
            refine lv_aload_n hx hb dX4_caskHere_117 rfl (lv_at hl 1 rfl) ?_
            refine lv_bipush (v := nI 112) hx hb dX4_caskHere_118 (by decide) ?_
            refine lv_bipush (v := nI 105) hx hb dX4_caskHere_120 (by decide) ?_
            refine lv_bipush (v := nI 116) hx hb dX4_caskHere_122 (by decide) ?_
            refine lv_bipush (v := nI 99) hx hb dX4_caskHere_124 (by decide) ?_
            refine lv_bipush (v := nI 104) hx hb dX4_caskHere_126 (by decide) ?_
            refine RO.callV S kv_X4_248 (c_X4_isFive l D cI cJ a f1_110 σ L S1_110 hL hL120 (hS1_110) 112 105 116 99 104) hK hP rfl ⟨Nat.le_of_ble_eq_true rfl, Nat.le_of_ble_eq_true rfl⟩ hl.1 rfl rfl (Nat.le_of_ble_eq_true rfl) (Nat.zero_le _) (Nat.zero_le _) dX4_caskHere_128 ?_
            refine lv_iload_n hx hb dX4_caskHere_131 rfl (lv_at hl 0 rfl) ?_
            refine lv_iconst (v := nI 3) hx hb dX4_caskHere_132 (by decide) ?_
            refine RO.callS S ks_X4_70 (c_X4_at l D cI cJ a f1_110 (TS σ L S1_110) n 3) hK hP ⟨Nat.le_of_ble_eq_true rfl, Nat.le_of_ble_eq_true rfl⟩ hl.1 rfl rfl (Nat.le_of_ble_eq_true rfl) (Nat.zero_le _) (Nat.zero_le _) dX4_caskHere_133 ?_
            refine lv_bipush (v := nI 11) hx hb dX4_caskHere_136 (by decide) ?_
            refine WR.callV (w1 := MW cI a ((pP (σ 5) L (true, f1_110, S1_110) [112, 105, 116, 99, 104] (16 + 7 * n + 3) 11).2.1) (XS σ L (pP (σ 5) L (true, f1_110, S1_110) [112, 105, 116, 99, 104] (16 + 7 * n + 3) 11))) S kv_X4_262 (c_X4_perhaps_w l D cI cJ a f1_110 σ L S1_110 hL hL120 (hS1_110) hby [112, 105, 116, 99, 104] (16 + 7 * n + 3) 11 (by omega) (by omega)) hK hP hD hS hA ([]) ([]) rfl rfl MW_fst rfl ⟨Nat.le_of_ble_eq_true rfl, Nat.le_of_ble_eq_true rfl⟩ hl.1 rfl rfl (Nat.le_of_ble_eq_true rfl) (Nat.zero_le _) (Nat.zero_le _) dX4_caskHere_138 (fun H locs hP hD hS => ?_)
            refine q_if_eqB (tgt := 177) hx hb dX4_caskHere_141 (by decide) (fun c_141 => ?_) (fun c_141 => ?_)
            · refine lv_iconst (v := nI 0) hx hb dX4_caskHere_177 (by decide) ?_
              exact WR.zret S hr hlk hP hS (by rw [show iC (σ 5) L f S9 n kk = _ from if_neg (by omega), hX_83, hX_110, pP_f c_141]) (bI_f (by rw [show iC (σ 5) L f S9 n kk = _ from if_neg (by omega), hX_83, hX_110, pP_f c_141]; exact c_141)) dX4_caskHere_178
            · obtain ⟨f1_138, S1_138, hX_138⟩ : ∃ f1 S1, pP (σ 5) L (true, f1_110, S1_110) [112, 105, 116, 99, 104] (16 + 7 * n + 3) 11 = (true, f1, S1) := ⟨_, _, tr_eq c_141⟩
              have hS1_138 : S1_138 ≤ L := by have h9 := pP_le (b := σ 5) (L := L) (x := (true, f1_110, S1_110)) (pl := 16 + 7 * n + 3) (mo := 11) (ws := [112, 105, 116, 99, 104]) (hS1_110); rw [hX_138] at h9; exact h9
              rw [XS_t c_141, hX_138] at hP hD
              have hP : va_P D vwCl (MW cI a f1_138 (TS σ L S1_138)) H := hP
              have hD : va_D A (MW cI a f1_138 (TS σ L S1_138)) := hD
              have hte138 := tE_le (b := σ 5) (L := L) (s := S1_138) hS1_138
              refine lv_aload_n hx hb dX4_caskHere_144 rfl (lv_at hl 1 rfl) ?_
              refine lv_aload_n hx hb dX4_caskHere_145 rfl (lv_at hl 1 rfl) ?_
              refine lv_bipush (v := nI 104) hx hb dX4_caskHere_146 (by decide) ?_
              refine lv_bipush (v := nI 111) hx hb dX4_caskHere_148 (by decide) ?_
              refine lv_bipush (v := nI 111) hx hb dX4_caskHere_150 (by decide) ?_
              refine lv_bipush (v := nI 112) hx hb dX4_caskHere_152 (by decide) ?_
              refine lv_bipush (v := nI 115) hx hb dX4_caskHere_154 (by decide) ?_
              refine RO.callV S kv_X4_248 (c_X4_isFive l D cI cJ a f1_138 σ L S1_138 hL hL120 (hS1_138) 104 111 111 112 115) hK hP rfl ⟨Nat.le_of_ble_eq_true rfl, Nat.le_of_ble_eq_true rfl⟩ hl.1 rfl rfl (Nat.le_of_ble_eq_true rfl) (Nat.zero_le _) (Nat.zero_le _) dX4_caskHere_156 ?_
              refine lv_iload_n hx hb dX4_caskHere_159 rfl (lv_at hl 0 rfl) ?_
              refine lv_iconst (v := nI 4) hx hb dX4_caskHere_160 (by decide) ?_
              refine RO.callS S ks_X4_70 (c_X4_at l D cI cJ a f1_138 (TS σ L S1_138) n 4) hK hP ⟨Nat.le_of_ble_eq_true rfl, Nat.le_of_ble_eq_true rfl⟩ hl.1 rfl rfl (Nat.le_of_ble_eq_true rfl) (Nat.zero_le _) (Nat.zero_le _) dX4_caskHere_161 ?_
              refine lv_sipush (v := nI 999) hx hb dX4_caskHere_164 (by decide) ?_
              refine WR.callV (w1 := MW cI a ((pP (σ 5) L (true, f1_138, S1_138) [104, 111, 111, 112, 115] (16 + 7 * n + 4) 999).2.1) (XS σ L (pP (σ 5) L (true, f1_138, S1_138) [104, 111, 111, 112, 115] (16 + 7 * n + 4) 999))) S kv_X4_262 (c_X4_perhaps_w l D cI cJ a f1_138 σ L S1_138 hL hL120 (hS1_138) hby [104, 111, 111, 112, 115] (16 + 7 * n + 4) 999 (by omega) (by omega)) hK hP hD hS hA ([]) ([]) rfl rfl MW_fst rfl ⟨Nat.le_of_ble_eq_true rfl, Nat.le_of_ble_eq_true rfl⟩ hl.1 rfl rfl (Nat.le_of_ble_eq_true rfl) (Nat.zero_le _) (Nat.zero_le _) dX4_caskHere_167 (fun H locs hP hD hS => ?_)
              refine q_if_eqB (tgt := 177) hx hb dX4_caskHere_170 (by decide) (fun c_170 => ?_) (fun c_170 => ?_)
              · refine lv_iconst (v := nI 0) hx hb dX4_caskHere_177 (by decide) ?_
                exact WR.zret S hr hlk hP hS (by rw [show iC (σ 5) L f S9 n kk = _ from if_neg (by omega), hX_83, hX_110, hX_138]) (bI_f (by rw [show iC (σ 5) L f S9 n kk = _ from if_neg (by omega), hX_83, hX_110, hX_138]; exact c_170)) dX4_caskHere_178
              · obtain ⟨f1_167, S1_167, hX_167⟩ : ∃ f1 S1, pP (σ 5) L (true, f1_138, S1_138) [104, 111, 111, 112, 115] (16 + 7 * n + 4) 999 = (true, f1, S1) := ⟨_, _, tr_eq c_170⟩
                have hS1_167 : S1_167 ≤ L := by have h9 := pP_le (b := σ 5) (L := L) (x := (true, f1_138, S1_138)) (pl := 16 + 7 * n + 4) (mo := 999) (ws := [104, 111, 111, 112, 115]) (hS1_138); rw [hX_167] at h9; exact h9
                rw [XS_t c_170, hX_167] at hP hD
                have hP : va_P D vwCl (MW cI a f1_167 (TS σ L S1_167)) H := hP
                have hD : va_D A (MW cI a f1_167 (TS σ L S1_167)) := hD
                have hte167 := tE_le (b := σ 5) (L := L) (s := S1_167) hS1_167
                refine lv_iconst (v := nI 1) hx hb dX4_caskHere_173 (by decide) ?_
                refine lv_goto (tgt := 178) hx hb dX4_caskHere_174 (by decide) ?_
                exact WR.zret S hr hlk hP hS (by rw [show iC (σ 5) L f S9 n kk = _ from if_neg (by omega), hX_83, hX_110, hX_138, hX_167]; rfl) (bI_t (by rw [show iC (σ 5) L f S9 n kk = _ from if_neg (by omega), hX_83, hX_110, hX_138, hX_167])) dX4_caskHere_178
      · refine lv_aload_n hx hb dX4_caskHere_57 rfl (lv_at hl 1 rfl) ?_
        refine lv_aload_n hx hb dX4_caskHere_58 rfl (lv_at hl 1 rfl) ?_
        refine g4_from S hK hP dX4_caskHere_59 ?_
        refine lv_iconst (v := nI 1) hx hb dX4_caskHere_62 (by decide) ?_
        refine q_iaddN (a := nx (σ 5) L S9) (b := 1) hx hb dX4_caskHere_63 ?_
        refine RO.callV S kv_X4_216 (c_X4_byteAt_in l D cI cJ a (sAd f n (nI kk) (nI 0)) (TS σ L (nx (σ 5) L S9)) ((nx (σ 5) L S9) + 1) L hL hL120 (by omega)) hK hP rfl ⟨Nat.le_of_ble_eq_true rfl, Nat.le_of_ble_eq_true rfl⟩ hl.1 rfl rfl (Nat.le_of_ble_eq_true rfl) (Nat.zero_le _) (Nat.zero_le _) dX4_caskHere_64 ?_
        refine q_eqi (y := σ 5 ((nx (σ 5) L S9) + 1)) rfl ?_
        refine lv_bipush (v := nI 110) hx hb dX4_caskHere_67 (by decide) ?_
        refine lv_icmp_ne (tgt := 76) hx hb dX4_caskHere_69 (by decide) (fun c_69 => ?_) (fun c_69 => ?_)
        · refine lv_iconst (v := nI 0) hx hb dX4_caskHere_76 (by decide) ?_
          refine q_eqi (y := bI (wd (σ 5) L (nx (σ 5) L S9) [105, 110] = true)) ((bI_f (fun q5 => c_69 (wd2_iff.mp q5).2.2.2)).symm) ?_
          refine lv_iload_n hx hb dX4_caskHere_77 rfl (lv_at hl 0 rfl) ?_
          refine lv_iconst (v := nI 1) hx hb dX4_caskHere_78 (by decide) ?_
          refine RO.callS S ks_X4_70 (c_X4_at l D cI cJ a (sAd f n (nI kk) (nI 0)) (TS σ L (nx (σ 5) L S9)) n 1) hK hP ⟨Nat.le_of_ble_eq_true rfl, Nat.le_of_ble_eq_true rfl⟩ hl.1 rfl rfl (Nat.le_of_ble_eq_true rfl) (Nat.zero_le _) (Nat.zero_le _) dX4_caskHere_79 ?_
          refine lv_iconst (v := nI 5) hx hb dX4_caskHere_82 (by decide) ?_
          refine WR.callV (w1 := MW cI a ((pP (σ 5) L (true, sAd f n (nI kk) (nI 0), nx (σ 5) L S9) [105, 110] (16 + 7 * n + 1) 5).2.1) (XS σ L (pP (σ 5) L (true, sAd f n (nI kk) (nI 0), nx (σ 5) L S9) [105, 110] (16 + 7 * n + 1) 5))) S kv_X4_262 (c_X4_perhaps_w l D cI cJ a (sAd f n (nI kk) (nI 0)) σ L (nx (σ 5) L S9) hL hL120 (nx_le (hS9)) hby [105, 110] (16 + 7 * n + 1) 5 (by omega) (by omega)) hK hP hD hS hA ([]) ([]) rfl rfl MW_fst rfl ⟨Nat.le_of_ble_eq_true rfl, Nat.le_of_ble_eq_true rfl⟩ hl.1 rfl rfl (Nat.le_of_ble_eq_true rfl) (Nat.zero_le _) (Nat.zero_le _) dX4_caskHere_83 (fun H locs hP hD hS => ?_)
          refine q_if_eqB (tgt := 177) hx hb dX4_caskHere_86 (by decide) (fun c_86 => ?_) (fun c_86 => ?_)
          · refine lv_iconst (v := nI 0) hx hb dX4_caskHere_177 (by decide) ?_
            exact WR.zret S hr hlk hP hS (by rw [show iC (σ 5) L f S9 n kk = _ from if_neg (by omega), pP_f c_86, pP_f c_86, pP_f c_86]) (bI_f (by rw [show iC (σ 5) L f S9 n kk = _ from if_neg (by omega), pP_f c_86, pP_f c_86, pP_f c_86]; exact c_86)) dX4_caskHere_178
          · obtain ⟨f1_83, S1_83, hX_83⟩ : ∃ f1 S1, pP (σ 5) L (true, sAd f n (nI kk) (nI 0), nx (σ 5) L S9) [105, 110] (16 + 7 * n + 1) 5 = (true, f1, S1) := ⟨_, _, tr_eq c_86⟩
            have hS1_83 : S1_83 ≤ L := by have h9 := pP_le (b := σ 5) (L := L) (x := (true, sAd f n (nI kk) (nI 0), nx (σ 5) L S9)) (pl := 16 + 7 * n + 1) (mo := 5) (ws := [105, 110]) (nx_le (hS9)); rw [hX_83] at h9; exact h9
            rw [XS_t c_86, hX_83] at hP hD
            have hP : va_P D vwCl (MW cI a f1_83 (TS σ L S1_83)) H := hP
            have hD : va_D A (MW cI a f1_83 (TS σ L S1_83)) := hD
            have hte83 := tE_le (b := σ 5) (L := L) (s := S1_83) hS1_83
            refine lv_aload_n hx hb dX4_caskHere_89 rfl (lv_at hl 1 rfl) ?_
            refine lv_aload_n hx hb dX4_caskHere_90 rfl (lv_at hl 1 rfl) ?_
            refine lv_bipush (v := nI 112) hx hb dX4_caskHere_91 (by decide) ?_
            refine lv_bipush (v := nI 101) hx hb dX4_caskHere_93 (by decide) ?_
            refine lv_bipush (v := nI 97) hx hb dX4_caskHere_95 (by decide) ?_
            refine lv_bipush (v := nI 108) hx hb dX4_caskHere_97 (by decide) ?_
            refine RO.callV S kv_X4_245 (c_X4_isFour l D cI cJ a f1_83 σ L S1_83 hL hL120 (hS1_83) 112 101 97 108) hK hP rfl ⟨Nat.le_of_ble_eq_true rfl, Nat.le_of_ble_eq_true rfl⟩ hl.1 rfl rfl (Nat.le_of_ble_eq_true rfl) (Nat.zero_le _) (Nat.zero_le _) dX4_caskHere_99 ?_
            refine lv_iload_n hx hb dX4_caskHere_102 rfl (lv_at hl 0 rfl) ?_
            refine lv_iconst (v := nI 2) hx hb dX4_caskHere_103 (by decide) ?_
            refine RO.callS S ks_X4_70 (c_X4_at l D cI cJ a f1_83 (TS σ L S1_83) n 2) hK hP ⟨Nat.le_of_ble_eq_true rfl, Nat.le_of_ble_eq_true rfl⟩ hl.1 rfl rfl (Nat.le_of_ble_eq_true rfl) (Nat.zero_le _) (Nat.zero_le _) dX4_caskHere_104 ?_
            refine lv_sipush (v := nI 999) hx hb dX4_caskHere_107 (by decide) ?_
            refine WR.callV (w1 := MW cI a ((pP (σ 5) L (true, f1_83, S1_83) [112, 101, 97, 108] (16 + 7 * n + 2) 999).2.1) (XS σ L (pP (σ 5) L (true, f1_83, S1_83) [112, 101, 97, 108] (16 + 7 * n + 2) 999))) S kv_X4_262 (c_X4_perhaps_w l D cI cJ a f1_83 σ L S1_83 hL hL120 (hS1_83) hby [112, 101, 97, 108] (16 + 7 * n + 2) 999 (by omega) (by omega)) hK hP hD hS hA ([]) ([]) rfl rfl MW_fst rfl ⟨Nat.le_of_ble_eq_true rfl, Nat.le_of_ble_eq_true rfl⟩ hl.1 rfl rfl (Nat.le_of_ble_eq_true rfl) (Nat.zero_le _) (Nat.zero_le _) dX4_caskHere_110 (fun H locs hP hD hS => ?_)
            refine q_if_eqB (tgt := 177) hx hb dX4_caskHere_113 (by decide) (fun c_113 => ?_) (fun c_113 => ?_)
            · refine lv_iconst (v := nI 0) hx hb dX4_caskHere_177 (by decide) ?_
              exact WR.zret S hr hlk hP hS (by rw [show iC (σ 5) L f S9 n kk = _ from if_neg (by omega), hX_83, pP_f c_113, pP_f c_113]) (bI_f (by rw [show iC (σ 5) L f S9 n kk = _ from if_neg (by omega), hX_83, pP_f c_113, pP_f c_113]; exact c_113)) dX4_caskHere_178
            · obtain ⟨f1_110, S1_110, hX_110⟩ : ∃ f1 S1, pP (σ 5) L (true, f1_83, S1_83) [112, 101, 97, 108] (16 + 7 * n + 2) 999 = (true, f1, S1) := ⟨_, _, tr_eq c_113⟩
              have hS1_110 : S1_110 ≤ L := by have h9 := pP_le (b := σ 5) (L := L) (x := (true, f1_83, S1_83)) (pl := 16 + 7 * n + 2) (mo := 999) (ws := [112, 101, 97, 108]) (hS1_83); rw [hX_110] at h9; exact h9
              rw [XS_t c_113, hX_110] at hP hD
              have hP : va_P D vwCl (MW cI a f1_110 (TS σ L S1_110)) H := hP
              have hD : va_D A (MW cI a f1_110 (TS σ L S1_110)) := hD
              have hte110 := tE_le (b := σ 5) (L := L) (s := S1_110) hS1_110
              refine lv_aload_n hx hb dX4_caskHere_116 rfl (lv_at hl 1 rfl) ?_
              refine lv_aload_n hx hb dX4_caskHere_117 rfl (lv_at hl 1 rfl) ?_
              refine lv_bipush (v := nI 112) hx hb dX4_caskHere_118 (by decide) ?_
              refine lv_bipush (v := nI 105) hx hb dX4_caskHere_120 (by decide) ?_
              refine lv_bipush (v := nI 116) hx hb dX4_caskHere_122 (by decide) ?_
              refine lv_bipush (v := nI 99) hx hb dX4_caskHere_124 (by decide) ?_
              refine lv_bipush (v := nI 104) hx hb dX4_caskHere_126 (by decide) ?_
              refine RO.callV S kv_X4_248 (c_X4_isFive l D cI cJ a f1_110 σ L S1_110 hL hL120 (hS1_110) 112 105 116 99 104) hK hP rfl ⟨Nat.le_of_ble_eq_true rfl, Nat.le_of_ble_eq_true rfl⟩ hl.1 rfl rfl (Nat.le_of_ble_eq_true rfl) (Nat.zero_le _) (Nat.zero_le _) dX4_caskHere_128 ?_
              refine lv_iload_n hx hb dX4_caskHere_131 rfl (lv_at hl 0 rfl) ?_
              refine lv_iconst (v := nI 3) hx hb dX4_caskHere_132 (by decide) ?_
              refine RO.callS S ks_X4_70 (c_X4_at l D cI cJ a f1_110 (TS σ L S1_110) n 3) hK hP ⟨Nat.le_of_ble_eq_true rfl, Nat.le_of_ble_eq_true rfl⟩ hl.1 rfl rfl (Nat.le_of_ble_eq_true rfl) (Nat.zero_le _) (Nat.zero_le _) dX4_caskHere_133 ?_
              refine lv_bipush (v := nI 11) hx hb dX4_caskHere_136 (by decide) ?_
              refine WR.callV (w1 := MW cI a ((pP (σ 5) L (true, f1_110, S1_110) [112, 105, 116, 99, 104] (16 + 7 * n + 3) 11).2.1) (XS σ L (pP (σ 5) L (true, f1_110, S1_110) [112, 105, 116, 99, 104] (16 + 7 * n + 3) 11))) S kv_X4_262 (c_X4_perhaps_w l D cI cJ a f1_110 σ L S1_110 hL hL120 (hS1_110) hby [112, 105, 116, 99, 104] (16 + 7 * n + 3) 11 (by omega) (by omega)) hK hP hD hS hA ([]) ([]) rfl rfl MW_fst rfl ⟨Nat.le_of_ble_eq_true rfl, Nat.le_of_ble_eq_true rfl⟩ hl.1 rfl rfl (Nat.le_of_ble_eq_true rfl) (Nat.zero_le _) (Nat.zero_le _) dX4_caskHere_138 (fun H locs hP hD hS => ?_)
              refine q_if_eqB (tgt := 177) hx hb dX4_caskHere_141 (by decide) (fun c_141 => ?_) (fun c_141 => ?_)
              · refine lv_iconst (v := nI 0) hx hb dX4_caskHere_177 (by decide) ?_
                exact WR.zret S hr hlk hP hS (by rw [show iC (σ 5) L f S9 n kk = _ from if_neg (by omega), hX_83, hX_110, pP_f c_141]) (bI_f (by rw [show iC (σ 5) L f S9 n kk = _ from if_neg (by omega), hX_83, hX_110, pP_f c_141]; exact c_141)) dX4_caskHere_178
              · obtain ⟨f1_138, S1_138, hX_138⟩ : ∃ f1 S1, pP (σ 5) L (true, f1_110, S1_110) [112, 105, 116, 99, 104] (16 + 7 * n + 3) 11 = (true, f1, S1) := ⟨_, _, tr_eq c_141⟩
                have hS1_138 : S1_138 ≤ L := by have h9 := pP_le (b := σ 5) (L := L) (x := (true, f1_110, S1_110)) (pl := 16 + 7 * n + 3) (mo := 11) (ws := [112, 105, 116, 99, 104]) (hS1_110); rw [hX_138] at h9; exact h9
                rw [XS_t c_141, hX_138] at hP hD
                have hP : va_P D vwCl (MW cI a f1_138 (TS σ L S1_138)) H := hP
                have hD : va_D A (MW cI a f1_138 (TS σ L S1_138)) := hD
                have hte138 := tE_le (b := σ 5) (L := L) (s := S1_138) hS1_138
                refine lv_aload_n hx hb dX4_caskHere_144 rfl (lv_at hl 1 rfl) ?_
                refine lv_aload_n hx hb dX4_caskHere_145 rfl (lv_at hl 1 rfl) ?_
                refine lv_bipush (v := nI 104) hx hb dX4_caskHere_146 (by decide) ?_
                refine lv_bipush (v := nI 111) hx hb dX4_caskHere_148 (by decide) ?_
                refine lv_bipush (v := nI 111) hx hb dX4_caskHere_150 (by decide) ?_
                refine lv_bipush (v := nI 112) hx hb dX4_caskHere_152 (by decide) ?_
                refine lv_bipush (v := nI 115) hx hb dX4_caskHere_154 (by decide) ?_
                refine RO.callV S kv_X4_248 (c_X4_isFive l D cI cJ a f1_138 σ L S1_138 hL hL120 (hS1_138) 104 111 111 112 115) hK hP rfl ⟨Nat.le_of_ble_eq_true rfl, Nat.le_of_ble_eq_true rfl⟩ hl.1 rfl rfl (Nat.le_of_ble_eq_true rfl) (Nat.zero_le _) (Nat.zero_le _) dX4_caskHere_156 ?_
                refine lv_iload_n hx hb dX4_caskHere_159 rfl (lv_at hl 0 rfl) ?_
                refine lv_iconst (v := nI 4) hx hb dX4_caskHere_160 (by decide) ?_
                refine RO.callS S ks_X4_70 (c_X4_at l D cI cJ a f1_138 (TS σ L S1_138) n 4) hK hP ⟨Nat.le_of_ble_eq_true rfl, Nat.le_of_ble_eq_true rfl⟩ hl.1 rfl rfl (Nat.le_of_ble_eq_true rfl) (Nat.zero_le _) (Nat.zero_le _) dX4_caskHere_161 ?_
                refine lv_sipush (v := nI 999) hx hb dX4_caskHere_164 (by decide) ?_
                refine WR.callV (w1 := MW cI a ((pP (σ 5) L (true, f1_138, S1_138) [104, 111, 111, 112, 115] (16 + 7 * n + 4) 999).2.1) (XS σ L (pP (σ 5) L (true, f1_138, S1_138) [104, 111, 111, 112, 115] (16 + 7 * n + 4) 999))) S kv_X4_262 (c_X4_perhaps_w l D cI cJ a f1_138 σ L S1_138 hL hL120 (hS1_138) hby [104, 111, 111, 112, 115] (16 + 7 * n + 4) 999 (by omega) (by omega)) hK hP hD hS hA ([]) ([]) rfl rfl MW_fst rfl ⟨Nat.le_of_ble_eq_true rfl, Nat.le_of_ble_eq_true rfl⟩ hl.1 rfl rfl (Nat.le_of_ble_eq_true rfl) (Nat.zero_le _) (Nat.zero_le _) dX4_caskHere_167 (fun H locs hP hD hS => ?_)
                refine q_if_eqB (tgt := 177) hx hb dX4_caskHere_170 (by decide) (fun c_170 => ?_) (fun c_170 => ?_)
                · refine lv_iconst (v := nI 0) hx hb dX4_caskHere_177 (by decide) ?_
                  exact WR.zret S hr hlk hP hS (by rw [show iC (σ 5) L f S9 n kk = _ from if_neg (by omega), hX_83, hX_110, hX_138]) (bI_f (by rw [show iC (σ 5) L f S9 n kk = _ from if_neg (by omega), hX_83, hX_110, hX_138]; exact c_170)) dX4_caskHere_178
                · obtain ⟨f1_167, S1_167, hX_167⟩ : ∃ f1 S1, pP (σ 5) L (true, f1_138, S1_138) [104, 111, 111, 112, 115] (16 + 7 * n + 4) 999 = (true, f1, S1) := ⟨_, _, tr_eq c_170⟩
                  have hS1_167 : S1_167 ≤ L := by have h9 := pP_le (b := σ 5) (L := L) (x := (true, f1_138, S1_138)) (pl := 16 + 7 * n + 4) (mo := 999) (ws := [104, 111, 111, 112, 115]) (hS1_138); rw [hX_167] at h9; exact h9
                  rw [XS_t c_170, hX_167] at hP hD
                  have hP : va_P D vwCl (MW cI a f1_167 (TS σ L S1_167)) H := hP
                  have hD : va_D A (MW cI a f1_167 (TS σ L S1_167)) := hD
                  have hte167 := tE_le (b := σ 5) (L := L) (s := S1_167) hS1_167
                  refine lv_iconst (v := nI 1) hx hb dX4_caskHere_173 (by decide) ?_
                  refine lv_goto (tgt := 178) hx hb dX4_caskHere_174 (by decide) ?_
                  exact WR.zret S hr hlk hP hS (by rw [show iC (σ 5) L f S9 n kk = _ from if_neg (by omega), hX_83, hX_110, hX_138, hX_167]; rfl) (bI_t (by rw [show iC (σ 5) L f S9 n kk = _ from if_neg (by omega), hX_83, hX_110, hX_138, hX_167])) dX4_caskHere_178
        · refine lv_iconst (v := nI 1) hx hb dX4_caskHere_72 (by decide) ?_
          refine lv_goto (tgt := 77) hx hb dX4_caskHere_73 (by decide) ?_
          refine q_eqi (y := bI (wd (σ 5) L (nx (σ 5) L S9) [105, 110] = true)) ((bI_t (wd2_iff.mpr ⟨c_41.1, c_41.2, c_54, c_69⟩)).symm) ?_
          refine lv_iload_n hx hb dX4_caskHere_77 rfl (lv_at hl 0 rfl) ?_
          refine lv_iconst (v := nI 1) hx hb dX4_caskHere_78 (by decide) ?_
          refine RO.callS S ks_X4_70 (c_X4_at l D cI cJ a (sAd f n (nI kk) (nI 0)) (TS σ L (nx (σ 5) L S9)) n 1) hK hP ⟨Nat.le_of_ble_eq_true rfl, Nat.le_of_ble_eq_true rfl⟩ hl.1 rfl rfl (Nat.le_of_ble_eq_true rfl) (Nat.zero_le _) (Nat.zero_le _) dX4_caskHere_79 ?_
          refine lv_iconst (v := nI 5) hx hb dX4_caskHere_82 (by decide) ?_
          refine WR.callV (w1 := MW cI a ((pP (σ 5) L (true, sAd f n (nI kk) (nI 0), nx (σ 5) L S9) [105, 110] (16 + 7 * n + 1) 5).2.1) (XS σ L (pP (σ 5) L (true, sAd f n (nI kk) (nI 0), nx (σ 5) L S9) [105, 110] (16 + 7 * n + 1) 5))) S kv_X4_262 (c_X4_perhaps_w l D cI cJ a (sAd f n (nI kk) (nI 0)) σ L (nx (σ 5) L S9) hL hL120 (nx_le (hS9)) hby [105, 110] (16 + 7 * n + 1) 5 (by omega) (by omega)) hK hP hD hS hA ([]) ([]) rfl rfl MW_fst rfl ⟨Nat.le_of_ble_eq_true rfl, Nat.le_of_ble_eq_true rfl⟩ hl.1 rfl rfl (Nat.le_of_ble_eq_true rfl) (Nat.zero_le _) (Nat.zero_le _) dX4_caskHere_83 (fun H locs hP hD hS => ?_)
          refine q_if_eqB (tgt := 177) hx hb dX4_caskHere_86 (by decide) (fun c_86 => ?_) (fun c_86 => ?_)
          · refine lv_iconst (v := nI 0) hx hb dX4_caskHere_177 (by decide) ?_
            exact WR.zret S hr hlk hP hS (by rw [show iC (σ 5) L f S9 n kk = _ from if_neg (by omega), pP_f c_86, pP_f c_86, pP_f c_86]) (bI_f (by rw [show iC (σ 5) L f S9 n kk = _ from if_neg (by omega), pP_f c_86, pP_f c_86, pP_f c_86]; exact c_86)) dX4_caskHere_178
          · obtain ⟨f1_83, S1_83, hX_83⟩ : ∃ f1 S1, pP (σ 5) L (true, sAd f n (nI kk) (nI 0), nx (σ 5) L S9) [105, 110] (16 + 7 * n + 1) 5 = (true, f1, S1) := ⟨_, _, tr_eq c_86⟩
            have hS1_83 : S1_83 ≤ L := by have h9 := pP_le (b := σ 5) (L := L) (x := (true, sAd f n (nI kk) (nI 0), nx (σ 5) L S9)) (pl := 16 + 7 * n + 1) (mo := 5) (ws := [105, 110]) (nx_le (hS9)); rw [hX_83] at h9; exact h9
            rw [XS_t c_86, hX_83] at hP hD
            have hP : va_P D vwCl (MW cI a f1_83 (TS σ L S1_83)) H := hP
            have hD : va_D A (MW cI a f1_83 (TS σ L S1_83)) := hD
            have hte83 := tE_le (b := σ 5) (L := L) (s := S1_83) hS1_83
            refine lv_aload_n hx hb dX4_caskHere_89 rfl (lv_at hl 1 rfl) ?_
            refine lv_aload_n hx hb dX4_caskHere_90 rfl (lv_at hl 1 rfl) ?_
            refine lv_bipush (v := nI 112) hx hb dX4_caskHere_91 (by decide) ?_
            refine lv_bipush (v := nI 101) hx hb dX4_caskHere_93 (by decide) ?_
            refine lv_bipush (v := nI 97) hx hb dX4_caskHere_95 (by decide) ?_
            refine lv_bipush (v := nI 108) hx hb dX4_caskHere_97 (by decide) ?_
            refine RO.callV S kv_X4_245 (c_X4_isFour l D cI cJ a f1_83 σ L S1_83 hL hL120 (hS1_83) 112 101 97 108) hK hP rfl ⟨Nat.le_of_ble_eq_true rfl, Nat.le_of_ble_eq_true rfl⟩ hl.1 rfl rfl (Nat.le_of_ble_eq_true rfl) (Nat.zero_le _) (Nat.zero_le _) dX4_caskHere_99 ?_
            refine lv_iload_n hx hb dX4_caskHere_102 rfl (lv_at hl 0 rfl) ?_
            refine lv_iconst (v := nI 2) hx hb dX4_caskHere_103 (by decide) ?_
            refine RO.callS S ks_X4_70 (c_X4_at l D cI cJ a f1_83 (TS σ L S1_83) n 2) hK hP ⟨Nat.le_of_ble_eq_true rfl, Nat.le_of_ble_eq_true rfl⟩ hl.1 rfl rfl (Nat.le_of_ble_eq_true rfl) (Nat.zero_le _) (Nat.zero_le _) dX4_caskHere_104 ?_
            refine lv_sipush (v := nI 999) hx hb dX4_caskHere_107 (by decide) ?_
            refine WR.callV (w1 := MW cI a ((pP (σ 5) L (true, f1_83, S1_83) [112, 101, 97, 108] (16 + 7 * n + 2) 999).2.1) (XS σ L (pP (σ 5) L (true, f1_83, S1_83) [112, 101, 97, 108] (16 + 7 * n + 2) 999))) S kv_X4_262 (c_X4_perhaps_w l D cI cJ a f1_83 σ L S1_83 hL hL120 (hS1_83) hby [112, 101, 97, 108] (16 + 7 * n + 2) 999 (by omega) (by omega)) hK hP hD hS hA ([]) ([]) rfl rfl MW_fst rfl ⟨Nat.le_of_ble_eq_true rfl, Nat.le_of_ble_eq_true rfl⟩ hl.1 rfl rfl (Nat.le_of_ble_eq_true rfl) (Nat.zero_le _) (Nat.zero_le _) dX4_caskHere_110 (fun H locs hP hD hS => ?_)
            refine q_if_eqB (tgt := 177) hx hb dX4_caskHere_113 (by decide) (fun c_113 => ?_) (fun c_113 => ?_)
            · refine lv_iconst (v := nI 0) hx hb dX4_caskHere_177 (by decide) ?_
              exact WR.zret S hr hlk hP hS (by rw [show iC (σ 5) L f S9 n kk = _ from if_neg (by omega), hX_83, pP_f c_113, pP_f c_113]) (bI_f (by rw [show iC (σ 5) L f S9 n kk = _ from if_neg (by omega), hX_83, pP_f c_113, pP_f c_113]; exact c_113)) dX4_caskHere_178
            · obtain ⟨f1_110, S1_110, hX_110⟩ : ∃ f1 S1, pP (σ 5) L (true, f1_83, S1_83) [112, 101, 97, 108] (16 + 7 * n + 2) 999 = (true, f1, S1) := ⟨_, _, tr_eq c_113⟩
              have hS1_110 : S1_110 ≤ L := by have h9 := pP_le (b := σ 5) (L := L) (x := (true, f1_83, S1_83)) (pl := 16 + 7 * n + 2) (mo := 999) (ws := [112, 101, 97, 108]) (hS1_83); rw [hX_110] at h9; exact h9
              rw [XS_t c_113, hX_110] at hP hD
              have hP : va_P D vwCl (MW cI a f1_110 (TS σ L S1_110)) H := hP
              have hD : va_D A (MW cI a f1_110 (TS σ L S1_110)) := hD
              have hte110 := tE_le (b := σ 5) (L := L) (s := S1_110) hS1_110
              refine lv_aload_n hx hb dX4_caskHere_116 rfl (lv_at hl 1 rfl) ?_
              refine lv_aload_n hx hb dX4_caskHere_117 rfl (lv_at hl 1 rfl) ?_
              refine lv_bipush (v := nI 112) hx hb dX4_caskHere_118 (by decide) ?_
              refine lv_bipush (v := nI 105) hx hb dX4_caskHere_120 (by decide) ?_
              refine lv_bipush (v := nI 116) hx hb dX4_caskHere_122 (by decide) ?_
              refine lv_bipush (v := nI 99) hx hb dX4_caskHere_124 (by decide) ?_
              refine lv_bipush (v := nI 104) hx hb dX4_caskHere_126 (by decide) ?_
              refine RO.callV S kv_X4_248 (c_X4_isFive l D cI cJ a f1_110 σ L S1_110 hL hL120 (hS1_110) 112 105 116 99 104) hK hP rfl ⟨Nat.le_of_ble_eq_true rfl, Nat.le_of_ble_eq_true rfl⟩ hl.1 rfl rfl (Nat.le_of_ble_eq_true rfl) (Nat.zero_le _) (Nat.zero_le _) dX4_caskHere_128 ?_
              refine lv_iload_n hx hb dX4_caskHere_131 rfl (lv_at hl 0 rfl) ?_
              refine lv_iconst (v := nI 3) hx hb dX4_caskHere_132 (by decide) ?_
              refine RO.callS S ks_X4_70 (c_X4_at l D cI cJ a f1_110 (TS σ L S1_110) n 3) hK hP ⟨Nat.le_of_ble_eq_true rfl, Nat.le_of_ble_eq_true rfl⟩ hl.1 rfl rfl (Nat.le_of_ble_eq_true rfl) (Nat.zero_le _) (Nat.zero_le _) dX4_caskHere_133 ?_
              refine lv_bipush (v := nI 11) hx hb dX4_caskHere_136 (by decide) ?_
              refine WR.callV (w1 := MW cI a ((pP (σ 5) L (true, f1_110, S1_110) [112, 105, 116, 99, 104] (16 + 7 * n + 3) 11).2.1) (XS σ L (pP (σ 5) L (true, f1_110, S1_110) [112, 105, 116, 99, 104] (16 + 7 * n + 3) 11))) S kv_X4_262 (c_X4_perhaps_w l D cI cJ a f1_110 σ L S1_110 hL hL120 (hS1_110) hby [112, 105, 116, 99, 104] (16 + 7 * n + 3) 11 (by omega) (by omega)) hK hP hD hS hA ([]) ([]) rfl rfl MW_fst rfl ⟨Nat.le_of_ble_eq_true rfl, Nat.le_of_ble_eq_true rfl⟩ hl.1 rfl rfl (Nat.le_of_ble_eq_true rfl) (Nat.zero_le _) (Nat.zero_le _) dX4_caskHere_138 (fun H locs hP hD hS => ?_)
              refine q_if_eqB (tgt := 177) hx hb dX4_caskHere_141 (by decide) (fun c_141 => ?_) (fun c_141 => ?_)
              · refine lv_iconst (v := nI 0) hx hb dX4_caskHere_177 (by decide) ?_
                exact WR.zret S hr hlk hP hS (by rw [show iC (σ 5) L f S9 n kk = _ from if_neg (by omega), hX_83, hX_110, pP_f c_141]) (bI_f (by rw [show iC (σ 5) L f S9 n kk = _ from if_neg (by omega), hX_83, hX_110, pP_f c_141]; exact c_141)) dX4_caskHere_178
              · obtain ⟨f1_138, S1_138, hX_138⟩ : ∃ f1 S1, pP (σ 5) L (true, f1_110, S1_110) [112, 105, 116, 99, 104] (16 + 7 * n + 3) 11 = (true, f1, S1) := ⟨_, _, tr_eq c_141⟩
                have hS1_138 : S1_138 ≤ L := by have h9 := pP_le (b := σ 5) (L := L) (x := (true, f1_110, S1_110)) (pl := 16 + 7 * n + 3) (mo := 11) (ws := [112, 105, 116, 99, 104]) (hS1_110); rw [hX_138] at h9; exact h9
                rw [XS_t c_141, hX_138] at hP hD
                have hP : va_P D vwCl (MW cI a f1_138 (TS σ L S1_138)) H := hP
                have hD : va_D A (MW cI a f1_138 (TS σ L S1_138)) := hD
                have hte138 := tE_le (b := σ 5) (L := L) (s := S1_138) hS1_138
                refine lv_aload_n hx hb dX4_caskHere_144 rfl (lv_at hl 1 rfl) ?_
                refine lv_aload_n hx hb dX4_caskHere_145 rfl (lv_at hl 1 rfl) ?_
                refine lv_bipush (v := nI 104) hx hb dX4_caskHere_146 (by decide) ?_
                refine lv_bipush (v := nI 111) hx hb dX4_caskHere_148 (by decide) ?_
                refine lv_bipush (v := nI 111) hx hb dX4_caskHere_150 (by decide) ?_
                refine lv_bipush (v := nI 112) hx hb dX4_caskHere_152 (by decide) ?_
                refine lv_bipush (v := nI 115) hx hb dX4_caskHere_154 (by decide) ?_
                refine RO.callV S kv_X4_248 (c_X4_isFive l D cI cJ a f1_138 σ L S1_138 hL hL120 (hS1_138) 104 111 111 112 115) hK hP rfl ⟨Nat.le_of_ble_eq_true rfl, Nat.le_of_ble_eq_true rfl⟩ hl.1 rfl rfl (Nat.le_of_ble_eq_true rfl) (Nat.zero_le _) (Nat.zero_le _) dX4_caskHere_156 ?_
                refine lv_iload_n hx hb dX4_caskHere_159 rfl (lv_at hl 0 rfl) ?_
                refine lv_iconst (v := nI 4) hx hb dX4_caskHere_160 (by decide) ?_
                refine RO.callS S ks_X4_70 (c_X4_at l D cI cJ a f1_138 (TS σ L S1_138) n 4) hK hP ⟨Nat.le_of_ble_eq_true rfl, Nat.le_of_ble_eq_true rfl⟩ hl.1 rfl rfl (Nat.le_of_ble_eq_true rfl) (Nat.zero_le _) (Nat.zero_le _) dX4_caskHere_161 ?_
                refine lv_sipush (v := nI 999) hx hb dX4_caskHere_164 (by decide) ?_
                refine WR.callV (w1 := MW cI a ((pP (σ 5) L (true, f1_138, S1_138) [104, 111, 111, 112, 115] (16 + 7 * n + 4) 999).2.1) (XS σ L (pP (σ 5) L (true, f1_138, S1_138) [104, 111, 111, 112, 115] (16 + 7 * n + 4) 999))) S kv_X4_262 (c_X4_perhaps_w l D cI cJ a f1_138 σ L S1_138 hL hL120 (hS1_138) hby [104, 111, 111, 112, 115] (16 + 7 * n + 4) 999 (by omega) (by omega)) hK hP hD hS hA ([]) ([]) rfl rfl MW_fst rfl ⟨Nat.le_of_ble_eq_true rfl, Nat.le_of_ble_eq_true rfl⟩ hl.1 rfl rfl (Nat.le_of_ble_eq_true rfl) (Nat.zero_le _) (Nat.zero_le _) dX4_caskHere_167 (fun H locs hP hD hS => ?_)
                refine q_if_eqB (tgt := 177) hx hb dX4_caskHere_170 (by decide) (fun c_170 => ?_) (fun c_170 => ?_)
                · refine lv_iconst (v := nI 0) hx hb dX4_caskHere_177 (by decide) ?_
                  exact WR.zret S hr hlk hP hS (by rw [show iC (σ 5) L f S9 n kk = _ from if_neg (by omega), hX_83, hX_110, hX_138]) (bI_f (by rw [show iC (σ 5) L f S9 n kk = _ from if_neg (by omega), hX_83, hX_110, hX_138]; exact c_170)) dX4_caskHere_178
                · obtain ⟨f1_167, S1_167, hX_167⟩ : ∃ f1 S1, pP (σ 5) L (true, f1_138, S1_138) [104, 111, 111, 112, 115] (16 + 7 * n + 4) 999 = (true, f1, S1) := ⟨_, _, tr_eq c_170⟩
                  have hS1_167 : S1_167 ≤ L := by have h9 := pP_le (b := σ 5) (L := L) (x := (true, f1_138, S1_138)) (pl := 16 + 7 * n + 4) (mo := 999) (ws := [104, 111, 111, 112, 115]) (hS1_138); rw [hX_167] at h9; exact h9
                  rw [XS_t c_170, hX_167] at hP hD
                  have hP : va_P D vwCl (MW cI a f1_167 (TS σ L S1_167)) H := hP
                  have hD : va_D A (MW cI a f1_167 (TS σ L S1_167)) := hD
                  have hte167 := tE_le (b := σ 5) (L := L) (s := S1_167) hS1_167
                  refine lv_iconst (v := nI 1) hx hb dX4_caskHere_173 (by decide) ?_
                  refine lv_goto (tgt := 178) hx hb dX4_caskHere_174 (by decide) ?_
                  exact WR.zret S hr hlk hP hS (by rw [show iC (σ 5) L f S9 n kk = _ from if_neg (by omega), hX_83, hX_110, hX_138, hX_167]; rfl) (bI_t (by rw [show iC (σ 5) L f S9 n kk = _ from if_neg (by omega), hX_83, hX_110, hX_138, hX_167])) dX4_caskHere_178
  · refine lv_aload_n hx hb dX4_caskHere_11 rfl (lv_at hl 0 rfl) ?_
    refine WR.callV (w1 := MW cI a f (m9 (TS σ L S9) 8 (nI S9))) S kv_X4_241 (c_X4_fails l D cI cJ a f σ L S9 hL hL120 (hS9)) hK hP hD hS hA ([]) ([]) rfl rfl MW_fst rfl ⟨Nat.le_of_ble_eq_true rfl, Nat.le_of_ble_eq_true rfl⟩ hl.1 rfl rfl (Nat.le_of_ble_eq_true rfl) (Nat.zero_le _) (Nat.zero_le _) dX4_caskHere_12 (fun H locs hP hD hS => ?_)
    exact WR.zret S hr hlk hP hS (by rw [show iC (σ 5) L f S9 n kk = (false, f, S9) from if_pos (by omega)]; rfl) (by rw [show iC (σ 5) L f S9 n kk = (false, f, S9) from if_pos (by omega)]; exact bI_iff ⟨fun q => Bool.false_ne_true q, fun q => q.elim⟩) dX4_caskHere_15
set_option maxRecDepth 100000 in
set_option maxHeartbeats 4000000 in
theorem c_X4_itemHere (l : Launch) (D : va_G) (cI cJ : ClassId) (a : Nat → Nat) (f : Nat → Int32) (σ : Nat → Nat → Int32) (L : Nat) (S9 : Nat) (hL : σ 9 1 = nI L) (hL120 : L ≤ 120) (hS9 : S9 ≤ L) (hby : By (σ 5) L) (n : Nat) (hw : Wk f n) : WR l yX4_itemHere cX4_itemHere 2 (some .boolean) 4 D cI cJ (MW cI a f (TS σ L S9)) [.ref (a 0)] (some (.int (bI ((iT (σ 5) L f S9 n).1 = true)))) (MW cI a ((iT (σ 5) L f S9 n).2.1) (XS σ L (iT (σ 5) L f S9 n))) := by
  have hte := tE_le (b := σ 5) (L := L) (s := S9) hS9
  have htv := tV_lt (b := σ 5) (L := L) (s := S9)
  have htk := tK_lt (b := σ 5) (L := L) (s := S9)
  refine WR.of (by decide) (Nat.le_of_ble_eq_true rfl) (fun p e s m below meth c ls A S hr hlk hK hP hD hS hA hl => ?_)
  obtain ⟨hx, hb, hml, hown, hU⟩ := id S
  have hl : lv_has ls 2 [(0, .ref (a 0))] := hl
  refine lv_aload_n hx hb dX4_itemHere_0 rfl (lv_at hl 0 rfl) ?_
  refine RO.callV S kv_X4_266 (c_X4_kindHere l D cI cJ a f σ L S9 hL hL120 (hS9)) hK hP rfl ⟨Nat.le_of_ble_eq_true rfl, Nat.le_of_ble_eq_true rfl⟩ hl.1 rfl rfl (Nat.le_of_ble_eq_true rfl) (Nat.zero_le _) (Nat.zero_le _) dX4_itemHere_1 ?_
  cases hE : kdO (σ 5) L S9 with
  | none =>
    refine q_eqi (y := (-1)) rfl ?_
    refine lv_istore_n (lv' := [(1, .int (-1)), (0, .ref (a 0))]) hx hb dX4_itemHere_4 rfl hl (by decide) rfl (fun ls hl => ?_)
    refine lv_iload_n hx hb dX4_itemHere_5 rfl (lv_at hl 0 rfl) ?_
    refine lv_if_lt (tgt := 15) hx hb dX4_itemHere_6 (by decide) (fun _ => ?_) (fun h => absurd (by decide) h)
    refine lv_aload_n hx hb dX4_itemHere_15 rfl (lv_at hl 1 rfl) ?_
    refine lv_bipush (v := nI 115) hx hb dX4_itemHere_16 (by decide) ?_
    refine lv_bipush (v := nI 116) hx hb dX4_itemHere_18 (by decide) ?_
    refine lv_bipush (v := nI 111) hx hb dX4_itemHere_20 (by decide) ?_
    refine lv_bipush (v := nI 114) hx hb dX4_itemHere_22 (by decide) ?_
    refine lv_bipush (v := nI 109) hx hb dX4_itemHere_24 (by decide) ?_
    refine RO.callV S kv_X4_248 (c_X4_isFive l D cI cJ a f σ L S9 hL hL120 (hS9) 115 116 111 114 109) hK hP rfl ⟨Nat.le_of_ble_eq_true rfl, Nat.le_of_ble_eq_true rfl⟩ hl.1 rfl rfl (Nat.le_of_ble_eq_true rfl) (Nat.zero_le _) (Nat.zero_le _) dX4_itemHere_26 ?_
    refine q_if_eqB (tgt := 41) hx hb dX4_itemHere_29 (by decide) (fun c_29 => ?_) (fun c_29 => ?_)
    · refine lv_aload_n hx hb dX4_itemHere_41 rfl (lv_at hl 1 rfl) ?_
      refine lv_bipush (v := nI 102) hx hb dX4_itemHere_42 (by decide) ?_
      refine lv_bipush (v := nI 114) hx hb dX4_itemHere_44 (by decide) ?_
      refine lv_bipush (v := nI 111) hx hb dX4_itemHere_46 (by decide) ?_
      refine lv_bipush (v := nI 115) hx hb dX4_itemHere_48 (by decide) ?_
      refine lv_bipush (v := nI 116) hx hb dX4_itemHere_50 (by decide) ?_
      refine RO.callV S kv_X4_248 (c_X4_isFive l D cI cJ a f σ L S9 hL hL120 (hS9) 102 114 111 115 116) hK hP rfl ⟨Nat.le_of_ble_eq_true rfl, Nat.le_of_ble_eq_true rfl⟩ hl.1 rfl rfl (Nat.le_of_ble_eq_true rfl) (Nat.zero_le _) (Nat.zero_le _) dX4_itemHere_52 ?_
      refine q_if_eqB (tgt := 68) hx hb dX4_itemHere_55 (by decide) (fun c_55 => ?_) (fun c_55 => ?_)
      · refine lv_aload_n hx hb dX4_itemHere_68 rfl (lv_at hl 1 rfl) ?_
        refine WR.callV (w1 := MW cI a f (m9 (TS σ L S9) 8 (nI S9))) S kv_X4_241 (c_X4_fails l D cI cJ a f σ L S9 hL hL120 (hS9)) hK hP hD hS hA ([]) ([]) rfl rfl MW_fst rfl ⟨Nat.le_of_ble_eq_true rfl, Nat.le_of_ble_eq_true rfl⟩ hl.1 rfl rfl (Nat.le_of_ble_eq_true rfl) (Nat.zero_le _) (Nat.zero_le _) dX4_itemHere_69 (fun H locs hP hD hS => ?_)
        exact WR.zret S hr hlk hP hS (by rw [iT_no hE c_29 c_55]; rfl) (by rw [iT_no hE c_29 c_55]; exact bI_iff ⟨fun q => Bool.false_ne_true q, fun q => q.elim⟩) dX4_itemHere_72
      · refine lv_aload_n hx hb dX4_itemHere_58 rfl (lv_at hl 1 rfl) ?_
        refine lv_iconst (v := nI 4) hx hb dX4_itemHere_59 (by decide) ?_
        refine lv_bipush (v := nI 9) hx hb dX4_itemHere_60 (by decide) ?_
        refine WR.callV (w1 := MW cI a ((iR (σ 5) L f S9 4 9).2.1) (XS σ L (iR (σ 5) L f S9 4 9))) S kv_X4_272 (c_X4_cellarHere l D cI cJ a f σ L S9 hL hL120 hS9 hby 4 9 (by omega) (by omega)) hK hP hD hS hA ([]) ([]) rfl rfl MW_fst rfl ⟨Nat.le_of_ble_eq_true rfl, Nat.le_of_ble_eq_true rfl⟩ hl.1 rfl rfl (Nat.le_of_ble_eq_true rfl) (Nat.zero_le _) (Nat.zero_le _) dX4_itemHere_62 (fun H locs hP hD hS => ?_)
        refine lv_goto (tgt := 72) hx hb dX4_itemHere_65 (by decide) ?_
        exact WR.zret S hr hlk hP hS (by rw [iT_fr hE c_29 c_55]) (by rw [iT_fr hE c_29 c_55]) dX4_itemHere_72
    · refine lv_aload_n hx hb dX4_itemHere_32 rfl (lv_at hl 1 rfl) ?_
      refine lv_bipush (v := nI 10) hx hb dX4_itemHere_33 (by decide) ?_
      refine lv_bipush (v := nI 99) hx hb dX4_itemHere_35 (by decide) ?_
      refine WR.callV (w1 := MW cI a ((iR (σ 5) L f S9 10 99).2.1) (XS σ L (iR (σ 5) L f S9 10 99))) S kv_X4_272 (c_X4_cellarHere l D cI cJ a f σ L S9 hL hL120 hS9 hby 10 99 (by omega) (by omega)) hK hP hD hS hA ([]) ([]) rfl rfl MW_fst rfl ⟨Nat.le_of_ble_eq_true rfl, Nat.le_of_ble_eq_true rfl⟩ hl.1 rfl rfl (Nat.le_of_ble_eq_true rfl) (Nat.zero_le _) (Nat.zero_le _) dX4_itemHere_37 (fun H locs hP hD hS => ?_)
      exact WR.zret S hr hlk hP hS (by rw [iT_st hE c_29]) (by rw [iT_st hE c_29]) dX4_itemHere_40
  | some b =>
    refine q_eqi (y := nI b) rfl ?_
    have hbk := fst1_lt hE
    refine lv_istore_n (lv' := [(1, .int (nI b)), (0, .ref (a 0))]) hx hb dX4_itemHere_4 rfl hl (by decide) rfl (fun ls hl => ?_)
    refine lv_iload_n hx hb dX4_itemHere_5 rfl (lv_at hl 0 rfl) ?_
    refine q_if_ltN (tgt := 15) (a := b) hx hb dX4_itemHere_6 (by decide) (by omega) ?_
    refine lv_aload_n hx hb dX4_itemHere_9 rfl (lv_at hl 1 rfl) ?_
    refine lv_iload_n hx hb dX4_itemHere_10 rfl (lv_at hl 0 rfl) ?_
    refine WR.callV (w1 := MW cI a ((iC (σ 5) L f S9 n b).2.1) (XS σ L (iC (σ 5) L f S9 n b))) S kv_X4_269 (c_X4_caskHere l D cI cJ a f σ L S9 hL hL120 hS9 hby b (by omega) n hw) hK hP hD hS hA ([]) ([]) rfl rfl MW_fst rfl ⟨Nat.le_of_ble_eq_true rfl, Nat.le_of_ble_eq_true rfl⟩ hl.1 rfl rfl (Nat.le_of_ble_eq_true rfl) (Nat.zero_le _) (Nat.zero_le _) dX4_itemHere_11 (fun H locs hP hD hS => ?_)
    exact WR.zret S hr hlk hP hS (by rw [iT_s hE]) (by rw [iT_s hE]) dX4_itemHere_14

theorem TK_of {σ : Nat → Nat → Int32} {x : Int32} : m9 σ 6 x = TK σ (σ 9 4) (σ 9 5) x (σ 9 7) := by
  unfold m9 TK
  congr 1
  funext i
  unfold upd tkR
  by_cases h6 : i = 6
  · subst h6; rfl
  · rw [if_neg h6]
    by_cases h4 : i = 4
    · subst h4; rfl
    · rw [if_neg h4]
      by_cases h5 : i = 5
      · subst h5; rfl
      · rw [if_neg h5, if_neg h6]
        by_cases h7 : i = 7
        · subst h7; rfl
        · rw [if_neg h7]
set_option maxRecDepth 100000 in
set_option maxHeartbeats 4000000 in
theorem c_X4_text_ok (l : Launch) (D : va_G) (cI cJ : ClassId) (a : Nat → Nat) (f : Nat → Int32) (σ0 : Nat → Nat → Int32) (n : Nat) (hI : Iv f n) (L : Nat) (hL0 : σ0 9 1 = nI L) (hL120 : L ≤ 120) (hby0 : By (σ0 5) L) (hG : txG (σ0 5) L f) : WR l yX4_text cX4_text 3 (some .int) 5 D cI cJ (MW cI a f σ0) [.ref (a 0)] (some (.int (nI ((txA (σ0 5) L f).2)))) (MW cI a ((txA (σ0 5) L f).1.2.1) (m9 (TS (va_up σ0 2 f) L (txA (σ0 5) L f).1.2.2) 1 (nI 0))) := by
  refine WR.of (by decide) (Nat.le_of_ble_eq_true rfl) (fun p e s m below meth c ls A S hr hlk hK hP hD hS hA hl => ?_)
  obtain ⟨hx, hb, hml, hown, hU⟩ := id S
  have hl : lv_has ls 3 [(0, .ref (a 0))] := hl
  refine lv_aload_n hx hb dX4_text_0 rfl (lv_at hl 0 rfl) ?_
  refine g4_s S hK hP dX4_text_1 ?_
  refine lv_aload_n hx hb dX4_text_4 rfl (lv_at hl 0 rfl) ?_
  refine g4_before S hK hP dX4_text_5 ?_
  refine WR.callS (w1 := MW cI a f (va_up σ0 2 f)) S ks_X4_140 (c_X4_copyRow_s_before l D cI cJ a f σ0) hK hP hD hS hA ([]) ([]) rfl rfl MW_fst ⟨Nat.le_of_ble_eq_true rfl, Nat.le_of_ble_eq_true rfl⟩ hl.1 rfl rfl (Nat.le_of_ble_eq_true rfl) (Nat.zero_le _) (Nat.zero_le _) dX4_text_8 (fun H locs hP hD hS => ?_)
  refine W.eq (g2 := F0 m 11 ls []) rfl ?_
  refine lv_aload_n hx hb dX4_text_11 rfl (lv_at hl 0 rfl) ?_
  refine lv_iconst (v := nI 0) hx hb dX4_text_12 (by decide) ?_
  refine p4_to S hK hP hD hS dX4_text_13 (fun H locs hP hD hS => ?_)
  generalize hg1 : va_up σ0 2 f = σ at hP hD ⊢
  have hL : σ 9 1 = nI L := by rw [← hg1]; exact hL0
  have hby : By (σ 5) L := by rw [← hg1]; exact hby0
  have hb5 : σ0 5 = σ 5 := by rw [← hg1]; rfl
  have h2f : σ 2 = f := by rw [← hg1]; rfl
  rw [hb5] at hG ⊢
  rw [TK_of] at hP hD
  refine lv_aload_n hx hb dX4_text_16 rfl (lv_at hl 0 rfl) ?_
  refine WR.callV (w1 := MW cI a f (TS σ L (sS (σ 5) L 0))) S kv_X4_256 (c_X4_nextToken l D cI cJ a f σ (σ 9 4) (σ 9 5) 0 (σ 9 7) L hL hL120 (Nat.zero_le L) hby) hK hP hD hS hA ([]) ([]) rfl rfl MW_fst rfl ⟨Nat.le_of_ble_eq_true rfl, Nat.le_of_ble_eq_true rfl⟩ hl.1 rfl rfl (Nat.le_of_ble_eq_true rfl) (Nat.zero_le _) (Nat.zero_le _) dX4_text_17 (fun H locs hP hD hS => ?_)
  refine W.eq (g2 := F0 m 20 ls []) rfl ?_
  refine lv_iconst (v := nI 1) hx hb dX4_text_20 (by decide) ?_
  refine lv_istore_n (lv' := [(1, .int (nI 1)), (0, .ref (a 0))]) hx hb dX4_text_21 rfl hl (by decide) rfl (fun ls hl => ?_)
  refine lv_aload_n hx hb dX4_text_22 rfl (lv_at hl 1 rfl) ?_
  refine WR.callV (w1 := MW cI a ((iT (σ 5) L f (sS (σ 5) L 0) n).2.1) (XS σ L (iT (σ 5) L f (sS (σ 5) L 0) n))) S kv_X4_275 (c_X4_itemHere l D cI cJ a f σ L (sS (σ 5) L 0) hL hL120 ((sS_le (Nat.zero_le L)).2) hby n hI.wk) hK hP hD hS hA ([]) ([]) rfl rfl MW_fst rfl ⟨Nat.le_of_ble_eq_true rfl, Nat.le_of_ble_eq_true rfl⟩ hl.1 rfl rfl (Nat.le_of_ble_eq_true rfl) (Nat.zero_le _) (Nat.zero_le _) dX4_text_23 (fun H locs hP hD hS => ?_)
  refine lv_istore_n (lv' := [(2, .int (bI ((iT (σ 5) L f (sS (σ 5) L 0) n).1 = true))), (1, .int (nI 1)), (0, .ref (a 0))]) hx hb dX4_text_26 rfl hl (by decide) rfl (fun ls hl => ?_)
  have L_27 : ∀ (n9 : Nat) (X : Bool × (Nat → Int32) × Nat) (ct : Nat) (H : Heap) (locs : List Loc) (ls : Array Slot), 121 - ct < n9 → (X.2.2 ≤ L) → (1 ≤ ct) → (ct ≤ X.2.2 + 1) → (∃ n8, Iv X.2.1 n8) → (txL (σ 5) L (121 - ct) X ct = txA (σ 5) L f) → va_P D vwCl (MW cI a X.2.1 (XS σ L X)) H → va_D A (MW cI a X.2.1 (XS σ L X)) → va_S A s.heap H locs → lv_has ls 3 [(0, .ref (a 0)), (1, .int (nI ct)), (2, .int (bI (X.1 = true)))] → W p l e (rmd 5) s m ([.ref (a 0)] : List Value).toArray below meth c H locs 0 0 (ZW below ([.ref (a 0)] : List Value).toArray s D (some (.int (nI ((txA (σ 5) L f).2)))) (MW cI a ((txA (σ 5) L f).1.2.1) (m9 (TS σ L (txA (σ 5) L f).1.2.2) 1 (nI 0))) A) (F0 m 27 ls []) := by
    intro n9
    induction n9 with
    | zero => intro X ct H locs ls hmeas; exact absurd hmeas (Nat.not_lt_zero _)
    | succ n9 ih_27 =>
      intro X ct H locs ls hmeas hXL hc1 hc2 hIv hT hP hD hS hl
      refine lv_iload_n hx hb dX4_text_27 rfl (lv_at hl 2 rfl) ?_
      refine q_if_eqB (tgt := 54) hx hb dX4_text_28 (by decide) (fun c_28 => ?_) (fun c_28 => ?_)
      · have hTA : txA (σ 5) L f = (X, ct) := by rw [← hT]; exact txL_0 (fun q => c_28 q.1)
        exact absurd (by have h9 := hG.1; rw [hTA] at h9; exact h9) c_28
      · rw [XS_t c_28] at hP hD
        obtain ⟨n7, hI7⟩ := hIv
        have hn7 := hI7.nO
        have htk := tK_lt (b := σ 5) (L := L) (s := X.2.2)
        refine lv_aload_n hx hb dX4_text_31 rfl (lv_at hl 0 rfl) ?_
        refine g4_token S hK hP dX4_text_32 ?_
        refine lv_iconst (v := nI 3) hx hb dX4_text_35 (by decide) ?_
        refine q_icmp_neN (tgt := 54) (a := tK (σ 5) L X.2.2) (b := 3) hx hb dX4_text_36 (by decide) (by omega) (by omega) (fun c_36 => ?_) (fun c_36 => ?_)
        · have hTA : txA (σ 5) L f = (X, ct) := by rw [← hT]; exact txL_0 (fun q => c_36 q.2)
          refine lv_iload_n hx hb dX4_text_54 rfl (lv_at hl 2 rfl) ?_
          refine q_if_eqB (tgt := 76) hx hb dX4_text_55 (by decide) (fun h => absurd (c_28) h) (fun _ => ?_)
          refine lv_aload_n hx hb dX4_text_58 rfl (lv_at hl 0 rfl) ?_
          refine g4_token S hK hP dX4_text_59 ?_
          refine q_if_eqN (tgt := 72) (a := tK (σ 5) L X.2.2) hx hb dX4_text_62 (by decide) (by omega) (fun c_62 => ?_) (fun c_62 => ?_)
          · refine lv_iconst (v := nI 1) hx hb dX4_text_72 (by decide) ?_
            refine lv_goto (tgt := 77) hx hb dX4_text_73 (by decide) ?_
            refine lv_istore_n (lv' := [(2, .int (nI 1)), (0, .ref (a 0)), (1, .int (nI ct))]) hx hb dX4_text_77 rfl hl (by decide) rfl (fun ls hl => ?_)
            refine lv_aload_n hx hb dX4_text_78 rfl (lv_at hl 1 rfl) ?_
            refine lv_iconst (v := nI 0) hx hb dX4_text_79 (by decide) ?_
            refine p4_taped S hK hP hD hS dX4_text_80 (fun H locs hP hD hS => ?_)
            refine lv_iload_n hx hb dX4_text_83 rfl (lv_at hl 0 rfl) ?_
            refine q_if_neN (tgt := 98) (a := 1) hx hb dX4_text_84 (by decide) (by omega) (fun _ => ?_) (fun h => absurd h (by omega))
            refine lv_iload_n hx hb dX4_text_98 rfl (lv_at hl 0 rfl) ?_
            refine q_if_eqN (tgt := 106) (a := 1) hx hb dX4_text_99 (by decide) (by omega) (fun h => absurd h (by omega)) (fun _ => ?_)
            refine lv_iload_n hx hb dX4_text_102 rfl (lv_at hl 2 rfl) ?_
            refine lv_goto (tgt := 112) hx hb dX4_text_103 (by decide) ?_
            exact WR.iret S hr hlk hP hS (by rw [hTA]) (congrArg (fun z => some (Value.int z)) (by rw [hTA])) dX4_text_112
          · exact absurd (show tK (σ 5) L X.2.2 = 0 from by have h9 := hG.2; rw [hTA] at h9; exact h9) (by omega)
        · have hgt := nx_gt hXL c_36
          have hnl := nx_le (b := σ 5) (L := L) hXL
          refine lv_aload_n hx hb dX4_text_39 rfl (lv_at hl 0 rfl) ?_
          refine WR.callV (w1 := MW cI a X.2.1 (TS σ L (nx (σ 5) L X.2.2))) S kv_X4_256 (c_X4_nextToken l D cI cJ a X.2.1 σ (nI (tK (σ 5) L X.2.2)) (nI X.2.2) (tE (σ 5) L X.2.2) (nI (tV (σ 5) L X.2.2)) L hL hL120 (tE_le (hXL)).2 hby) hK hP hD hS hA ([]) ([]) rfl rfl MW_fst rfl ⟨Nat.le_of_ble_eq_true rfl, Nat.le_of_ble_eq_true rfl⟩ hl.1 rfl rfl (Nat.le_of_ble_eq_true rfl) (Nat.zero_le _) (Nat.zero_le _) dX4_text_40 (fun H locs hP hD hS => ?_)
          refine W.eq (g2 := F0 m 43 ls []) rfl ?_
          refine lv_aload_n hx hb dX4_text_43 rfl (lv_at hl 0 rfl) ?_
          refine WR.callV (w1 := MW cI a ((iT (σ 5) L X.2.1 (nx (σ 5) L X.2.2) n7).2.1) (XS σ L (iT (σ 5) L X.2.1 (nx (σ 5) L X.2.2) n7))) S kv_X4_275 (c_X4_itemHere l D cI cJ a X.2.1 σ L (nx (σ 5) L X.2.2) hL hL120 (nx_le (hXL)) hby n7 hI7.wk) hK hP hD hS hA ([]) ([]) rfl rfl MW_fst rfl ⟨Nat.le_of_ble_eq_true rfl, Nat.le_of_ble_eq_true rfl⟩ hl.1 rfl rfl (Nat.le_of_ble_eq_true rfl) (Nat.zero_le _) (Nat.zero_le _) dX4_text_44 (fun H locs hP hD hS => ?_)
          refine lv_istore_n (lv' := [(2, .int (bI ((iT (σ 5) L X.2.1 (nx (σ 5) L X.2.2) n7).1 = true))), (0, .ref (a 0)), (1, .int (nI ct))]) hx hb dX4_text_47 rfl hl (by decide) rfl (fun ls hl => ?_)
          refine lv_iinc (v := nI (ct + 1)) (lv' := [(1, .int (nI (ct + 1))), (2, .int (bI ((iT (σ 5) L X.2.1 (nx (σ 5) L X.2.2) n7).1 = true))), (0, .ref (a 0))]) hx hb dX4_text_48 hl (k := 2) rfl (q_inc _) (by decide) rfl (fun ls hl => ?_)
          refine lv_goto (tgt := 27) hx hb dX4_text_51 (by decide) ?_
          exact ih_27 (iT (σ 5) L X.2.1 (nx (σ 5) L X.2.2) n7) (ct + 1) _ _ ls (by omega) (iT_le (nx_le hXL)) (by omega) (by have h2 := iT_ge (b := σ 5) (f := X.2.1) (n := n7) (nx_le (b := σ 5) hXL); omega) (iT_iv hI7) (by rw [← hT, show 121 - ct = (121 - (ct + 1)) + 1 by omega, txL_1 ⟨c_28, c_36⟩, hn7]) hP hD hS (lv_sub hl [2, 0, 1] rfl)
  exact L_27 ((121 - 1) + 1) (iT (σ 5) L f (sS (σ 5) L 0) n) 1 _ _ ls (Nat.lt_succ_self _) (iT_le (sS_le (Nat.zero_le L)).2) (by omega) (by omega) (iT_iv hI) (by unfold txA; rw [hI.nO]) hP hD hS (lv_sub hl [2, 1, 0] rfl)
set_option maxRecDepth 100000 in
set_option maxHeartbeats 4000000 in
theorem c_X4_text_no (l : Launch) (D : va_G) (cI cJ : ClassId) (a : Nat → Nat) (f : Nat → Int32) (σ0 : Nat → Nat → Int32) (n : Nat) (hI : Iv f n) (L : Nat) (hL0 : σ0 9 1 = nI L) (hL120 : L ≤ 120) (hby0 : By (σ0 5) L) (hG : ¬ txG (σ0 5) L f) : WR l yX4_text cX4_text 3 (some .int) 5 D cI cJ (MW cI a f σ0) [.ref (a 0)] (some (.int ((-1) - nI (txA (σ0 5) L f).1.2.2))) (MW cI a f (m9 (m9 (TS (va_up σ0 2 f) L (txA (σ0 5) L f).1.2.2) 8 (nI (txA (σ0 5) L f).1.2.2)) 1 (nI 0))) := by
  refine WR.of (by decide) (Nat.le_of_ble_eq_true rfl) (fun p e s m below meth c ls A S hr hlk hK hP hD hS hA hl => ?_)
  obtain ⟨hx, hb, hml, hown, hU⟩ := id S
  have hl : lv_has ls 3 [(0, .ref (a 0))] := hl
  refine lv_aload_n hx hb dX4_text_0 rfl (lv_at hl 0 rfl) ?_
  refine g4_s S hK hP dX4_text_1 ?_
  refine lv_aload_n hx hb dX4_text_4 rfl (lv_at hl 0 rfl) ?_
  refine g4_before S hK hP dX4_text_5 ?_
  refine WR.callS (w1 := MW cI a f (va_up σ0 2 f)) S ks_X4_140 (c_X4_copyRow_s_before l D cI cJ a f σ0) hK hP hD hS hA ([]) ([]) rfl rfl MW_fst ⟨Nat.le_of_ble_eq_true rfl, Nat.le_of_ble_eq_true rfl⟩ hl.1 rfl rfl (Nat.le_of_ble_eq_true rfl) (Nat.zero_le _) (Nat.zero_le _) dX4_text_8 (fun H locs hP hD hS => ?_)
  refine W.eq (g2 := F0 m 11 ls []) rfl ?_
  refine lv_aload_n hx hb dX4_text_11 rfl (lv_at hl 0 rfl) ?_
  refine lv_iconst (v := nI 0) hx hb dX4_text_12 (by decide) ?_
  refine p4_to S hK hP hD hS dX4_text_13 (fun H locs hP hD hS => ?_)
  generalize hg1 : va_up σ0 2 f = σ at hP hD ⊢
  have hL : σ 9 1 = nI L := by rw [← hg1]; exact hL0
  have hby : By (σ 5) L := by rw [← hg1]; exact hby0
  have hb5 : σ0 5 = σ 5 := by rw [← hg1]; rfl
  have h2f : σ 2 = f := by rw [← hg1]; rfl
  rw [hb5] at hG ⊢
  rw [TK_of] at hP hD
  refine lv_aload_n hx hb dX4_text_16 rfl (lv_at hl 0 rfl) ?_
  refine WR.callV (w1 := MW cI a f (TS σ L (sS (σ 5) L 0))) S kv_X4_256 (c_X4_nextToken l D cI cJ a f σ (σ 9 4) (σ 9 5) 0 (σ 9 7) L hL hL120 (Nat.zero_le L) hby) hK hP hD hS hA ([]) ([]) rfl rfl MW_fst rfl ⟨Nat.le_of_ble_eq_true rfl, Nat.le_of_ble_eq_true rfl⟩ hl.1 rfl rfl (Nat.le_of_ble_eq_true rfl) (Nat.zero_le _) (Nat.zero_le _) dX4_text_17 (fun H locs hP hD hS => ?_)
  refine W.eq (g2 := F0 m 20 ls []) rfl ?_
  refine lv_iconst (v := nI 1) hx hb dX4_text_20 (by decide) ?_
  refine lv_istore_n (lv' := [(1, .int (nI 1)), (0, .ref (a 0))]) hx hb dX4_text_21 rfl hl (by decide) rfl (fun ls hl => ?_)
  refine lv_aload_n hx hb dX4_text_22 rfl (lv_at hl 1 rfl) ?_
  refine WR.callV (w1 := MW cI a ((iT (σ 5) L f (sS (σ 5) L 0) n).2.1) (XS σ L (iT (σ 5) L f (sS (σ 5) L 0) n))) S kv_X4_275 (c_X4_itemHere l D cI cJ a f σ L (sS (σ 5) L 0) hL hL120 ((sS_le (Nat.zero_le L)).2) hby n hI.wk) hK hP hD hS hA ([]) ([]) rfl rfl MW_fst rfl ⟨Nat.le_of_ble_eq_true rfl, Nat.le_of_ble_eq_true rfl⟩ hl.1 rfl rfl (Nat.le_of_ble_eq_true rfl) (Nat.zero_le _) (Nat.zero_le _) dX4_text_23 (fun H locs hP hD hS => ?_)
  refine lv_istore_n (lv' := [(2, .int (bI ((iT (σ 5) L f (sS (σ 5) L 0) n).1 = true))), (1, .int (nI 1)), (0, .ref (a 0))]) hx hb dX4_text_26 rfl hl (by decide) rfl (fun ls hl => ?_)
  have L_27 : ∀ (n9 : Nat) (X : Bool × (Nat → Int32) × Nat) (ct : Nat) (H : Heap) (locs : List Loc) (ls : Array Slot), 121 - ct < n9 → (X.2.2 ≤ L) → (1 ≤ ct) → (ct ≤ X.2.2 + 1) → (∃ n8, Iv X.2.1 n8) → (txL (σ 5) L (121 - ct) X ct = txA (σ 5) L f) → va_P D vwCl (MW cI a X.2.1 (XS σ L X)) H → va_D A (MW cI a X.2.1 (XS σ L X)) → va_S A s.heap H locs → lv_has ls 3 [(0, .ref (a 0)), (1, .int (nI ct)), (2, .int (bI (X.1 = true)))] → W p l e (rmd 5) s m ([.ref (a 0)] : List Value).toArray below meth c H locs 0 0 (ZW below ([.ref (a 0)] : List Value).toArray s D (some (.int ((-1) - nI (txA (σ 5) L f).1.2.2))) (MW cI a f (m9 (m9 (TS σ L (txA (σ 5) L f).1.2.2) 8 (nI (txA (σ 5) L f).1.2.2)) 1 (nI 0))) A) (F0 m 27 ls []) := by
    intro n9
    induction n9 with
    | zero => intro X ct H locs ls hmeas; exact absurd hmeas (Nat.not_lt_zero _)
    | succ n9 ih_27 =>
      intro X ct H locs ls hmeas hXL hc1 hc2 hIv hT hP hD hS hl
      refine lv_iload_n hx hb dX4_text_27 rfl (lv_at hl 2 rfl) ?_
      refine q_if_eqB (tgt := 54) hx hb dX4_text_28 (by decide) (fun c_28 => ?_) (fun c_28 => ?_)
      · have hTA : txA (σ 5) L f = (X, ct) := by rw [← hT]; exact txL_0 (fun q => c_28 q.1)
        rw [XS_f c_28] at hP hD
        refine lv_iload_n hx hb dX4_text_54 rfl (lv_at hl 2 rfl) ?_
        refine q_if_eqB (tgt := 76) hx hb dX4_text_55 (by decide) (fun _ => ?_) (fun h => absurd h (c_28))
        refine lv_iconst (v := nI 0) hx hb dX4_text_76 (by decide) ?_
        refine lv_istore_n (lv' := [(2, .int (nI 0)), (0, .ref (a 0)), (1, .int (nI ct))]) hx hb dX4_text_77 rfl hl (by decide) rfl (fun ls hl => ?_)
        refine lv_aload_n hx hb dX4_text_78 rfl (lv_at hl 1 rfl) ?_
        refine lv_iconst (v := nI 0) hx hb dX4_text_79 (by decide) ?_
        refine p4_taped S hK hP hD hS dX4_text_80 (fun H locs hP hD hS => ?_)
        refine lv_iload_n hx hb dX4_text_83 rfl (lv_at hl 0 rfl) ?_
        refine q_if_neN (tgt := 98) (a := 0) hx hb dX4_text_84 (by decide) (by omega) (fun h => absurd h (by omega)) (fun _ => ?_)
        refine lv_aload_n hx hb dX4_text_87 rfl (lv_at hl 1 rfl) ?_
        refine g4_before S hK hP dX4_text_88 ?_
        refine lv_aload_n hx hb dX4_text_91 rfl (lv_at hl 1 rfl) ?_
        refine g4_s S hK hP dX4_text_92 ?_
        refine WR.callS (w1 := MW cI a ((m9 (m9 (TS σ L X.2.2) 8 (nI X.2.2)) 1 (nI 0)) 2) (m9 (m9 (TS σ L X.2.2) 8 (nI X.2.2)) 1 (nI 0))) S ks_X4_140 (c_X4_copyRow_before_s l D cI cJ a X.2.1 (m9 (m9 (TS σ L X.2.2) 8 (nI X.2.2)) 1 (nI 0))) hK hP hD hS hA ([]) ([]) rfl rfl MW_fst ⟨Nat.le_of_ble_eq_true rfl, Nat.le_of_ble_eq_true rfl⟩ hl.1 rfl rfl (Nat.le_of_ble_eq_true rfl) (Nat.zero_le _) (Nat.zero_le _) dX4_text_95 (fun H locs hP hD hS => ?_)
        refine W.eq (g2 := F0 m 98 ls []) rfl ?_
        have hP : va_P D vwCl (MW cI a (σ 2) (m9 (m9 (TS σ L X.2.2) 8 (nI X.2.2)) 1 (nI 0))) H := hP
        rw [h2f] at hP
        refine lv_iload_n hx hb dX4_text_98 rfl (lv_at hl 0 rfl) ?_
        refine q_if_eqN (tgt := 106) (a := 0) hx hb dX4_text_99 (by decide) (by omega) (fun _ => ?_) (fun h => absurd h (by omega))
        refine lv_iconst (v := (-1)) hx hb dX4_text_106 (by decide) ?_
        refine lv_aload_n hx hb dX4_text_107 rfl (lv_at hl 1 rfl) ?_
        refine g4_faultAt S hK hP dX4_text_108 ?_
        refine q_eqi (y := nI X.2.2) (rfl) ?_
        refine lv_isub hx hb dX4_text_111 ?_
        exact WR.iret S hr hlk hP hS (by rw [hTA]) (congrArg (fun z => some (Value.int z)) (by rw [hTA])) dX4_text_112
      · rw [XS_t c_28] at hP hD
        obtain ⟨n7, hI7⟩ := hIv
        have hn7 := hI7.nO
        have htk := tK_lt (b := σ 5) (L := L) (s := X.2.2)
        refine lv_aload_n hx hb dX4_text_31 rfl (lv_at hl 0 rfl) ?_
        refine g4_token S hK hP dX4_text_32 ?_
        refine lv_iconst (v := nI 3) hx hb dX4_text_35 (by decide) ?_
        refine q_icmp_neN (tgt := 54) (a := tK (σ 5) L X.2.2) (b := 3) hx hb dX4_text_36 (by decide) (by omega) (by omega) (fun c_36 => ?_) (fun c_36 => ?_)
        · have hTA : txA (σ 5) L f = (X, ct) := by rw [← hT]; exact txL_0 (fun q => c_36 q.2)
          refine lv_iload_n hx hb dX4_text_54 rfl (lv_at hl 2 rfl) ?_
          refine q_if_eqB (tgt := 76) hx hb dX4_text_55 (by decide) (fun h => absurd (c_28) h) (fun _ => ?_)
          refine lv_aload_n hx hb dX4_text_58 rfl (lv_at hl 0 rfl) ?_
          refine g4_token S hK hP dX4_text_59 ?_
          refine q_if_eqN (tgt := 72) (a := tK (σ 5) L X.2.2) hx hb dX4_text_62 (by decide) (by omega) (fun c_62 => ?_) (fun c_62 => ?_)
          · exact absurd ⟨by rw [hTA]; exact c_28, by rw [hTA]; exact c_62⟩ hG
          · refine lv_aload_n hx hb dX4_text_65 rfl (lv_at hl 0 rfl) ?_
            refine WR.callV (w1 := MW cI a X.2.1 (m9 (TS σ L X.2.2) 8 (nI X.2.2))) S kv_X4_241 (c_X4_fails l D cI cJ a X.2.1 σ L X.2.2 hL hL120 (hXL)) hK hP hD hS hA ([]) ([]) rfl rfl MW_fst rfl ⟨Nat.le_of_ble_eq_true rfl, Nat.le_of_ble_eq_true rfl⟩ hl.1 rfl rfl (Nat.le_of_ble_eq_true rfl) (Nat.zero_le _) (Nat.zero_le _) dX4_text_66 (fun H locs hP hD hS => ?_)
            refine q_if_eqB (tgt := 76) hx hb dX4_text_69 (by decide) (fun _ => ?_) (fun h => absurd h (fun q5 => q5))
            refine lv_iconst (v := nI 0) hx hb dX4_text_76 (by decide) ?_
            refine lv_istore_n (lv' := [(2, .int (nI 0)), (0, .ref (a 0)), (1, .int (nI ct))]) hx hb dX4_text_77 rfl hl (by decide) rfl (fun ls hl => ?_)
            refine lv_aload_n hx hb dX4_text_78 rfl (lv_at hl 1 rfl) ?_
            refine lv_iconst (v := nI 0) hx hb dX4_text_79 (by decide) ?_
            refine p4_taped S hK hP hD hS dX4_text_80 (fun H locs hP hD hS => ?_)
            refine lv_iload_n hx hb dX4_text_83 rfl (lv_at hl 0 rfl) ?_
            refine q_if_neN (tgt := 98) (a := 0) hx hb dX4_text_84 (by decide) (by omega) (fun h => absurd h (by omega)) (fun _ => ?_)
            refine lv_aload_n hx hb dX4_text_87 rfl (lv_at hl 1 rfl) ?_
            refine g4_before S hK hP dX4_text_88 ?_
            refine lv_aload_n hx hb dX4_text_91 rfl (lv_at hl 1 rfl) ?_
            refine g4_s S hK hP dX4_text_92 ?_
            refine WR.callS (w1 := MW cI a ((m9 (m9 (TS σ L X.2.2) 8 (nI X.2.2)) 1 (nI 0)) 2) (m9 (m9 (TS σ L X.2.2) 8 (nI X.2.2)) 1 (nI 0))) S ks_X4_140 (c_X4_copyRow_before_s l D cI cJ a X.2.1 (m9 (m9 (TS σ L X.2.2) 8 (nI X.2.2)) 1 (nI 0))) hK hP hD hS hA ([]) ([]) rfl rfl MW_fst ⟨Nat.le_of_ble_eq_true rfl, Nat.le_of_ble_eq_true rfl⟩ hl.1 rfl rfl (Nat.le_of_ble_eq_true rfl) (Nat.zero_le _) (Nat.zero_le _) dX4_text_95 (fun H locs hP hD hS => ?_)
            refine W.eq (g2 := F0 m 98 ls []) rfl ?_
            have hP : va_P D vwCl (MW cI a (σ 2) (m9 (m9 (TS σ L X.2.2) 8 (nI X.2.2)) 1 (nI 0))) H := hP
            rw [h2f] at hP
            refine lv_iload_n hx hb dX4_text_98 rfl (lv_at hl 0 rfl) ?_
            refine q_if_eqN (tgt := 106) (a := 0) hx hb dX4_text_99 (by decide) (by omega) (fun _ => ?_) (fun h => absurd h (by omega))
            refine lv_iconst (v := (-1)) hx hb dX4_text_106 (by decide) ?_
            refine lv_aload_n hx hb dX4_text_107 rfl (lv_at hl 1 rfl) ?_
            refine g4_faultAt S hK hP dX4_text_108 ?_
            refine q_eqi (y := nI X.2.2) (rfl) ?_
            refine lv_isub hx hb dX4_text_111 ?_
            exact WR.iret S hr hlk hP hS (by rw [hTA]) (congrArg (fun z => some (Value.int z)) (by rw [hTA])) dX4_text_112
        · have hgt := nx_gt hXL c_36
          have hnl := nx_le (b := σ 5) (L := L) hXL
          refine lv_aload_n hx hb dX4_text_39 rfl (lv_at hl 0 rfl) ?_
          refine WR.callV (w1 := MW cI a X.2.1 (TS σ L (nx (σ 5) L X.2.2))) S kv_X4_256 (c_X4_nextToken l D cI cJ a X.2.1 σ (nI (tK (σ 5) L X.2.2)) (nI X.2.2) (tE (σ 5) L X.2.2) (nI (tV (σ 5) L X.2.2)) L hL hL120 (tE_le (hXL)).2 hby) hK hP hD hS hA ([]) ([]) rfl rfl MW_fst rfl ⟨Nat.le_of_ble_eq_true rfl, Nat.le_of_ble_eq_true rfl⟩ hl.1 rfl rfl (Nat.le_of_ble_eq_true rfl) (Nat.zero_le _) (Nat.zero_le _) dX4_text_40 (fun H locs hP hD hS => ?_)
          refine W.eq (g2 := F0 m 43 ls []) rfl ?_
          refine lv_aload_n hx hb dX4_text_43 rfl (lv_at hl 0 rfl) ?_
          refine WR.callV (w1 := MW cI a ((iT (σ 5) L X.2.1 (nx (σ 5) L X.2.2) n7).2.1) (XS σ L (iT (σ 5) L X.2.1 (nx (σ 5) L X.2.2) n7))) S kv_X4_275 (c_X4_itemHere l D cI cJ a X.2.1 σ L (nx (σ 5) L X.2.2) hL hL120 (nx_le (hXL)) hby n7 hI7.wk) hK hP hD hS hA ([]) ([]) rfl rfl MW_fst rfl ⟨Nat.le_of_ble_eq_true rfl, Nat.le_of_ble_eq_true rfl⟩ hl.1 rfl rfl (Nat.le_of_ble_eq_true rfl) (Nat.zero_le _) (Nat.zero_le _) dX4_text_44 (fun H locs hP hD hS => ?_)
          refine lv_istore_n (lv' := [(2, .int (bI ((iT (σ 5) L X.2.1 (nx (σ 5) L X.2.2) n7).1 = true))), (0, .ref (a 0)), (1, .int (nI ct))]) hx hb dX4_text_47 rfl hl (by decide) rfl (fun ls hl => ?_)
          refine lv_iinc (v := nI (ct + 1)) (lv' := [(1, .int (nI (ct + 1))), (2, .int (bI ((iT (σ 5) L X.2.1 (nx (σ 5) L X.2.2) n7).1 = true))), (0, .ref (a 0))]) hx hb dX4_text_48 hl (k := 2) rfl (q_inc _) (by decide) rfl (fun ls hl => ?_)
          refine lv_goto (tgt := 27) hx hb dX4_text_51 (by decide) ?_
          exact ih_27 (iT (σ 5) L X.2.1 (nx (σ 5) L X.2.2) n7) (ct + 1) _ _ ls (by omega) (iT_le (nx_le hXL)) (by omega) (by have h2 := iT_ge (b := σ 5) (f := X.2.1) (n := n7) (nx_le (b := σ 5) hXL); omega) (iT_iv hI7) (by rw [← hT, show 121 - ct = (121 - (ct + 1)) + 1 by omega, txL_1 ⟨c_28, c_36⟩, hn7]) hP hD hS (lv_sub hl [2, 0, 1] rfl)
  exact L_27 ((121 - 1) + 1) (iT (σ 5) L f (sS (σ 5) L 0) n) 1 _ _ ls (Nat.lt_succ_self _) (iT_le (sS_le (Nat.zero_le L)).2) (by omega) (by omega) (iT_iv hI) (by unfold txA; rw [hI.nO]) hP hD hS (lv_sub hl [2, 1, 0] rfl)

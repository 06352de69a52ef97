set_option maxRecDepth 100000 in
set_option maxHeartbeats 4000000 in
theorem whole_start {p : Program} {e : Env} {s : State} {m : MethodId} {below : List Frame} {meth : Method} {c : Code} (l : Launch) (hflags : l.flags = flags0) {b L : Nat} {xs : Nat → Int32} (hL : L ≤ 3072) (C0 : lw_At p s m meth c b L xs) : W p l e room_1 s m #[Value.ref b] below meth c s.heap [] 0 0 (lw_Z below #[Value.ref b] s) (entryFrame m ([Value.ref b] : List Value).toArray 4) := by
  obtain ⟨hx, hb, hr, hml, hown, hts, hX, hbl, hlk, hgv⟩ := C0
  have hf : ∀ w ∈ fl0, w.before #[Value.ref b] s = true := flat_of_before _ hgv
  have hUU : ∀ w ∈ lwU, w.before #[Value.ref b] s = true := fun w hw => hts w (lwU_in hw)
  have S : CallFix p m c cL_law 4 s #[Value.ref b] lwU RL := ⟨hx, hb, hml, hown, hUU⟩
  obtain ⟨-, -, -, -, hU⟩ := id S
  have hE := st_EC hts
  obtain ⟨D, cI, cJ, hK⟩ := st_KK hUU hE.2.2
  obtain ⟨A, hAd⟩ : ∃ A : Nat → Prop, A = fun q => s.heap.size ≤ q := ⟨_, rfl⟩
  have hA : ∀ q : Nat, s.heap.size ≤ q → A q := fun q h => by rw [hAd]; exact h
  have hA2 : ∀ q : Nat, A q → s.heap.size ≤ q := fun q h => by rw [hAd] at h; exact h
  have hA3 : ∀ q : Nat, q < s.heap.size → ¬ A q := fun q h1 h2 => absurd (hA2 q h2) (by omega)
  obtain ⟨mt, ka, hSZ⟩ := st_SZ (A := A) hts hf hA3
  obtain ⟨kk, vv, hSY⟩ := st_SY (A := A) hts hf hA3
  have hC : LC p s m c b L xs A D cI cJ mt ka kk vv := ⟨S, hK, ⟨hSZ, hSY⟩, hX, hbl, hA3 b hbl, hA⟩
  have hS : va_S A s.heap s.heap [] := va_S.rf
  have hP : va_P D vwCl [] s.heap := va_P_nil
  have hD : va_D A [] := ⟨fun i j p q hi => by simp at hi, fun k q hk => by simp at hk⟩
  have hl := lv_entry ([.ref b]) (n := 4) (Nat.le_of_ble_eq_true rfl)
  rw [lg_entry_eq]
  generalize (lg_sl ([.ref b]) ++ List.replicate (4 - (lg_sl ([.ref b])).length) Slot.unset).toArray = ls at hl ⊢
  have hl : lv_has ls 4 [(0, .ref b)] := hl
  refine va_new (ci := 3) (fs := [.null, .null, .null, .int 0, .null, .null, .null]) (C := RX3) (T := TX3) (N := 7) hx hb hU mD_X3 tyX3 tyX3_ok hown (hU _ mW_L_7) (hU _ mM_X3) (hU _ mN_X3) hK hP hD hS hA rfl (fun j hj => by rcases (show j = 0 ∨ j = 1 ∨ j = 2 ∨ j = 3 ∨ j = 4 ∨ j = 5 ∨ j = 6 by omega) with rfl | rfl | rfl | rfl | rfl | rfl | rfl <;> rfl) (Nat.le_of_ble_eq_true rfl) (Nat.le_of_ble_eq_true rfl) dL_law_0 (fun q0 H hP hD hS => ?_)
  refine lv_dup hx hb dL_law_3 rfl ?_
  refine CT.callI S ⟨mL_L_9, mN_X3, mI_X3_init, mC_X3_init⟩ rfl ⟨by decide +kernel, by decide +kernel, by decide +kernel⟩ (c_X3_init l D cI cJ q0) hK hE hP hD hS hA ([]) rfl ⟨(Nat.le_of_ble_eq_true rfl), (Nat.le_of_ble_eq_true rfl)⟩ hl.1 (rest := [.ref q0]) (Nat.le_of_ble_eq_true rfl) (Nat.le_of_ble_eq_true rfl) (Nat.le_of_ble_eq_true rfl) dL_law_4 (fun t H9 locs9 h9 hP9 hD9 hS9 => ?_)
  subst h9
  have hP := hP9
  have hD := hD9
  have hS := hS9
  rw [List.nil_append] at hP hD
  refine lv_astore_n (lv' := [(1, .ref (t 0)), (0, .ref b)]) hx hb dL_law_7 rfl hl (by decide) rfl (fun ls hl => ?_)
  refine va_new (ci := 4) (fs := [.null, .null, .null, .null, .int 0, .null, .null, .int 0, .null, .null, .null, .int 0, .int 0, .int 0, .int 0, .int 0, .int 0, .int 0]) (C := RX4) (T := TX4) (N := 18) hx hb hU mD_X4 tyX4 tyX4_ok hown (hU _ mW_L_10) (hU _ mM_X4) (hU _ mN_X4) hK hP hD hS hA rfl (fun j hj => by rcases (show j = 0 ∨ j = 1 ∨ j = 2 ∨ j = 3 ∨ j = 4 ∨ j = 5 ∨ j = 6 ∨ j = 7 ∨ j = 8 ∨ j = 9 ∨ j = 10 ∨ j = 11 ∨ j = 12 ∨ j = 13 ∨ j = 14 ∨ j = 15 ∨ j = 16 ∨ j = 17 by omega) with rfl | rfl | rfl | rfl | rfl | rfl | rfl | rfl | rfl | rfl | rfl | rfl | rfl | rfl | rfl | rfl | rfl | rfl <;> rfl) (Nat.le_of_ble_eq_true rfl) (Nat.le_of_ble_eq_true rfl) dL_law_8 (fun q8 H hP hD hS => ?_)
  refine lv_dup hx hb dL_law_11 rfl ?_
  refine CT.callI S ⟨mL_L_12, mN_X4, mI_X4_init, mC_X4_init⟩ rfl ⟨by decide +kernel, by decide +kernel, by decide +kernel⟩ (c_X4_init l D cI cJ q8) hK hE hP hD hS hA (TW cI cJ t nF nF nF (fun _ => zF)) rfl ⟨(Nat.le_of_ble_eq_true rfl), (Nat.le_of_ble_eq_true rfl)⟩ hl.1 (rest := [.ref q8]) (Nat.le_of_ble_eq_true rfl) (Nat.le_of_ble_eq_true rfl) (Nat.le_of_ble_eq_true rfl) dL_law_12 (fun a H9 locs9 h9 hP9 hD9 hS9 => ?_)
  subst h9
  have hP := hP9
  have hD := hD9
  have hS := hS9
  refine lv_astore_n (lv' := [(2, .ref (a 0)), (1, .ref (t 0)), (0, .ref b)]) hx hb dL_law_15 rfl hl (by decide) rfl (fun ls hl => ?_)
  refine lv_iconst (v := nI (6 * 0)) hx hb dL_law_16 (by decide) ?_
  refine lv_istore_n (lv' := [(3, .int (nI (6 * 0))), (2, .ref (a 0)), (1, .ref (t 0)), (0, .ref b)]) hx hb dL_law_17 rfl hl (by decide) rfl (fun ls hl => ?_)
  refine W.widen (k := 600000) (n := 7302250) (Nat.le_of_ble_eq_true rfl) (Nat.le_of_ble_eq_true rfl) ?_
  have LP : ∀ (n9 i : Nat) (f g h : Nat → Int32) (τ σ : Nat → Nat → Int32) (H : Heap) (locs : List Loc) (ls : Array Slot), 513 - i < n9 → i ≤ 512 → ST i f h τ σ → va_P D vwCl (TW cI cJ t f g h τ ++ MW cI a f σ) H → va_D A (TW cI cJ t f g h τ ++ MW cI a f σ) → va_S A s.heap H locs → lv_has ls 4 [(3, .int (nI (6 * i))), (2, .ref (a 0)), (1, .ref (t 0)), (0, .ref b)] → W p l e room_1 s m #[Value.ref b] below meth c H locs 600000 7302250 (lw_Z below #[Value.ref b] s) (F0 m 18 ls []) := by
    intro n9
    induction n9 with
    | zero => intro i f g h τ σ H locs ls hm; exact absurd hm (Nat.not_lt_zero _)
    | succ n9 ih =>
      intro i f g h τ σ H locs ls hmeas hi hT hP hD hS hl
      refine lv_iload_n hx hb dL_law_18 rfl (lv_at hl 0 rfl) ?_
      refine lv_aload_n hx hb dL_law_19 rfl (lv_at hl 3 rfl) ?_
      refine va_slen hx hb hX hbl (hA3 b hbl) hS dL_law_20 ?_
      refine lv_bipush (v := nI 6) hx hb dL_law_21 (by decide) ?_
      refine lv_isub hx hb dL_law_23 ?_
      have hsub : (nI L - nI 6).toInt = (L : Int) - 6 := pk_sub_toInt (by omega) (by decide)
      have hcmp : (nI L - nI 6 < nI (6 * i)) ↔ L < 6 * i + 6 := by
        rw [Int32.lt_iff_toInt_lt, hsub, nI_toInt (by omega)]
        omega
      refine lv_icmp_gt (tgt := 1503) hx hb dL_law_24 (by decide) (fun c24 => ?_) (fun c24 => ?_)
      · refine lv_iconst (v := 1) hx hb dL_law_1503 (by decide) ?_
        exact W.forgetAll (fun q hq => hA2 _ (hS.2.2 q hq)) (lw_ret hx hb hr hlk dL_law_1504)
      · have hi6 : 6 * i + 6 ≤ L := Nat.not_lt.mp (fun q => c24 (hcmp.mpr q))
        have K : KJ p l e s m below meth c b A D cI cJ t a i ls := by
          intro f g h τ σ H locs hT hP hD hS
          refine lv_iinc (v := nI (6 * (i + 1))) (lv' := [(3, .int (nI (6 * (i + 1)))), (2, .ref (a 0)), (1, .ref (t 0)), (0, .ref b)]) hx hb dL_law_1497 hl (k := 0) rfl (by rw [show 6 * (i + 1) = 6 * i + 6 by omega, ← nI_add]; rfl) (by decide) rfl (fun ls hl => ?_)
          refine lv_goto (tgt := 18) hx hb dL_law_1500 (by decide) ?_
          exact ih (i + 1) f g h τ σ H locs ls (by omega) (by omega) hT hP hD hS hl
        refine lv_aload_n hx hb dL_law_27 rfl (lv_at hl 3 rfl) ?_
        refine lv_iload_n hx hb dL_law_28 rfl (lv_at hl 0 rfl) ?_
        refine va_sld hx hb hX hbl (hA3 b hbl) hS (i := nI (6 * i)) (vp_in_nI (by omega) (by omega)) dL_law_29 ?_
        refine lv_bipush (v := nI 63) hx hb dL_law_30 (by decide) ?_
        refine lv_iand hx hb dL_law_32 ?_
        obtain ⟨k, hk, ek⟩ := pk_andE (xs (nI (6 * i)).toNatClampNeg) (m := nI 63) 6 (by decide)
        refine q_eqi ek ?_
        rcases (show k = 0 ∨ k = 1 ∨ k = 2 ∨ k = 3 ∨ k = 4 ∨ k = 5 ∨ k = 6 ∨ k = 7 ∨ k = 8 ∨ k = 9 ∨ k = 10 ∨ k = 11 ∨ k = 12 ∨ k = 13 ∨ k = 14 ∨ k = 15 ∨ k = 16 ∨ k = 17 ∨ k = 18 ∨ k = 19 ∨ k = 20 ∨ k = 21 ∨ k = 22 ∨ k = 23 ∨ k = 24 ∨ k = 25 ∨ k = 26 ∨ k = 27 ∨ k = 28 ∨ k = 29 ∨ k = 30 ∨ k = 31 ∨ k = 32 ∨ k = 33 ∨ k = 34 ∨ k = 35 ∨ k = 36 ∨ k = 37 ∨ k = 38 ∨ k = 39 ∨ k = 40 ∨ k = 41 ∨ k = 42 ∨ k = 43 ∨ 44 ≤ k by omega) with rfl | rfl | rfl | rfl | rfl | rfl | rfl | rfl | rfl | rfl | rfl | rfl | rfl | rfl | rfl | rfl | rfl | rfl | rfl | rfl | rfl | rfl | rfl | rfl | rfl | rfl | rfl | rfl | rfl | rfl | rfl | rfl | rfl | rfl | rfl | rfl | rfl | rfl | rfl | rfl | rfl | rfl | rfl | rfl | hk44
        · refine lv_tableIn (tgt := 224) hx hb dL_law_33 (by decide) (by decide) rfl (by decide) ?_
          exact lw_c0 hC hi6 hL hT hP hD hS hl K
        · refine lv_tableIn (tgt := 257) hx hb dL_law_33 (by decide) (by decide) rfl (by decide) ?_
          exact lw_c1 hC hi6 hL hT hP hD hS hl K
        · refine lv_tableIn (tgt := 290) hx hb dL_law_33 (by decide) (by decide) rfl (by decide) ?_
          exact lw_c2 hC hi6 hL hT hP hD hS hl K
        · refine lv_tableIn (tgt := 323) hx hb dL_law_33 (by decide) (by decide) rfl (by decide) ?_
          exact lw_c3 hC hi6 hL hT hP hD hS hl K
        · refine lv_tableIn (tgt := 356) hx hb dL_law_33 (by decide) (by decide) rfl (by decide) ?_
          exact lw_c4 hC hi6 hL hT hP hD hS hl K
        · refine lv_tableIn (tgt := 389) hx hb dL_law_33 (by decide) (by decide) rfl (by decide) ?_
          exact lw_c5 hC hi6 hL hT hP hD hS hl K
        · refine lv_tableIn (tgt := 432) hx hb dL_law_33 (by decide) (by decide) rfl (by decide) ?_
          exact lw_c6 hC hi6 hL hT hP hD hS hl K
        · refine lv_tableIn (tgt := 455) hx hb dL_law_33 (by decide) (by decide) rfl (by decide) ?_
          exact lw_c7 hC hi6 hL hT hP hD hS hl K
        · refine lv_tableIn (tgt := 478) hx hb dL_law_33 (by decide) (by decide) rfl (by decide) ?_
          exact lw_c8 hC hi6 hL hT hP hD hS hl K
        · refine lv_tableIn (tgt := 501) hx hb dL_law_33 (by decide) (by decide) rfl (by decide) ?_
          exact lw_c9 hC hi6 hL hT hP hD hS hl K
        · refine lv_tableIn (tgt := 544) hx hb dL_law_33 (by decide) (by decide) rfl (by decide) ?_
          exact lw_c10 hC hi6 hL hT hP hD hS hl K
        · refine lv_tableIn (tgt := 567) hx hb dL_law_33 (by decide) (by decide) rfl (by decide) ?_
          exact lw_c11 hC hi6 hL hT hP hD hS hl K
        · refine lv_tableIn (tgt := 590) hx hb dL_law_33 (by decide) (by decide) rfl (by decide) ?_
          exact lw_c12 hC hi6 hL hT hP hD hS hl K
        · refine lv_tableIn (tgt := 623) hx hb dL_law_33 (by decide) (by decide) rfl (by decide) ?_
          exact lw_c13 hC hi6 hL hT hP hD hS hl K
        · refine lv_tableIn (tgt := 646) hx hb dL_law_33 (by decide) (by decide) rfl (by decide) ?_
          exact lw_c14 hC hi6 hL hT hP hD hS hl K
        · refine lv_tableIn (tgt := 679) hx hb dL_law_33 (by decide) (by decide) rfl (by decide) ?_
          exact lw_c15 hC hi6 hL hT hP hD hS hl K
        · refine lv_tableIn (tgt := 712) hx hb dL_law_33 (by decide) (by decide) rfl (by decide) ?_
          exact lw_c16 hC hi6 hL hT hP hD hS hl K
        · refine lv_tableIn (tgt := 745) hx hb dL_law_33 (by decide) (by decide) rfl (by decide) ?_
          exact lw_c17 hC hi6 hL hT hP hD hS hl K
        · refine lv_tableIn (tgt := 778) hx hb dL_law_33 (by decide) (by decide) rfl (by decide) ?_
          exact lw_c18 hC hi6 hL hT hP hD hS hl K
        · refine lv_tableIn (tgt := 811) hx hb dL_law_33 (by decide) (by decide) rfl (by decide) ?_
          exact lw_c19 hC hi6 hL hT hP hD hS hl K
        · refine lv_tableIn (tgt := 834) hx hb dL_law_33 (by decide) (by decide) rfl (by decide) ?_
          exact lw_c20 hC hi6 hL hT hP hD hS hl K
        · refine lv_tableIn (tgt := 857) hx hb dL_law_33 (by decide) (by decide) rfl (by decide) ?_
          exact lw_c21 hC hi6 hL hT hP hD hS hl K
        · refine lv_tableIn (tgt := 880) hx hb dL_law_33 (by decide) (by decide) rfl (by decide) ?_
          exact lw_c22 hC hi6 hL hT hP hD hS hl K
        · refine lv_tableIn (tgt := 913) hx hb dL_law_33 (by decide) (by decide) rfl (by decide) ?_
          exact lw_c23 hC hi6 hL hT hP hD hS hl K
        · refine lv_tableIn (tgt := 946) hx hb dL_law_33 (by decide) (by decide) rfl (by decide) ?_
          exact lw_c24 hC hi6 hL hT hP hD hS hl K
        · refine lv_tableIn (tgt := 979) hx hb dL_law_33 (by decide) (by decide) rfl (by decide) ?_
          exact lw_c25 hC hi6 hL hT hP hD hS hl K
        · refine lv_tableIn (tgt := 1012) hx hb dL_law_33 (by decide) (by decide) rfl (by decide) ?_
          exact lw_c26 hC hi6 hL hT hP hD hS hl K
        · refine lv_tableIn (tgt := 1035) hx hb dL_law_33 (by decide) (by decide) rfl (by decide) ?_
          exact lw_c27 hC hi6 hL hT hP hD hS hl K
        · refine lv_tableIn (tgt := 1069) hx hb dL_law_33 (by decide) (by decide) rfl (by decide) ?_
          exact lw_c28 hC hi6 hL hT hP hD hS hl K
        · refine lv_tableIn (tgt := 1092) hx hb dL_law_33 (by decide) (by decide) rfl (by decide) ?_
          exact lw_c29 hC hi6 hL hT hP hD hS hl K
        · refine lv_tableIn (tgt := 1125) hx hb dL_law_33 (by decide) (by decide) rfl (by decide) ?_
          exact lw_c30 hC hi6 hL hT hP hD hS hl K
        · refine lv_tableIn (tgt := 1138) hx hb dL_law_33 (by decide) (by decide) rfl (by decide) ?_
          exact lw_c31 hC hi6 hL hT hP hD hS hl K
        · refine lv_tableIn (tgt := 1151) hx hb dL_law_33 (by decide) (by decide) rfl (by decide) ?_
          exact lw_c32 hC hi6 hL hT hP hD hS hl K
        · refine lv_tableIn (tgt := 1184) hx hb dL_law_33 (by decide) (by decide) rfl (by decide) ?_
          exact lw_c33 hC hi6 hL hT hP hD hS hl K
        · refine lv_tableIn (tgt := 1217) hx hb dL_law_33 (by decide) (by decide) rfl (by decide) ?_
          exact lw_c34 hC hi6 hL hT hP hD hS hl K
        · refine lv_tableIn (tgt := 1260) hx hb dL_law_33 (by decide) (by decide) rfl (by decide) ?_
          exact lw_c35 hC hi6 hL hT hP hD hS hl K
        · refine lv_tableIn (tgt := 1303) hx hb dL_law_33 (by decide) (by decide) rfl (by decide) ?_
          exact lw_c36 hC hi6 hL hT hP hD hS hl K
        · refine lv_tableIn (tgt := 1366) hx hb dL_law_33 (by decide) (by decide) rfl (by decide) ?_
          exact lw_c37 hC hi6 hL hT hP hD hS hl K
        · refine lv_tableIn (tgt := 1389) hx hb dL_law_33 (by decide) (by decide) rfl (by decide) ?_
          exact lw_c38 hC hi6 hL hT hP hD hS hl K
        · refine lv_tableIn (tgt := 1412) hx hb dL_law_33 (by decide) (by decide) rfl (by decide) ?_
          exact lw_c39 hC hi6 hL hT hP hD hS hl K
        · refine lv_tableIn (tgt := 1425) hx hb dL_law_33 (by decide) (by decide) rfl (by decide) ?_
          exact lw_c40 hC hi6 hL hT hP hD hS hl K
        · refine lv_tableIn (tgt := 1438) hx hb dL_law_33 (by decide) (by decide) rfl (by decide) ?_
          exact lw_c41 hC hi6 hL hT hP hD hS hl K
        · refine lv_tableIn (tgt := 1451) hx hb dL_law_33 (by decide) (by decide) rfl (by decide) ?_
          exact lw_c42 hC hi6 hL hT hP hD hS hl K
        · refine lv_tableIn (tgt := 1474) hx hb dL_law_33 (by decide) (by decide) rfl (by decide) ?_
          exact lw_c43 hC hi6 hL hT hP hD hS hl K
        · refine lv_tableOut (tgt := 1497) hx hb dL_law_33 (Or.inr (by rw [nI_toInt (by omega)]; omega)) (by decide) ?_
          exact K f g h τ σ H locs hT.up hP hD hS
  exact LP 514 0 nF nF nF (fun _ => zF) sg0 _ _ ls (by decide) (by decide) ST_0 hP hD hS hl
set_option maxHeartbeats 4000000 in
theorem lw_walk (l : Launch) (hflags : l.flags = flags0) (b : Addr) (xs : List Int32) : MetFree l x (headSpec (Jvm.Cond.code x code maxLocals ret :: tables_1) room_1) (lw_P b xs) (fun _ _ _ _ _ => True) lw_Q := by
  refine MetFree.of_bodyS (code := code) (maxLocals := maxLocals) (ret := ret) (by decide) ?_ ?_
  · intro args s m h hn
    obtain ⟨meth, c, h1, h2, h3, h4, h5, h6, -, -⟩ := Cond.code_spec hn (atoms_spec (ws := Jvm.Cond.code x code maxLocals ret :: tables_1) h _ List.mem_cons_self)
    exact ⟨meth, c, h1, h2, h3, h4, h5, h6⟩
  · intro p e s m args below meth c s₁ B hml0 hP _
    obtain ⟨rfl, hx, hbd, hgv⟩ := hP
    obtain ⟨scr, harrAt, hlist, hof, hsmall⟩ := hx
    obtain ⟨hcb, hkn, -, -⟩ := State.arrayAt?_spec harrAt
    have hown : s.vm.findClass R_law = some m.cls := findClass_of_methodNamed B.named
    have hts0 : ∀ c ∈ (Jvm.Cond.code x code maxLocals ret :: tables_1), c.before #[Value.ref b] s = true := atoms_spec (ws := Jvm.Cond.code x code maxLocals ret :: tables_1) B.pre
    have hts : ∀ w ∈ lw_tbl, w.before #[Value.ref b] s = true := k2_hts_sels lw_privs (fun w hw => hts0 w (List.mem_cons_of_mem _ hw)) lw_privs_ok
    have hml : c.maxLocals = 4 := B.maxLocals_eq (hts0 _ List.mem_cons_self)
    have X₀ : Stand p l e room_1 s m #[Value.ref b] below meth c s₁ [] 0 0 := Stand.of_body B
    have hh0 : s₁.heap = s.heap := by rw [B.state]; rfl
    have hsz : scr.slots.size = xs.length := by rw [← Array.length_toList, hlist, List.length_map]
    have hval : ∀ j : Nat, j < xs.length → scr.slots[j]? = some (.int (xs.getD j 0)) := fun j hj => by
      rw [← Array.getElem?_toList, hlist]
      simp [hj]
    have hbl : b < s.heap.size := (Array.getElem?_eq_some_iff.mp hcb).1
    have hX : va_X b xs.length (fun j => xs.getD j 0) s s.heap := ⟨scr, hcb, hof, hkn, hsz, hval⟩
    have K : W p l e room_1 s m #[Value.ref b] below meth c s₁.heap [] 0 0 (lw_Z below #[Value.ref b] s) (entryFrame m ([Value.ref b] : List Value).toArray 4) := by
      rw [hh0]
      exact whole_start l hflags hbd ⟨B.exec, B.bytes, B.returns, hml, hown, hts, hX, hbl, B.notSynchronized, hgv⟩
    obtain ⟨t, a1, o, b1, b2, b3⟩ := K s₁ rfl X₀
    exact ⟨t, o, a1, b1, b2, b3⟩
theorem lw_pre_spec {args : Array Value} {s : State} (h : (Jvm.Cond.and given_1 narrow_1).before args s = true) (hr : rest_1_c.before args s = true) : ∃ (b : Addr) (xs : List Int32), lw_P b xs args s := by
  have hs := flat_of_before _ h
  have hq := flat_of_before _ hr
  have hc : (Cond.count 1).before args s = true := hs _ (by decide +kernel)
  have harr : (Cond.arrayOf (.arg 0) .int).before args s = true := hs _ (by decide +kernel)
  have hle : (Cond.le (.length (.arg 0)) (.int 3072)).before args s = true := hs _ (by decide +kernel)
  have hlen : (Cond.isInt (.length (.arg 0))).before args s = true := hq _ (by decide +kernel)
  have hall : (Cond.all (.arg 0) (.isInt (.elem (.arg 0) (.index 0)))).before args s = true := hq _ (by decide +kernel)
  obtain ⟨b, xs, hb, hx⟩ := State.ints_of_pre rfl harr hlen hall
  have hsm : xs.length < 2 ^ 31 := hx.choose_spec.2.2.2
  have hev : (Term.length (.arg 0)).eval args s none [] s = some (.int xs.length.toInt32) := hx.length_eval hb
  have hv := Cond.le_ints hev (show (Term.int 3072).eval args s none [] s = some (.int 3072) from rfl)
  have hd : xs.length.toInt32 ≤ 3072 := by
    simpa [Cond.before, Cond.holds, hv] using hle
  have hN : xs.length ≤ 3072 := (Int32.ofNat_le_ofNat hsm (by decide)).mp (show Int32.ofNat xs.length ≤ Int32.ofNat 3072 from hd)
  exact ⟨b, xs, Cond.one_arg hc (show args[0]? = some (.ref b) from hb), hx, hN, h⟩
theorem lw_comes (l : Launch) (hflags : l.flags = flags0) : Comes l x (Jvm.Cond.code x code maxLocals ret :: tables_1) room_1 (fun tb e args s => Calls_1 tb e args s ∧ rest_1 tb e args s ∧ Pre_1 tb e args s)
    (fun _ _ args s o t => lw_Q args s o t) := by
  intro p e ha hc hk s m args below hf hfit hheap happ hpre
  obtain ⟨b, xs, hP⟩ := lw_pre_spec hpre.2.2 hpre.2.1
  obtain ⟨k, o, h1, h2, h3, hQ⟩ := lw_walk l hflags b xs p e ha hc hk s m args below hf ((Spec.applies_iff_loose hf).mp happ).1 hP trivial
  exact ⟨k, o, h1, h2, h3, hQ⟩
theorem lw_frame {s t : State} {o : Outcome} {args : Array Value} (h : Framed s o t [] 600000 7302250) :
    Framed s o t (fieldLocs frame_1_writes args s ++ arrayLocs frame_1_arrays args s ++ staticLocs frame_1_statics s) 600000 7302250 := h
theorem lw_limb (L : Cond) (hL : ∀ (args : Array Value) (s t : State), L.after args s (.returned (some (.int 1))) t = true) :
    ArmFor flags0 classFile x code maxLocals ret World_1 tables_1 room_1 Calls_1 rest_1 Pre_1
      (fun tb e a s o t => postC L tb e a s o t ∧ Framed s o t (fieldLocs frame_1_writes a s ++ arrayLocs frame_1_arrays a s ++ staticLocs frame_1_statics s) 600000 7302250) := by
  intro l hflags _ _ p e ha hc hk s m args below hf hfit hheap happ hpre
  obtain ⟨k, o, h1, h2, h3, rfl, hF⟩ := lw_comes l hflags p e ha hc hk s m args below hf hfit hheap happ hpre
  exact ⟨k, _, h1, h2, h3, hL args s _, lw_frame hF⟩
theorem i_vc : Claimed_1_1 ∧ Claimed_1_2 := ⟨lw_limb limb_1_1 (fun args s t => by simp [limb_1_1, Cond.after, Cond.holds, Cond.value]), lw_limb limb_1_2 (fun args s t => Cond.after_iff.mpr (by
  first | (rw [show limb_1_2 = Cond.eq .result (.int 1) from rfl, Cond.eq_ints (x := 1) (y := 1) rfl rfl]; simp; done) | (simp [limb_1_2, Cond.value, Term.eval]; done)))⟩


def ush (x : Int32) (y : Int32) : Int32 := (x.toUInt32 >>> (y.toUInt32 &&& Int32.toUInt32 31)).toInt32
def bc1 (x : Int32) : Int32 := x - (ush x (nI 1) &&& nI 1431655765)
def bc2 (x : Int32) : Int32 := (x &&& nI 858993459) + (ush x (nI 2) &&& nI 858993459)
def bc3 (x : Int32) : Int32 := (x + ush x (nI 4)) &&& nI 252645135
def bc4 (x : Int32) : Int32 := x + ush x (nI 8)
def bc5 (x : Int32) : Int32 := x + ush x (nI 16)
theorem bc_all : ∀ q, q < 256 → nI (popc q) = (bc5 (bc4 (bc3 (bc2 (bc1 (nI q)))))) &&& nI 63 := by decide +kernel
theorem popc_pw : ∀ n, n ≤ 8 → ∀ s, s < 2 ^ n → popc s ≤ n := by decide +kernel
theorem sMe_1d {f : Nat → Int32} {s n : Nat} (h : n ≤ 8) : sMe f s n 1 = f 1 := (sMe_kp (by omega)).d
theorem sEs_all {p : Nat → Bool} : ∀ {j : Nat}, (sEs p j = none → ∀ s, s < j → ¬ p s = true) ∧ (∀ b, sEs p j = some b → p b = true ∧ ∀ s, s < j → p s = true → popc b < popc s ∨ (popc b = popc s ∧ b ≤ s))
  | 0 => ⟨fun _ s h => absurd h (Nat.not_lt_zero s), fun b h => (by cases h)⟩
  | j + 1 => by
    have ih := sEs_all (p := p) (j := j)
    cases hE : sEs p j with
    | none =>
      by_cases c : p j = true
      · rw [sEs_n1 hE c]
        refine ⟨fun h => (by cases h), fun b h => ?_⟩
        cases h
        refine ⟨c, fun s hs h => ?_⟩
        by_cases e : s = j
        · subst e
          exact Or.inr ⟨rfl, Nat.le_refl _⟩
        · exact absurd h (ih.1 hE s (by omega))
      · rw [sEs_n0 hE c]
        refine ⟨fun _ s hs => ?_, fun b h => (by cases h)⟩
        by_cases e : s = j
        · subst e
          exact c
        · exact ih.1 hE s (by omega)
    | some q =>
      have hq := ih.2 q hE
      have hlt := sEs_lt hE
      by_cases c : popc j < popc q ∧ p j = true
      · rw [sEs_s1 hE c.1 c.2]
        refine ⟨fun h => (by cases h), fun b h => ?_⟩
        cases h
        refine ⟨c.2, fun s hs h => ?_⟩
        by_cases e : s = j
        · subst e
          exact Or.inr ⟨rfl, Nat.le_refl _⟩
        · have := hq.2 s (by omega) h
          exact Or.inl (by omega)
      · rw [sEs_s0 hE c]
        refine ⟨fun h => (by cases h), fun b h => ?_⟩
        cases h
        refine ⟨hq.1, fun s hs h => ?_⟩
        by_cases e : s = j
        · subst e
          by_cases c2 : popc s < popc q
          · exact absurd ⟨c2, h⟩ c
          · omega
        · exact hq.2 s (by omega) h
theorem sEs_lex {p : Nat → Bool} {N x : Nat} (hx : x < N) (hp : p x = true) (h1 : ∀ s, s < N → popc s < popc x → ¬ p s = true) (h2 : ∀ s, s < x → popc s = popc x → ¬ p s = true) : sEs p N = some x := by
  have ha := sEs_all (p := p) (j := N)
  cases hE : sEs p N with
  | none => exact absurd hp (ha.1 hE x hx)
  | some b =>
    have hb := ha.2 b hE
    have hlt := sEs_lt hE
    have h3 := hb.2 x hx hp
    have h4 : ¬ popc b < popc x := fun q => h1 b hlt q hb.1
    have h5 : ¬ (b < x ∧ popc b = popc x) := fun q => h2 b q.1 q.2 hb.1
    rw [show b = x by omega]
theorem sEs_nil {p : Nat → Bool} {N : Nat} (h : ∀ s, s < N → ¬ p s = true) : sEs p N = none := by
  cases hE : sEs p N with
  | none => rfl
  | some b => exact absurd (sEs_all.2 b hE).1 (h b (sEs_lt hE))
def lpt (p w : Nat) : Nat := if w = 0 then p / Nat.gcd 6 p else 6 / Nat.gcd 6 p
theorem lpt_le : ∀ p, p ≤ 6 → ∀ w, w ≤ 1 → lpt p w ≤ 6 := by decide +kernel
theorem lpt_pow0 : ∀ p, p ≤ 6 → ∀ q, q ≤ 23 → p ^ q / Nat.gcd (6 ^ q) (p ^ q) = (lpt p 0) ^ q := by decide +kernel
theorem lpt_pow1 : ∀ p, p ≤ 6 → ∀ q, q ≤ 23 → 6 ^ q / Nat.gcd (6 ^ q) (p ^ q) = (lpt p 1) ^ q := by decide +kernel
set_option maxRecDepth 100000 in
set_option maxHeartbeats 4000000 in
theorem c_J6_bitCount_0f7a4 (l : Launch) (D : va_G) (cI cJ : ClassId) (t : Nat → Nat) (f g h : Nat → Int32) (τ : Nat → Nat → Int32) (q : Nat) (hq : q < 256) : RO l yJ6_bitCount_0f7a4 cJ6_bitCount_0f7a4 1 (some .int) 0 D cI cJ (TW cI cJ t f g h τ) [.int (nI q)] (.int (nI (popc q))) := by
  refine RO.of (by decide) (Nat.le_of_ble_eq_true rfl) (fun p e s m below meth c ls S hr hlk hK hP hl => ?_)
  obtain ⟨hx, hb, hml, hown, hU⟩ := id S
  have hl : lv_has ls 1 [(0, .int (nI q))] := hl
  refine lv_iload_n hx hb dJ6_bitCount_0f7a4_0 rfl (lv_at hl 0 rfl) ?_
  refine lv_iload_n hx hb dJ6_bitCount_0f7a4_1 rfl (lv_at hl 0 rfl) ?_
  refine lv_iconst (v := nI 1) hx hb dJ6_bitCount_0f7a4_2 (by decide) ?_
  refine lv_iushr hx hb dJ6_bitCount_0f7a4_3 rfl ?_
  refine lv_ldcw (v := nI 1431655765) hx hb hown (hU _ mK_J6_265) dJ6_bitCount_0f7a4_4 ?_
  refine lv_iand hx hb dJ6_bitCount_0f7a4_7 ?_
  refine lv_isub hx hb dJ6_bitCount_0f7a4_8 ?_
  refine q_eqi (y := bc1 (nI q)) (rfl) ?_
  refine lv_istore_n (lv' := [(0, .int (bc1 (nI q)))]) hx hb dJ6_bitCount_0f7a4_9 rfl hl (by decide) rfl (fun ls hl => ?_)
  refine lv_iload_n hx hb dJ6_bitCount_0f7a4_10 rfl (lv_at hl 0 rfl) ?_
  refine lv_ldcw (v := nI 858993459) hx hb hown (hU _ mK_J6_266) dJ6_bitCount_0f7a4_11 ?_
  refine lv_iand hx hb dJ6_bitCount_0f7a4_14 ?_
  refine lv_iload_n hx hb dJ6_bitCount_0f7a4_15 rfl (lv_at hl 0 rfl) ?_
  refine lv_iconst (v := nI 2) hx hb dJ6_bitCount_0f7a4_16 (by decide) ?_
  refine lv_iushr hx hb dJ6_bitCount_0f7a4_17 rfl ?_
  refine lv_ldcw (v := nI 858993459) hx hb hown (hU _ mK_J6_266) dJ6_bitCount_0f7a4_18 ?_
  refine lv_iand hx hb dJ6_bitCount_0f7a4_21 ?_
  refine lv_iadd hx hb dJ6_bitCount_0f7a4_22 ?_
  refine q_eqi (y := bc2 (bc1 (nI q))) (rfl) ?_
  refine lv_istore_n (lv' := [(0, .int (bc2 (bc1 (nI q))))]) hx hb dJ6_bitCount_0f7a4_23 rfl hl (by decide) rfl (fun ls hl => ?_)
  refine lv_iload_n hx hb dJ6_bitCount_0f7a4_24 rfl (lv_at hl 0 rfl) ?_
  refine lv_iload_n hx hb dJ6_bitCount_0f7a4_25 rfl (lv_at hl 0 rfl) ?_
  refine lv_iconst (v := nI 4) hx hb dJ6_bitCount_0f7a4_26 (by decide) ?_
  refine lv_iushr hx hb dJ6_bitCount_0f7a4_27 rfl ?_
  refine lv_iadd hx hb dJ6_bitCount_0f7a4_28 ?_
  refine lv_ldcw (v := nI 252645135) hx hb hown (hU _ mK_J6_267) dJ6_bitCount_0f7a4_29 ?_
  refine lv_iand hx hb dJ6_bitCount_0f7a4_32 ?_
  refine q_eqi (y := bc3 (bc2 (bc1 (nI q)))) (rfl) ?_
  refine lv_istore_n (lv' := [(0, .int (bc3 (bc2 (bc1 (nI q)))))]) hx hb dJ6_bitCount_0f7a4_33 rfl hl (by decide) rfl (fun ls hl => ?_)
  refine lv_iload_n hx hb dJ6_bitCount_0f7a4_34 rfl (lv_at hl 0 rfl) ?_
  refine lv_iload_n hx hb dJ6_bitCount_0f7a4_35 rfl (lv_at hl 0 rfl) ?_
  refine lv_bipush (v := nI 8) hx hb dJ6_bitCount_0f7a4_36 (by decide) ?_
  refine lv_iushr hx hb dJ6_bitCount_0f7a4_38 rfl ?_
  refine lv_iadd hx hb dJ6_bitCount_0f7a4_39 ?_
  refine q_eqi (y := bc4 (bc3 (bc2 (bc1 (nI q))))) (rfl) ?_
  refine lv_istore_n (lv' := [(0, .int (bc4 (bc3 (bc2 (bc1 (nI q))))))]) hx hb dJ6_bitCount_0f7a4_40 rfl hl (by decide) rfl (fun ls hl => ?_)
  refine lv_iload_n hx hb dJ6_bitCount_0f7a4_41 rfl (lv_at hl 0 rfl) ?_
  refine lv_iload_n hx hb dJ6_bitCount_0f7a4_42 rfl (lv_at hl 0 rfl) ?_
  refine lv_bipush (v := nI 16) hx hb dJ6_bitCount_0f7a4_43 (by decide) ?_
  refine lv_iushr hx hb dJ6_bitCount_0f7a4_45 rfl ?_
  refine lv_iadd hx hb dJ6_bitCount_0f7a4_46 ?_
  refine q_eqi (y := bc5 (bc4 (bc3 (bc2 (bc1 (nI q)))))) (rfl) ?_
  refine lv_istore_n (lv' := [(0, .int (bc5 (bc4 (bc3 (bc2 (bc1 (nI q)))))))]) hx hb dJ6_bitCount_0f7a4_47 rfl hl (by decide) rfl (fun ls hl => ?_)
  refine lv_iload_n hx hb dJ6_bitCount_0f7a4_48 rfl (lv_at hl 0 rfl) ?_
  refine lv_bipush (v := nI 63) hx hb dJ6_bitCount_0f7a4_49 (by decide) ?_
  refine lv_iand hx hb dJ6_bitCount_0f7a4_51 ?_
  exact RO.iret S hr hlk (congrArg Value.int (bc_all q hq)) dJ6_bitCount_0f7a4_52
set_option maxRecDepth 100000 in
set_option maxHeartbeats 4000000 in
theorem c_X3_order_ok (l : Launch) (D : va_G) (cI cJ : ClassId) (t : Nat → Nat) (f g h : Nat → Int32) (τ : Nat → Nat → Int32) (v : Nat) (n : Nat) (hw : Wk f n) (hv : v ≤ 9999) : WR l yX3_order cX3_order 6 (some .int) 4 D cI cJ (TW cI cJ t f g h τ) [.ref (t 0), .int (nI v)] (some (.int (aN (oOr f n (nI v))))) (TW cI cJ t f g h (tgN τ (oOr f n (nI v)))) := by
  have h8 := hw.2.1
  have hp2 : 2 ^ n ≤ 256 := Nat.pow_le_pow_right (n := 2) (by decide) h8
  have hp1 : 1 ≤ 2 ^ n := Nat.one_le_two_pow
  refine WR.of (by decide) (Nat.le_of_ble_eq_true rfl) (fun p e s m below meth c ls A S hr hlk hK hP hD hS hA hl => ?_)
  obtain ⟨hx, hb, hml, hown, hU⟩ := id S
  have hl : lv_has ls 6 [(0, .ref (t 0)), (1, .int (nI v))] := hl
  refine lv_iload_n hx hb dX3_order_0 rfl (lv_at hl 1 rfl) ?_
  refine lv_sipush (v := nI 9999) hx hb dX3_order_1 (by decide) ?_
  refine RO.callS S ks_X3_44 (c_X3_isWithin l D cI cJ t f g h τ (nI v) (nI 9999)) hK hP ⟨Nat.le_of_ble_eq_true rfl, Nat.le_of_ble_eq_true rfl⟩ hl.1 rfl rfl (Nat.le_of_ble_eq_true rfl) (Nat.zero_le _) (Nat.zero_le _) dX3_order_4 ?_
  refine q_if_neB (tgt := 16) hx hb dX3_order_7 (by decide) (fun _ => ?_) (fun h => absurd (⟨nI_le (by omega) (by omega), nI_le (by omega) (by omega)⟩) h)
  refine lv_aload_n hx hb dX3_order_16 rfl (lv_at hl 0 rfl) ?_
  refine g3_live S hK hP dX3_order_17 ?_
  refine RO.callV S kv_X3_109 (c_X0_allCasks l D cI cJ (sf t 1) f n (hw)) hK (TW_live hP) rfl ⟨Nat.le_of_ble_eq_true rfl, Nat.le_of_ble_eq_true rfl⟩ hl.1 rfl rfl (Nat.le_of_ble_eq_true rfl) (Nat.zero_le _) (Nat.zero_le _) dX3_order_20 ?_
  refine lv_istore_n (lv' := [(2, .int (nI (2 ^ n - 1))), (0, .ref (t 0)), (1, .int (nI v))]) hx hb dX3_order_23 rfl hl (by decide) rfl (fun ls hl => ?_)
  refine lv_iconst (v := (-1)) hx hb dX3_order_24 (by decide) ?_
  refine lv_istore_n (lv' := [(3, .int (-1)), (2, .int (nI (2 ^ n - 1))), (0, .ref (t 0)), (1, .int (nI v))]) hx hb dX3_order_25 rfl hl (by decide) rfl (fun ls hl => ?_)
  refine lv_iconst (v := nI 0) hx hb dX3_order_26 (by decide) ?_
  refine lv_istore (lv' := [(4, .int (nI 0)), (3, .int (-1)), (2, .int (nI (2 ^ n - 1))), (0, .ref (t 0)), (1, .int (nI v))]) hx hb dX3_order_27 hl (by decide) rfl (fun ls hl => ?_)
  have L_29 : ∀ (n9 : Nat) (j : Nat) (H : Heap) (locs : List Loc) (ls : Array Slot), 2 ^ n - j < n9 → (j ≤ 2 ^ n) → va_P D vwCl (TW cI cJ t f g h τ) H → va_D A (TW cI cJ t f g h τ) → va_S A s.heap H locs → lv_has ls 6 [(0, .ref (t 0)), (1, .int (nI v)), (2, .int (nI (2 ^ n - 1))), (3, .int (oI (sEs (fun s => decide (sBn f n s n = nI v)) j))), (4, .int (nI j))] → W p l e (rmd 4) s m ([.ref (t 0), .int (nI v)] : List Value).toArray below meth c H locs 0 0 (ZW below ([.ref (t 0), .int (nI v)] : List Value).toArray s D (some (.int (aN (oOr f n (nI v))))) (TW cI cJ t f g h (tgN τ (oOr f n (nI v)))) A) (F0 m 29 ls []) := by
    intro n9
    induction n9 with
    | zero => intro j H locs ls hmeas; exact absurd hmeas (Nat.not_lt_zero _)
    | succ n9 ih_29 =>
      intro j H locs ls hmeas hj hP hD hS hl
      cases hE : sEs (fun s => decide (sBn f n s n = nI v)) j with
      | none =>
        have hl : lv_has ls 6 [(0, .ref (t 0)), (1, .int (nI v)), (2, .int (nI (2 ^ n - 1))), (3, .int (-1)), (4, .int (nI j))] := by rw [hE] at hl; exact hl
        have hq1 := popc_le j
        refine lv_iload hx hb dX3_order_29 (lv_at hl 4 rfl) ?_
        refine lv_iload_n hx hb dX3_order_31 rfl (lv_at hl 2 rfl) ?_
        refine q_icmp_gtN (tgt := 85) (a := j) (b := 2 ^ n - 1) hx hb dX3_order_32 (by decide) (by omega) (by omega) (fun c_32 => ?_) (fun c_32 => ?_)
        · have hEn : oOr f n (nI v) = none := by rw [show j = 2 ^ n by omega] at hE; exact hE
          refine lv_iload_n hx hb dX3_order_85 rfl (lv_at hl 3 rfl) ?_
          refine lv_if_ge (tgt := 97) hx hb dX3_order_86 (by decide) (fun h => absurd h (by decide)) (fun _ => ?_)
          refine lv_aload_n hx hb dX3_order_89 rfl (lv_at hl 0 rfl) ?_
          refine lv_iconst (v := nI 3) hx hb dX3_order_90 (by decide) ?_
          refine WR.callV (w1 := TW cI cJ t f g h (va_up τ 9 (cFi (τ 9) 3))) S kv_X3_48 (c_X3_fd3 l D cI cJ t f g h τ) hK hP hD hS hA ([]) ([]) (List.append_nil _).symm (List.append_nil _).symm TW_fst rfl ⟨Nat.le_of_ble_eq_true rfl, Nat.le_of_ble_eq_true rfl⟩ hl.1 rfl rfl (Nat.le_of_ble_eq_true rfl) (Nat.zero_le _) (Nat.zero_le _) dX3_order_91 (fun H locs hP hD hS => ?_)
          refine lv_goto (tgt := 98) hx hb dX3_order_94 (by decide) ?_
          exact WR.iret S hr hlk hP hS (by rw [hEn]; rfl) (congrArg (fun z => some (Value.int z)) (by rw [hEn]; rfl)) dX3_order_98
        · refine lv_iload_n hx hb dX3_order_35 rfl (lv_at hl 3 rfl) ?_
          refine lv_if_lt (tgt := 51) hx hb dX3_order_36 (by decide) (fun _ => ?_) (fun h => absurd (by decide) h)
          refine lv_iconst (v := nI 1) hx hb dX3_order_51 (by decide) ?_
          refine lv_goto (tgt := 56) hx hb dX3_order_52 (by decide) ?_
          refine lv_istore (lv' := [(5, .int (nI 1)), (0, .ref (t 0)), (1, .int (nI v)), (2, .int (nI (2 ^ n - 1))), (3, .int (-1)), (4, .int (nI j))]) hx hb dX3_order_56 hl (by decide) rfl (fun ls hl => ?_)
          refine lv_iload hx hb dX3_order_58 (lv_at hl 0 rfl) ?_
          refine q_if_eqN (tgt := 79) (a := 1) hx hb dX3_order_60 (by decide) (by omega) (fun h => absurd h (by omega)) (fun _ => ?_)
          refine lv_aload_n hx hb dX3_order_63 rfl (lv_at hl 1 rfl) ?_
          refine g3_live S hK hP dX3_order_64 ?_
          refine lv_iload hx hb dX3_order_67 (lv_at hl 5 rfl) ?_
          refine RO.callV S kv_X3_113 (c_X0_blendOf l D cI cJ (sf t 1) f j n (hw) (by omega)) hK (TW_live hP) rfl ⟨Nat.le_of_ble_eq_true rfl, Nat.le_of_ble_eq_true rfl⟩ hl.1 rfl rfl (Nat.le_of_ble_eq_true rfl) (Nat.zero_le _) (Nat.zero_le _) dX3_order_69 ?_
          refine lv_iload_n hx hb dX3_order_72 rfl (lv_at hl 2 rfl) ?_
          refine lv_icmp_ne (tgt := 79) hx hb dX3_order_73 (by decide) (fun c_73 => ?_) (fun c_73 => ?_)
          · refine lv_iinc (v := nI (j + 1)) (lv' := [(4, .int (nI (j + 1))), (5, .int (nI 1)), (0, .ref (t 0)), (1, .int (nI v)), (2, .int (nI (2 ^ n - 1))), (3, .int (-1))]) hx hb dX3_order_79 hl (k := 5) rfl (q_inc _) (by decide) rfl (fun ls hl => ?_)
            refine lv_goto (tgt := 29) hx hb dX3_order_82 (by decide) ?_
            exact ih_29 (j + 1) _ _ ls (by omega) (by omega) hP hD hS (by rw [show oI (sEs (fun s => decide (sBn f n s n = nI v)) (j + 1)) = (-1) from by rw [sEs_n0 hE (by simpa using c_73)]; rfl]; exact lv_sub hl [2, 3, 4, 5, 0] rfl)
          · refine lv_iload hx hb dX3_order_76 (lv_at hl 5 rfl) ?_
            refine lv_istore_n (lv' := [(3, .int (nI j)), (5, .int (nI 1)), (0, .ref (t 0)), (1, .int (nI v)), (2, .int (nI (2 ^ n - 1))), (4, .int (nI j))]) hx hb dX3_order_78 rfl hl (by decide) rfl (fun ls hl => ?_)
            refine lv_iinc (v := nI (j + 1)) (lv' := [(4, .int (nI (j + 1))), (3, .int (nI j)), (5, .int (nI 1)), (0, .ref (t 0)), (1, .int (nI v)), (2, .int (nI (2 ^ n - 1)))]) hx hb dX3_order_79 hl (k := 5) rfl (q_inc _) (by decide) rfl (fun ls hl => ?_)
            refine lv_goto (tgt := 29) hx hb dX3_order_82 (by decide) ?_
            exact ih_29 (j + 1) _ _ ls (by omega) (by omega) hP hD hS (by rw [show oI (sEs (fun s => decide (sBn f n s n = nI v)) (j + 1)) = nI j from by rw [sEs_n1 hE (by simpa using c_73)]; rfl]; exact lv_sub hl [3, 4, 5, 1, 0] rfl)
      | some b =>
        have hl : lv_has ls 6 [(0, .ref (t 0)), (1, .int (nI v)), (2, .int (nI (2 ^ n - 1))), (3, .int (nI b)), (4, .int (nI j))] := by rw [hE] at hl; exact hl
        have hbj := sEs_lt hE
        have hq1 := popc_le j
        have hq2 := popc_le b
        refine lv_iload hx hb dX3_order_29 (lv_at hl 4 rfl) ?_
        refine lv_iload_n hx hb dX3_order_31 rfl (lv_at hl 2 rfl) ?_
        refine q_icmp_gtN (tgt := 85) (a := j) (b := 2 ^ n - 1) hx hb dX3_order_32 (by decide) (by omega) (by omega) (fun c_32 => ?_) (fun c_32 => ?_)
        · have hEn : oOr f n (nI v) = some b := by rw [show j = 2 ^ n by omega] at hE; exact hE
          refine lv_iload_n hx hb dX3_order_85 rfl (lv_at hl 3 rfl) ?_
          refine q_if_geN (tgt := 97) (a := b) hx hb dX3_order_86 (by decide) (by omega) ?_
          refine lv_iload_n hx hb dX3_order_97 rfl (lv_at hl 3 rfl) ?_
          exact WR.iret S hr hlk hP hS (by rw [hEn]; rfl) (congrArg (fun z => some (Value.int z)) (by rw [hEn]; rfl)) dX3_order_98
        · refine lv_iload_n hx hb dX3_order_35 rfl (lv_at hl 3 rfl) ?_
          refine q_if_ltN (tgt := 51) (a := b) hx hb dX3_order_36 (by decide) (by omega) ?_
          refine lv_iload hx hb dX3_order_39 (lv_at hl 4 rfl) ?_
          refine RO.callS S ks_X3_145 (c_J6_bitCount_0f7a4 l D cI cJ t f g h τ j (by omega)) hK hP ⟨Nat.le_of_ble_eq_true rfl, Nat.le_of_ble_eq_true rfl⟩ hl.1 rfl rfl (Nat.le_of_ble_eq_true rfl) (Nat.zero_le _) (Nat.zero_le _) dX3_order_41 ?_
          refine lv_iload_n hx hb dX3_order_44 rfl (lv_at hl 3 rfl) ?_
          refine RO.callS S ks_X3_145 (c_J6_bitCount_0f7a4 l D cI cJ t f g h τ b (by omega)) hK hP ⟨Nat.le_of_ble_eq_true rfl, Nat.le_of_ble_eq_true rfl⟩ hl.1 rfl rfl (Nat.le_of_ble_eq_true rfl) (Nat.zero_le _) (Nat.zero_le _) dX3_order_45 ?_
          refine q_icmp_geN (tgt := 55) (a := popc j) (b := popc b) hx hb dX3_order_48 (by decide) (by omega) (by omega) (fun c_48 => ?_) (fun c_48 => ?_)
          · refine lv_iconst (v := nI 0) hx hb dX3_order_55 (by decide) ?_
            refine lv_istore (lv' := [(5, .int (nI 0)), (0, .ref (t 0)), (1, .int (nI v)), (2, .int (nI (2 ^ n - 1))), (3, .int (nI b)), (4, .int (nI j))]) hx hb dX3_order_56 hl (by decide) rfl (fun ls hl => ?_)
            refine lv_iload hx hb dX3_order_58 (lv_at hl 0 rfl) ?_
            refine q_if_eqN (tgt := 79) (a := 0) hx hb dX3_order_60 (by decide) (by omega) (fun _ => ?_) (fun h => absurd h (by omega))
            refine lv_iinc (v := nI (j + 1)) (lv' := [(4, .int (nI (j + 1))), (5, .int (nI 0)), (0, .ref (t 0)), (1, .int (nI v)), (2, .int (nI (2 ^ n - 1))), (3, .int (nI b))]) hx hb dX3_order_79 hl (k := 5) rfl (q_inc _) (by decide) rfl (fun ls hl => ?_)
            refine lv_goto (tgt := 29) hx hb dX3_order_82 (by decide) ?_
            exact ih_29 (j + 1) _ _ ls (by omega) (by omega) hP hD hS (by rw [show oI (sEs (fun s => decide (sBn f n s n = nI v)) (j + 1)) = nI b from by rw [sEs_s0 hE (fun q => absurd q.1 (by omega))]; rfl]; exact lv_sub hl [2, 3, 4, 5, 0] rfl)
          · refine lv_iconst (v := nI 1) hx hb dX3_order_51 (by decide) ?_
            refine lv_goto (tgt := 56) hx hb dX3_order_52 (by decide) ?_
            refine lv_istore (lv' := [(5, .int (nI 1)), (0, .ref (t 0)), (1, .int (nI v)), (2, .int (nI (2 ^ n - 1))), (3, .int (nI b)), (4, .int (nI j))]) hx hb dX3_order_56 hl (by decide) rfl (fun ls hl => ?_)
            refine lv_iload hx hb dX3_order_58 (lv_at hl 0 rfl) ?_
            refine q_if_eqN (tgt := 79) (a := 1) hx hb dX3_order_60 (by decide) (by omega) (fun h => absurd h (by omega)) (fun _ => ?_)
            refine lv_aload_n hx hb dX3_order_63 rfl (lv_at hl 1 rfl) ?_
            refine g3_live S hK hP dX3_order_64 ?_
            refine lv_iload hx hb dX3_order_67 (lv_at hl 5 rfl) ?_
            refine RO.callV S kv_X3_113 (c_X0_blendOf l D cI cJ (sf t 1) f j n (hw) (by omega)) hK (TW_live hP) rfl ⟨Nat.le_of_ble_eq_true rfl, Nat.le_of_ble_eq_true rfl⟩ hl.1 rfl rfl (Nat.le_of_ble_eq_true rfl) (Nat.zero_le _) (Nat.zero_le _) dX3_order_69 ?_
            refine lv_iload_n hx hb dX3_order_72 rfl (lv_at hl 2 rfl) ?_
            refine lv_icmp_ne (tgt := 79) hx hb dX3_order_73 (by decide) (fun c_73 => ?_) (fun c_73 => ?_)
            · refine lv_iinc (v := nI (j + 1)) (lv' := [(4, .int (nI (j + 1))), (5, .int (nI 1)), (0, .ref (t 0)), (1, .int (nI v)), (2, .int (nI (2 ^ n - 1))), (3, .int (nI b))]) hx hb dX3_order_79 hl (k := 5) rfl (q_inc _) (by decide) rfl (fun ls hl => ?_)
              refine lv_goto (tgt := 29) hx hb dX3_order_82 (by decide) ?_
              exact ih_29 (j + 1) _ _ ls (by omega) (by omega) hP hD hS (by rw [show oI (sEs (fun s => decide (sBn f n s n = nI v)) (j + 1)) = nI b from by rw [sEs_s0 hE (fun q => absurd q.2 (by simpa using c_73))]; rfl]; exact lv_sub hl [2, 3, 4, 5, 0] rfl)
            · refine lv_iload hx hb dX3_order_76 (lv_at hl 5 rfl) ?_
              refine lv_istore_n (lv' := [(3, .int (nI j)), (5, .int (nI 1)), (0, .ref (t 0)), (1, .int (nI v)), (2, .int (nI (2 ^ n - 1))), (4, .int (nI j))]) hx hb dX3_order_78 rfl hl (by decide) rfl (fun ls hl => ?_)
              refine lv_iinc (v := nI (j + 1)) (lv' := [(4, .int (nI (j + 1))), (3, .int (nI j)), (5, .int (nI 1)), (0, .ref (t 0)), (1, .int (nI v)), (2, .int (nI (2 ^ n - 1)))]) hx hb dX3_order_79 hl (k := 5) rfl (q_inc _) (by decide) rfl (fun ls hl => ?_)
              refine lv_goto (tgt := 29) hx hb dX3_order_82 (by decide) ?_
              exact ih_29 (j + 1) _ _ ls (by omega) (by omega) hP hD hS (by rw [show oI (sEs (fun s => decide (sBn f n s n = nI v)) (j + 1)) = nI j from by rw [sEs_s1 hE (by omega) (by simpa using c_73)]; rfl]; exact lv_sub hl [3, 4, 5, 1, 0] rfl)
  exact L_29 ((2 ^ n - 0) + 1) 0 _ _ ls (Nat.lt_succ_self _) (Nat.zero_le _) hP hD hS (by rw [show oI (sEs (fun s => decide (sBn f n s n = nI v)) 0) = (-1) from rfl]; exact lv_sub hl [3, 4, 2, 1, 0] rfl)
set_option maxRecDepth 100000 in
set_option maxHeartbeats 4000000 in
theorem c_X3_order_bad (l : Launch) (D : va_G) (cI cJ : ClassId) (t : Nat → Nat) (f g h : Nat → Int32) (τ : Nat → Nat → Int32) (x : Int32) (hb0 : ¬ ((nI 0 ≤ x ∧ x ≤ nI 9999))) : WR l yX3_order cX3_order 6 (some .int) 4 D cI cJ (TW cI cJ t f g h τ) [.ref (t 0), .int x] (some (.int (-1000001))) (TW cI cJ t f g h (va_up τ 9 (cFi (τ 9) 0))) := by
  refine WR.of (by decide) (Nat.le_of_ble_eq_true rfl) (fun p e s m below meth c ls A S hr hlk hK hP hD hS hA hl => ?_)
  obtain ⟨hx, hb, hml, hown, hU⟩ := id S
  have hl : lv_has ls 6 [(0, .ref (t 0)), (1, .int x)] := hl
  refine lv_iload_n hx hb dX3_order_0 rfl (lv_at hl 1 rfl) ?_
  refine lv_sipush (v := nI 9999) hx hb dX3_order_1 (by decide) ?_
  refine RO.callS S ks_X3_44 (c_X3_isWithin l D cI cJ t f g h τ x (nI 9999)) hK hP ⟨Nat.le_of_ble_eq_true rfl, Nat.le_of_ble_eq_true rfl⟩ hl.1 rfl rfl (Nat.le_of_ble_eq_true rfl) (Nat.zero_le _) (Nat.zero_le _) dX3_order_4 ?_
  refine q_if_neB (tgt := 16) hx hb dX3_order_7 (by decide) (fun c_7 => ?_) (fun c_7 => ?_)
  · exact absurd (c_7) hb0
  · refine lv_aload_n hx hb dX3_order_10 rfl (lv_at hl 0 rfl) ?_
    refine lv_iconst (v := nI 0) hx hb dX3_order_11 (by decide) ?_
    refine WR.callV (w1 := TW cI cJ t f g h (va_up τ 9 (cFi (τ 9) 0))) S kv_X3_48 (c_X3_fd0 l D cI cJ t f g h τ) hK hP hD hS hA ([]) ([]) (List.append_nil _).symm (List.append_nil _).symm TW_fst rfl ⟨Nat.le_of_ble_eq_true rfl, Nat.le_of_ble_eq_true rfl⟩ hl.1 rfl rfl (Nat.le_of_ble_eq_true rfl) (Nat.zero_le _) (Nat.zero_le _) dX3_order_12 (fun H locs hP hD hS => ?_)
    exact WR.iret S hr hlk hP hS (rfl) rfl dX3_order_15
set_option maxRecDepth 100000 in
set_option maxHeartbeats 4000000 in
theorem c_X3_empty_ok (l : Launch) (D : va_G) (cI cJ : ClassId) (t : Nat → Nat) (f g h : Nat → Int32) (τ : Nat → Nat → Int32) (u : Nat) (n : Nat) (hw : Wk f n) (d : Nat) (hd : f 1 = nI d) (hp : Pk f n) (hs : Sk f) (hb9 : Bk f n) (ht : u ≤ 12) (hd2 : d + 100 ≤ 99999) : WE l yX3_empty cX3_empty 5 (some .int) 7 D cI cJ (TW cI cJ t f g h τ) [.ref (t 0), .int (nI u)] (some (.int (aN (oEm f n u)))) (fun g9 => TW cI cJ t f g9 h (tgN τ (oEm f n u))) := by
  have h8 := hw.2.1
  have hp2 : 2 ^ n ≤ 256 := Nat.pow_le_pow_right (n := 2) (by decide) h8
  have hp1 : 1 ≤ 2 ^ n := Nat.one_le_two_pow
  refine WE.of (by decide) (Nat.le_of_ble_eq_true rfl) (fun p e s m below meth c ls A S hr hlk hK hP hD hS hA hl => ?_)
  obtain ⟨hx, hb, hml, hown, hU⟩ := id S
  have hl : lv_has ls 5 [(0, .ref (t 0)), (1, .int (nI u))] := hl
  refine lv_iload_n hx hb dX3_empty_0 rfl (lv_at hl 1 rfl) ?_
  refine lv_bipush (v := nI 12) hx hb dX3_empty_1 (by decide) ?_
  refine RO.callS S ks_X3_44 (c_X3_isWithin l D cI cJ t f g h τ (nI u) (nI 12)) hK hP ⟨Nat.le_of_ble_eq_true rfl, Nat.le_of_ble_eq_true rfl⟩ hl.1 rfl rfl (Nat.le_of_ble_eq_true rfl) (Nat.zero_le _) (Nat.zero_le _) dX3_empty_3 ?_
  refine q_if_neB (tgt := 15) hx hb dX3_empty_6 (by decide) (fun _ => ?_) (fun h => absurd (⟨nI_le (by omega) (by omega), nI_le (by omega) (by omega)⟩) h)
  refine lv_aload_n hx hb dX3_empty_15 rfl (lv_at hl 0 rfl) ?_
  refine g3_live S hK hP dX3_empty_16 ?_
  refine RO.callV S kv_X3_109 (c_X0_allCasks l D cI cJ (sf t 1) f n (hw)) hK (TW_live hP) rfl ⟨Nat.le_of_ble_eq_true rfl, Nat.le_of_ble_eq_true rfl⟩ hl.1 rfl rfl (Nat.le_of_ble_eq_true rfl) (Nat.zero_le _) (Nat.zero_le _) dX3_empty_19 ?_
  refine lv_istore_n (lv' := [(2, .int (nI (2 ^ n - 1))), (0, .ref (t 0)), (1, .int (nI u))]) hx hb dX3_empty_22 rfl hl (by decide) rfl (fun ls hl => ?_)
  refine lv_iconst (v := nI 0) hx hb dX3_empty_23 (by decide) ?_
  refine lv_istore_n (lv' := [(3, .int (nI 0)), (2, .int (nI (2 ^ n - 1))), (0, .ref (t 0)), (1, .int (nI u))]) hx hb dX3_empty_24 rfl hl (by decide) rfl (fun ls hl => ?_)
  have L_25 : ∀ (n9 : Nat) (y : Nat) (gg : Nat → Int32) (H : Heap) (locs : List Loc) (ls : Array Slot), n + 1 - y < n9 → (y ≤ n + 1) → (∀ r, r < 2 ^ n → popc r < y → ¬ (fun s => decide (sGo (sMe f s n) n u 3 = f 3)) r = true) → va_P D vwCl (TW cI cJ t f gg h τ) H → va_D A (TW cI cJ t f gg h τ) → va_S A s.heap H locs → lv_has ls 5 [(0, .ref (t 0)), (1, .int (nI u)), (2, .int (nI (2 ^ n - 1))), (3, .int (nI y))] → W p l e (rmd 7) s m ([.ref (t 0), .int (nI u)] : List Value).toArray below meth c H locs 0 0 (ZE below ([.ref (t 0), .int (nI u)] : List Value).toArray s D (some (.int (aN (oEm f n u)))) (fun g9 => TW cI cJ t f g9 h (tgN τ (oEm f n u))) A) (F0 m 25 ls []) := by
    intro n9
    induction n9 with
    | zero => intro y gg H locs ls hmeas; exact absurd hmeas (Nat.not_lt_zero _)
    | succ n9 ih_25 =>
      intro y gg H locs ls hmeas hy hAl hP hD hS hl
      refine lv_iload_n hx hb dX3_empty_25 rfl (lv_at hl 3 rfl) ?_
      refine lv_aload_n hx hb dX3_empty_26 rfl (lv_at hl 0 rfl) ?_
      refine g3_live S hK hP dX3_empty_27 ?_
      refine g30_casks S hK (TW_live hP) dX3_empty_30 ?_
      refine q_eqi (y := nI n) (hw.1) ?_
      refine q_icmp_gtN (tgt := 100) (a := y) (b := n) hx hb dX3_empty_33 (by decide) (by omega) (by omega) (fun c_33 => ?_) (fun c_33 => ?_)
      · have hE : oEm f n u = none := sEs_nil (fun r h1 => hAl r h1 (by have := popc_pw n h8 r h1; omega))
        refine lv_aload_n hx hb dX3_empty_100 rfl (lv_at hl 0 rfl) ?_
        refine lv_iconst (v := nI 3) hx hb dX3_empty_101 (by decide) ?_
        refine WR.callV (w1 := TW cI cJ t f gg h (va_up τ 9 (cFi (τ 9) 3))) S kv_X3_48 (c_X3_fd3 l D cI cJ t f gg h τ) hK hP hD hS hA ([]) ([]) (List.append_nil _).symm (List.append_nil _).symm TW_fst rfl ⟨Nat.le_of_ble_eq_true rfl, Nat.le_of_ble_eq_true rfl⟩ hl.1 rfl rfl (Nat.le_of_ble_eq_true rfl) (Nat.zero_le _) (Nat.zero_le _) dX3_empty_102 (fun H locs hP hD hS => ?_)
        exact WE.iret S hr hlk hP hS (g := gg) (by rw [hE]; rfl) (congrArg (fun z => some (Value.int z)) (by rw [hE]; rfl)) dX3_empty_105
      · refine lv_iconst (v := nI 0) hx hb dX3_empty_36 (by decide) ?_
        refine lv_istore (lv' := [(4, .int (nI 0)), (0, .ref (t 0)), (1, .int (nI u)), (2, .int (nI (2 ^ n - 1))), (3, .int (nI y))]) hx hb dX3_empty_37 hl (by decide) rfl (fun ls hl => ?_)
        have L_39 : ∀ (n9 : Nat) (x : Nat) (gx : Nat → Int32) (H : Heap) (locs : List Loc) (ls : Array Slot), 2 ^ n - x < n9 → (x ≤ 2 ^ n) → (∀ r, r < x → popc r = y → ¬ (fun s => decide (sGo (sMe f s n) n u 3 = f 3)) r = true) → va_P D vwCl (TW cI cJ t f gx h τ) H → va_D A (TW cI cJ t f gx h τ) → va_S A s.heap H locs → lv_has ls 5 [(0, .ref (t 0)), (1, .int (nI u)), (2, .int (nI (2 ^ n - 1))), (3, .int (nI y)), (4, .int (nI x))] → W p l e (rmd 7) s m ([.ref (t 0), .int (nI u)] : List Value).toArray below meth c H locs 0 0 (ZE below ([.ref (t 0), .int (nI u)] : List Value).toArray s D (some (.int (aN (oEm f n u)))) (fun g9 => TW cI cJ t f g9 h (tgN τ (oEm f n u))) A) (F0 m 39 ls []) := by
          intro n9
          induction n9 with
          | zero => intro x gx H locs ls hmeas; exact absurd hmeas (Nat.not_lt_zero _)
          | succ n9 ih_39 =>
            intro x gx H locs ls hmeas hx2 hBl hP hD hS hl
            have hq1 := popc_le x
            refine lv_iload hx hb dX3_empty_39 (lv_at hl 4 rfl) ?_
            refine lv_iload_n hx hb dX3_empty_41 rfl (lv_at hl 2 rfl) ?_
            refine q_icmp_gtN (tgt := 94) (a := x) (b := 2 ^ n - 1) hx hb dX3_empty_42 (by decide) (by omega) (by omega) (fun c_42 => ?_) (fun c_42 => ?_)
            · refine lv_iinc (v := nI (y + 1)) (lv' := [(3, .int (nI (y + 1))), (0, .ref (t 0)), (1, .int (nI u)), (2, .int (nI (2 ^ n - 1))), (4, .int (nI x))]) hx hb dX3_empty_94 hl (k := 3) rfl (q_inc _) (by decide) rfl (fun ls hl => ?_)
              refine lv_goto (tgt := 25) hx hb dX3_empty_97 (by decide) ?_
              exact ih_25 (y + 1) gx _ _ ls (by omega) (by omega) (fun r h1 h2 => by
          by_cases e : popc r = y
          · exact hBl r (by omega) e
          · exact hAl r h1 (by omega)) hP hD hS (lv_sub hl [1, 2, 3, 0] rfl)
            · refine lv_iload hx hb dX3_empty_45 (lv_at hl 4 rfl) ?_
              refine RO.callS S ks_X3_145 (c_J6_bitCount_0f7a4 l D cI cJ t f gx h τ x (by omega)) hK hP ⟨Nat.le_of_ble_eq_true rfl, Nat.le_of_ble_eq_true rfl⟩ hl.1 rfl rfl (Nat.le_of_ble_eq_true rfl) (Nat.zero_le _) (Nat.zero_le _) dX3_empty_47 ?_
              refine lv_iload_n hx hb dX3_empty_50 rfl (lv_at hl 3 rfl) ?_
              refine q_icmp_eqN (tgt := 57) (a := popc x) (b := y) hx hb dX3_empty_51 (by decide) (by omega) (by omega) (fun c_51 => ?_) (fun c_51 => ?_)
              · refine lv_aload_n hx hb dX3_empty_57 rfl (lv_at hl 0 rfl) ?_
                refine g3_trial S hK hP dX3_empty_58 ?_
                refine lv_aload_n hx hb dX3_empty_61 rfl (lv_at hl 0 rfl) ?_
                refine g3_live S hK hP dX3_empty_62 ?_
                refine WR.callVq 11 (w1 := TW cI cJ t f f h τ) S kv_X3_125 (c_X0_takeFrom_2_1 l D cI cJ (sf t 1) (sf t 12) (sf t 23) f gx h) hK hP hD hS hA _ _ TW_s123 TW_s123 PW3_fst rfl ⟨Nat.le_of_ble_eq_true rfl, Nat.le_of_ble_eq_true rfl⟩ hl.1 rfl rfl (Nat.le_of_ble_eq_true rfl) (Nat.zero_le _) (Nat.zero_le _) dX3_empty_65 (fun H locs hP hD hS => ?_)
                refine W.eq (g2 := F0 m 68 ls []) rfl ?_
                refine lv_aload_n hx hb dX3_empty_68 rfl (lv_at hl 0 rfl) ?_
                refine g3_trial S hK hP dX3_empty_69 ?_
                refine lv_iload hx hb dX3_empty_72 (lv_at hl 4 rfl) ?_
                refine WR.callV (w1 := TW cI cJ t f (sMe f x n) h τ) S kv_X3_150 (c_X0_makeEmptyAll l D cI cJ (sf t 12) f x n (hw) (by omega)) hK hP hD hS hA (_) (_) TW_s2 TW_s2 PW_fst rfl ⟨Nat.le_of_ble_eq_true rfl, Nat.le_of_ble_eq_true rfl⟩ hl.1 rfl rfl (Nat.le_of_ble_eq_true rfl) (Nat.zero_le _) (Nat.zero_le _) dX3_empty_74 (fun H locs hP hD hS => ?_)
                refine W.eq (g2 := F0 m 77 ls []) rfl ?_
                refine lv_aload_n hx hb dX3_empty_77 rfl (lv_at hl 0 rfl) ?_
                refine lv_iload_n hx hb dX3_empty_78 rfl (lv_at hl 1 rfl) ?_
                refine WE.callV (w1 := fun g9 => TW cI cJ t f g9 h τ) S kv_X3_142 (c_X3_staysStill l D cI cJ t f (sMe f x n) h τ u n (hw.kp (sMe_kp (by omega))) d ((sMe_1d (by omega)).trans hd) (Pk.me hp (Nat.le_refl n)) (hs.kl (sMe_kp (by omega)).loose) (hb9.me) ((sMe_6 (j := 0)).2) (by omega)) hK hP hD hS hA [] [] (List.append_nil _).symm (fun _ => (List.append_nil _).symm) (fun _ => TW_fst) rfl ⟨Nat.le_of_ble_eq_true rfl, Nat.le_of_ble_eq_true rfl⟩ hl.1 rfl rfl (Nat.le_of_ble_eq_true rfl) (Nat.zero_le _) (Nat.zero_le _) dX3_empty_79 (fun g_1 H locs hP hD hS => ?_)
                refine q_if_eqB (tgt := 88) hx hb dX3_empty_82 (by decide) (fun c_82 => ?_) (fun c_82 => ?_)
                · refine lv_iinc (v := nI (x + 1)) (lv' := [(4, .int (nI (x + 1))), (0, .ref (t 0)), (1, .int (nI u)), (2, .int (nI (2 ^ n - 1))), (3, .int (nI y))]) hx hb dX3_empty_88 hl (k := 4) rfl (q_inc _) (by decide) rfl (fun ls hl => ?_)
                  refine lv_goto (tgt := 39) hx hb dX3_empty_91 (by decide) ?_
                  exact ih_39 (x + 1) g_1 _ _ ls (by omega) (by omega) (fun r h1 h2 => by
              by_cases e : r = x
              · subst e; simpa using c_82
              · exact hBl r (by omega) h2) hP hD hS (lv_sub hl [1, 2, 3, 4, 0] rfl)
                · have hE : oEm f n u = some x := sEs_lex (by omega) (by simpa using c_82) (fun r h1 h2 => hAl r h1 (by omega)) (fun r h1 h2 => hBl r h1 (by omega))
                  refine lv_iload hx hb dX3_empty_85 (lv_at hl 4 rfl) ?_
                  exact WE.iret S hr hlk hP hS (g := g_1) (by rw [hE]; rfl) (congrArg (fun z => some (Value.int z)) (by rw [hE]; rfl)) dX3_empty_87
              · refine lv_goto (tgt := 88) hx hb dX3_empty_54 (by decide) ?_
                refine lv_iinc (v := nI (x + 1)) (lv' := [(4, .int (nI (x + 1))), (0, .ref (t 0)), (1, .int (nI u)), (2, .int (nI (2 ^ n - 1))), (3, .int (nI y))]) hx hb dX3_empty_88 hl (k := 4) rfl (q_inc _) (by decide) rfl (fun ls hl => ?_)
                refine lv_goto (tgt := 39) hx hb dX3_empty_91 (by decide) ?_
                exact ih_39 (x + 1) gx _ _ ls (by omega) (by omega) (fun r h1 h2 => by
              by_cases e : r = x
              · subst e; exact absurd h2 (by omega)
              · exact hBl r (by omega) h2) hP hD hS (lv_sub hl [1, 2, 3, 4, 0] rfl)
        exact L_39 ((2 ^ n - 0) + 1) 0 gg _ _ ls (Nat.lt_succ_self _) (by omega) (fun r h => absurd h (Nat.not_lt_zero _)) hP hD hS (lv_sub hl [1, 2, 3, 4, 0] rfl)
  exact L_25 ((n + 1 - 0) + 1) 0 g _ _ ls (Nat.lt_succ_self _) (by omega) (fun r _ h => absurd h (Nat.not_lt_zero _)) hP hD hS (lv_sub hl [2, 3, 1, 0] rfl)
set_option maxRecDepth 100000 in
set_option maxHeartbeats 4000000 in
theorem c_X3_empty_bad (l : Launch) (D : va_G) (cI cJ : ClassId) (t : Nat → Nat) (f g h : Nat → Int32) (τ : Nat → Nat → Int32) (x : Int32) (hb0 : ¬ ((nI 0 ≤ x ∧ x ≤ nI 12))) : WR l yX3_empty cX3_empty 5 (some .int) 7 D cI cJ (TW cI cJ t f g h τ) [.ref (t 0), .int x] (some (.int (-1000001))) (TW cI cJ t f g h (va_up τ 9 (cFi (τ 9) 0))) := by
  refine WR.of (by decide) (Nat.le_of_ble_eq_true rfl) (fun p e s m below meth c ls A S hr hlk hK hP hD hS hA hl => ?_)
  obtain ⟨hx, hb, hml, hown, hU⟩ := id S
  have hl : lv_has ls 5 [(0, .ref (t 0)), (1, .int x)] := hl
  refine lv_iload_n hx hb dX3_empty_0 rfl (lv_at hl 1 rfl) ?_
  refine lv_bipush (v := nI 12) hx hb dX3_empty_1 (by decide) ?_
  refine RO.callS S ks_X3_44 (c_X3_isWithin l D cI cJ t f g h τ x (nI 12)) hK hP ⟨Nat.le_of_ble_eq_true rfl, Nat.le_of_ble_eq_true rfl⟩ hl.1 rfl rfl (Nat.le_of_ble_eq_true rfl) (Nat.zero_le _) (Nat.zero_le _) dX3_empty_3 ?_
  refine q_if_neB (tgt := 15) hx hb dX3_empty_6 (by decide) (fun c_6 => ?_) (fun c_6 => ?_)
  · exact absurd (c_6) hb0
  · refine lv_aload_n hx hb dX3_empty_9 rfl (lv_at hl 0 rfl) ?_
    refine lv_iconst (v := nI 0) hx hb dX3_empty_10 (by decide) ?_
    refine WR.callV (w1 := TW cI cJ t f g h (va_up τ 9 (cFi (τ 9) 0))) S kv_X3_48 (c_X3_fd0 l D cI cJ t f g h τ) hK hP hD hS hA ([]) ([]) (List.append_nil _).symm (List.append_nil _).symm TW_fst rfl ⟨Nat.le_of_ble_eq_true rfl, Nat.le_of_ble_eq_true rfl⟩ hl.1 rfl rfl (Nat.le_of_ble_eq_true rfl) (Nat.zero_le _) (Nat.zero_le _) dX3_empty_11 (fun H locs hP hD hS => ?_)
    exact WR.iret S hr hlk hP hS (rfl) rfl dX3_empty_14
set_option maxRecDepth 100000 in
set_option maxHeartbeats 4000000 in
theorem c_X3_lowestPart_0_0 (l : Launch) (D : va_G) (cI cJ : ClassId) (t : Nat → Nat) (f g h : Nat → Int32) (τ : Nat → Nat → Int32) : RO l yX3_lowestPart cX3_lowestPart 5 (some .int) 0 D cI cJ (TW cI cJ t f g h τ) [.int (nI 0), .int (nI 6), .int (nI 0)] (.int (nI 0)) := by
  refine RO.of (by decide) (Nat.le_of_ble_eq_true rfl) (fun p e s m below meth c ls S hr hlk hK hP hl => ?_)
  obtain ⟨hx, hb, hml, hown, hU⟩ := id S
  have hl : lv_has ls 5 [(0, .int (nI 0)), (1, .int (nI 6)), (2, .int (nI 0))] := hl
  refine lv_iload_n hx hb dX3_lowestPart_0 rfl (lv_at hl 2 rfl) ?_
  refine q_if_neN (tgt := 8) (a := 0) hx hb dX3_lowestPart_1 (by decide) (by omega) (fun h => absurd h (by omega)) (fun _ => ?_)
  refine lv_iload_n hx hb dX3_lowestPart_4 rfl (lv_at hl 0 rfl) ?_
  refine lv_goto (tgt := 9) hx hb dX3_lowestPart_5 (by decide) ?_
  refine lv_istore_n (lv' := [(3, .int (nI 0)), (0, .int (nI 0)), (1, .int (nI 6)), (2, .int (nI 0))]) hx hb dX3_lowestPart_9 rfl hl (by decide) rfl (fun ls hl => ?_)
  refine lv_iload_n hx hb dX3_lowestPart_10 rfl (lv_at hl 2 rfl) ?_
  refine lv_istore (lv' := [(4, .int (nI 6)), (3, .int (nI 0)), (0, .int (nI 0)), (1, .int (nI 6)), (2, .int (nI 0))]) hx hb dX3_lowestPart_11 hl (by decide) rfl (fun ls hl => ?_)
  refine lv_iload hx hb dX3_lowestPart_13 (lv_at hl 0 rfl) ?_
  refine lv_iconst (v := nI 1) hx hb dX3_lowestPart_15 (by decide) ?_
  refine q_icmp_leN (tgt := 44) (a := 6) (b := 1) hx hb dX3_lowestPart_16 (by decide) (by omega) (by omega) (fun h => absurd h (by omega)) (fun _ => ?_)
  refine lv_iload_n hx hb dX3_lowestPart_19 rfl (lv_at hl 2 rfl) ?_
  refine lv_iload hx hb dX3_lowestPart_20 (lv_at hl 0 rfl) ?_
  refine q_iremN (a := 0) (b := 6) hx hb dX3_lowestPart_22 (by omega) (by omega) (by omega) ?_
  refine q_eqi (y := nI 0) (rfl) ?_
  refine q_if_neN (tgt := 38) (a := 0) hx hb dX3_lowestPart_23 (by decide) (by omega) (fun h => absurd h (by omega)) (fun _ => ?_)
  refine lv_iload_n hx hb dX3_lowestPart_26 rfl (lv_at hl 3 rfl) ?_
  refine lv_iload hx hb dX3_lowestPart_27 (lv_at hl 0 rfl) ?_
  refine q_iremN (a := 6) (b := 6) hx hb dX3_lowestPart_29 (by omega) (by omega) (by omega) ?_
  refine q_eqi (y := nI 0) (rfl) ?_
  refine q_if_neN (tgt := 38) (a := 0) hx hb dX3_lowestPart_30 (by decide) (by omega) (fun h => absurd h (by omega)) (fun _ => ?_)
  refine lv_iload_n hx hb dX3_lowestPart_33 rfl (lv_at hl 1 rfl) ?_
  refine lv_iload hx hb dX3_lowestPart_34 (lv_at hl 0 rfl) ?_
  refine q_idivN (a := 0) (b := 6) hx hb dX3_lowestPart_36 (by omega) (by omega) (by omega) ?_
  refine q_eqi (y := nI 0) (rfl) ?_
  exact RO.iret S hr hlk rfl dX3_lowestPart_37
set_option maxRecDepth 100000 in
set_option maxHeartbeats 4000000 in
theorem c_X3_lowestPart_0_1 (l : Launch) (D : va_G) (cI cJ : ClassId) (t : Nat → Nat) (f g h : Nat → Int32) (τ : Nat → Nat → Int32) : RO l yX3_lowestPart cX3_lowestPart 5 (some .int) 0 D cI cJ (TW cI cJ t f g h τ) [.int (nI 0), .int (nI 6), .int (nI 1)] (.int (nI 1)) := by
  refine RO.of (by decide) (Nat.le_of_ble_eq_true rfl) (fun p e s m below meth c ls S hr hlk hK hP hl => ?_)
  obtain ⟨hx, hb, hml, hown, hU⟩ := id S
  have hl : lv_has ls 5 [(0, .int (nI 0)), (1, .int (nI 6)), (2, .int (nI 1))] := hl
  refine lv_iload_n hx hb dX3_lowestPart_0 rfl (lv_at hl 2 rfl) ?_
  refine q_if_neN (tgt := 8) (a := 1) hx hb dX3_lowestPart_1 (by decide) (by omega) (fun _ => ?_) (fun h => absurd h (by omega))
  refine lv_iload_n hx hb dX3_lowestPart_8 rfl (lv_at hl 1 rfl) ?_
  refine lv_istore_n (lv' := [(3, .int (nI 6)), (0, .int (nI 0)), (1, .int (nI 6)), (2, .int (nI 1))]) hx hb dX3_lowestPart_9 rfl hl (by decide) rfl (fun ls hl => ?_)
  refine lv_iload_n hx hb dX3_lowestPart_10 rfl (lv_at hl 2 rfl) ?_
  refine lv_istore (lv' := [(4, .int (nI 6)), (3, .int (nI 6)), (0, .int (nI 0)), (1, .int (nI 6)), (2, .int (nI 1))]) hx hb dX3_lowestPart_11 hl (by decide) rfl (fun ls hl => ?_)
  refine lv_iload hx hb dX3_lowestPart_13 (lv_at hl 0 rfl) ?_
  refine lv_iconst (v := nI 1) hx hb dX3_lowestPart_15 (by decide) ?_
  refine q_icmp_leN (tgt := 44) (a := 6) (b := 1) hx hb dX3_lowestPart_16 (by decide) (by omega) (by omega) (fun h => absurd h (by omega)) (fun _ => ?_)
  refine lv_iload_n hx hb dX3_lowestPart_19 rfl (lv_at hl 2 rfl) ?_
  refine lv_iload hx hb dX3_lowestPart_20 (lv_at hl 0 rfl) ?_
  refine q_iremN (a := 0) (b := 6) hx hb dX3_lowestPart_22 (by omega) (by omega) (by omega) ?_
  refine q_eqi (y := nI 0) (rfl) ?_
  refine q_if_neN (tgt := 38) (a := 0) hx hb dX3_lowestPart_23 (by decide) (by omega) (fun h => absurd h (by omega)) (fun _ => ?_)
  refine lv_iload_n hx hb dX3_lowestPart_26 rfl (lv_at hl 3 rfl) ?_
  refine lv_iload hx hb dX3_lowestPart_27 (lv_at hl 0 rfl) ?_
  refine q_iremN (a := 6) (b := 6) hx hb dX3_lowestPart_29 (by omega) (by omega) (by omega) ?_
  refine q_eqi (y := nI 0) (rfl) ?_
  refine q_if_neN (tgt := 38) (a := 0) hx hb dX3_lowestPart_30 (by decide) (by omega) (fun h => absurd h (by omega)) (fun _ => ?_)
  refine lv_iload_n hx hb dX3_lowestPart_33 rfl (lv_at hl 1 rfl) ?_
  refine lv_iload hx hb dX3_lowestPart_34 (lv_at hl 0 rfl) ?_
  refine q_idivN (a := 6) (b := 6) hx hb dX3_lowestPart_36 (by omega) (by omega) (by omega) ?_
  refine q_eqi (y := nI 1) (rfl) ?_
  exact RO.iret S hr hlk rfl dX3_lowestPart_37
set_option maxRecDepth 100000 in
set_option maxHeartbeats 4000000 in
theorem c_X3_lowestPart_1_0 (l : Launch) (D : va_G) (cI cJ : ClassId) (t : Nat → Nat) (f g h : Nat → Int32) (τ : Nat → Nat → Int32) : RO l yX3_lowestPart cX3_lowestPart 5 (some .int) 0 D cI cJ (TW cI cJ t f g h τ) [.int (nI 1), .int (nI 6), .int (nI 0)] (.int (nI 1)) := by
  refine RO.of (by decide) (Nat.le_of_ble_eq_true rfl) (fun p e s m below meth c ls S hr hlk hK hP hl => ?_)
  obtain ⟨hx, hb, hml, hown, hU⟩ := id S
  have hl : lv_has ls 5 [(0, .int (nI 1)), (1, .int (nI 6)), (2, .int (nI 0))] := hl
  refine lv_iload_n hx hb dX3_lowestPart_0 rfl (lv_at hl 2 rfl) ?_
  refine q_if_neN (tgt := 8) (a := 0) hx hb dX3_lowestPart_1 (by decide) (by omega) (fun h => absurd h (by omega)) (fun _ => ?_)
  refine lv_iload_n hx hb dX3_lowestPart_4 rfl (lv_at hl 0 rfl) ?_
  refine lv_goto (tgt := 9) hx hb dX3_lowestPart_5 (by decide) ?_
  refine lv_istore_n (lv' := [(3, .int (nI 1)), (0, .int (nI 1)), (1, .int (nI 6)), (2, .int (nI 0))]) hx hb dX3_lowestPart_9 rfl hl (by decide) rfl (fun ls hl => ?_)
  refine lv_iload_n hx hb dX3_lowestPart_10 rfl (lv_at hl 2 rfl) ?_
  refine lv_istore (lv' := [(4, .int (nI 6)), (3, .int (nI 1)), (0, .int (nI 1)), (1, .int (nI 6)), (2, .int (nI 0))]) hx hb dX3_lowestPart_11 hl (by decide) rfl (fun ls hl => ?_)
  refine lv_iload hx hb dX3_lowestPart_13 (lv_at hl 0 rfl) ?_
  refine lv_iconst (v := nI 1) hx hb dX3_lowestPart_15 (by decide) ?_
  refine q_icmp_leN (tgt := 44) (a := 6) (b := 1) hx hb dX3_lowestPart_16 (by decide) (by omega) (by omega) (fun h => absurd h (by omega)) (fun _ => ?_)
  refine lv_iload_n hx hb dX3_lowestPart_19 rfl (lv_at hl 2 rfl) ?_
  refine lv_iload hx hb dX3_lowestPart_20 (lv_at hl 0 rfl) ?_
  refine q_iremN (a := 1) (b := 6) hx hb dX3_lowestPart_22 (by omega) (by omega) (by omega) ?_
  refine q_eqi (y := nI 1) (rfl) ?_
  refine q_if_neN (tgt := 38) (a := 1) hx hb dX3_lowestPart_23 (by decide) (by omega) (fun _ => ?_) (fun h => absurd h (by omega))
  refine lv_iinc (v := nI 5) (lv' := [(4, .int (nI 5)), (3, .int (nI 1)), (0, .int (nI 1)), (1, .int (nI 6)), (2, .int (nI 0))]) hx hb dX3_lowestPart_38 hl (k := 0) rfl (by decide) (by decide) rfl (fun ls hl => ?_)
  refine lv_goto (tgt := 13) hx hb dX3_lowestPart_41 (by decide) ?_
  refine lv_iload hx hb dX3_lowestPart_13 (lv_at hl 0 rfl) ?_
  refine lv_iconst (v := nI 1) hx hb dX3_lowestPart_15 (by decide) ?_
  refine q_icmp_leN (tgt := 44) (a := 5) (b := 1) hx hb dX3_lowestPart_16 (by decide) (by omega) (by omega) (fun h => absurd h (by omega)) (fun _ => ?_)
  refine lv_iload_n hx hb dX3_lowestPart_19 rfl (lv_at hl 2 rfl) ?_
  refine lv_iload hx hb dX3_lowestPart_20 (lv_at hl 0 rfl) ?_
  refine q_iremN (a := 1) (b := 5) hx hb dX3_lowestPart_22 (by omega) (by omega) (by omega) ?_
  refine q_eqi (y := nI 1) (rfl) ?_
  refine q_if_neN (tgt := 38) (a := 1) hx hb dX3_lowestPart_23 (by decide) (by omega) (fun _ => ?_) (fun h => absurd h (by omega))
  refine lv_iinc (v := nI 4) (lv' := [(4, .int (nI 4)), (3, .int (nI 1)), (0, .int (nI 1)), (1, .int (nI 6)), (2, .int (nI 0))]) hx hb dX3_lowestPart_38 hl (k := 0) rfl (by decide) (by decide) rfl (fun ls hl => ?_)
  refine lv_goto (tgt := 13) hx hb dX3_lowestPart_41 (by decide) ?_
  refine lv_iload hx hb dX3_lowestPart_13 (lv_at hl 0 rfl) ?_
  refine lv_iconst (v := nI 1) hx hb dX3_lowestPart_15 (by decide) ?_
  refine q_icmp_leN (tgt := 44) (a := 4) (b := 1) hx hb dX3_lowestPart_16 (by decide) (by omega) (by omega) (fun h => absurd h (by omega)) (fun _ => ?_)
  refine lv_iload_n hx hb dX3_lowestPart_19 rfl (lv_at hl 2 rfl) ?_
  refine lv_iload hx hb dX3_lowestPart_20 (lv_at hl 0 rfl) ?_
  refine q_iremN (a := 1) (b := 4) hx hb dX3_lowestPart_22 (by omega) (by omega) (by omega) ?_
  refine q_eqi (y := nI 1) (rfl) ?_
  refine q_if_neN (tgt := 38) (a := 1) hx hb dX3_lowestPart_23 (by decide) (by omega) (fun _ => ?_) (fun h => absurd h (by omega))
  refine lv_iinc (v := nI 3) (lv' := [(4, .int (nI 3)), (3, .int (nI 1)), (0, .int (nI 1)), (1, .int (nI 6)), (2, .int (nI 0))]) hx hb dX3_lowestPart_38 hl (k := 0) rfl (by decide) (by decide) rfl (fun ls hl => ?_)
  refine lv_goto (tgt := 13) hx hb dX3_lowestPart_41 (by decide) ?_
  refine lv_iload hx hb dX3_lowestPart_13 (lv_at hl 0 rfl) ?_
  refine lv_iconst (v := nI 1) hx hb dX3_lowestPart_15 (by decide) ?_
  refine q_icmp_leN (tgt := 44) (a := 3) (b := 1) hx hb dX3_lowestPart_16 (by decide) (by omega) (by omega) (fun h => absurd h (by omega)) (fun _ => ?_)
  refine lv_iload_n hx hb dX3_lowestPart_19 rfl (lv_at hl 2 rfl) ?_
  refine lv_iload hx hb dX3_lowestPart_20 (lv_at hl 0 rfl) ?_
  refine q_iremN (a := 1) (b := 3) hx hb dX3_lowestPart_22 (by omega) (by omega) (by omega) ?_
  refine q_eqi (y := nI 1) (rfl) ?_
  refine q_if_neN (tgt := 38) (a := 1) hx hb dX3_lowestPart_23 (by decide) (by omega) (fun _ => ?_) (fun h => absurd h (by omega))
  refine lv_iinc (v := nI 2) (lv' := [(4, .int (nI 2)), (3, .int (nI 1)), (0, .int (nI 1)), (1, .int (nI 6)), (2, .int (nI 0))]) hx hb dX3_lowestPart_38 hl (k := 0) rfl (by decide) (by decide) rfl (fun ls hl => ?_)
  refine lv_goto (tgt := 13) hx hb dX3_lowestPart_41 (by decide) ?_
  refine lv_iload hx hb dX3_lowestPart_13 (lv_at hl 0 rfl) ?_
  refine lv_iconst (v := nI 1) hx hb dX3_lowestPart_15 (by decide) ?_
  refine q_icmp_leN (tgt := 44) (a := 2) (b := 1) hx hb dX3_lowestPart_16 (by decide) (by omega) (by omega) (fun h => absurd h (by omega)) (fun _ => ?_)
  refine lv_iload_n hx hb dX3_lowestPart_19 rfl (lv_at hl 2 rfl) ?_
  refine lv_iload hx hb dX3_lowestPart_20 (lv_at hl 0 rfl) ?_
  refine q_iremN (a := 1) (b := 2) hx hb dX3_lowestPart_22 (by omega) (by omega) (by omega) ?_
  refine q_eqi (y := nI 1) (rfl) ?_
  refine q_if_neN (tgt := 38) (a := 1) hx hb dX3_lowestPart_23 (by decide) (by omega) (fun _ => ?_) (fun h => absurd h (by omega))
  refine lv_iinc (v := nI 1) (lv' := [(4, .int (nI 1)), (3, .int (nI 1)), (0, .int (nI 1)), (1, .int (nI 6)), (2, .int (nI 0))]) hx hb dX3_lowestPart_38 hl (k := 0) rfl (by decide) (by decide) rfl (fun ls hl => ?_)
  refine lv_goto (tgt := 13) hx hb dX3_lowestPart_41 (by decide) ?_
  refine lv_iload hx hb dX3_lowestPart_13 (lv_at hl 0 rfl) ?_
  refine lv_iconst (v := nI 1) hx hb dX3_lowestPart_15 (by decide) ?_
  refine q_icmp_leN (tgt := 44) (a := 1) (b := 1) hx hb dX3_lowestPart_16 (by decide) (by omega) (by omega) (fun _ => ?_) (fun h => absurd h (by omega))
  refine lv_iload_n hx hb dX3_lowestPart_44 rfl (lv_at hl 1 rfl) ?_
  exact RO.iret S hr hlk rfl dX3_lowestPart_45
set_option maxRecDepth 100000 in
set_option maxHeartbeats 4000000 in
theorem c_X3_lowestPart_1_1 (l : Launch) (D : va_G) (cI cJ : ClassId) (t : Nat → Nat) (f g h : Nat → Int32) (τ : Nat → Nat → Int32) : RO l yX3_lowestPart cX3_lowestPart 5 (some .int) 0 D cI cJ (TW cI cJ t f g h τ) [.int (nI 1), .int (nI 6), .int (nI 1)] (.int (nI 6)) := by
  refine RO.of (by decide) (Nat.le_of_ble_eq_true rfl) (fun p e s m below meth c ls S hr hlk hK hP hl => ?_)
  obtain ⟨hx, hb, hml, hown, hU⟩ := id S
  have hl : lv_has ls 5 [(0, .int (nI 1)), (1, .int (nI 6)), (2, .int (nI 1))] := hl
  refine lv_iload_n hx hb dX3_lowestPart_0 rfl (lv_at hl 2 rfl) ?_
  refine q_if_neN (tgt := 8) (a := 1) hx hb dX3_lowestPart_1 (by decide) (by omega) (fun _ => ?_) (fun h => absurd h (by omega))
  refine lv_iload_n hx hb dX3_lowestPart_8 rfl (lv_at hl 1 rfl) ?_
  refine lv_istore_n (lv' := [(3, .int (nI 6)), (0, .int (nI 1)), (1, .int (nI 6)), (2, .int (nI 1))]) hx hb dX3_lowestPart_9 rfl hl (by decide) rfl (fun ls hl => ?_)
  refine lv_iload_n hx hb dX3_lowestPart_10 rfl (lv_at hl 2 rfl) ?_
  refine lv_istore (lv' := [(4, .int (nI 6)), (3, .int (nI 6)), (0, .int (nI 1)), (1, .int (nI 6)), (2, .int (nI 1))]) hx hb dX3_lowestPart_11 hl (by decide) rfl (fun ls hl => ?_)
  refine lv_iload hx hb dX3_lowestPart_13 (lv_at hl 0 rfl) ?_
  refine lv_iconst (v := nI 1) hx hb dX3_lowestPart_15 (by decide) ?_
  refine q_icmp_leN (tgt := 44) (a := 6) (b := 1) hx hb dX3_lowestPart_16 (by decide) (by omega) (by omega) (fun h => absurd h (by omega)) (fun _ => ?_)
  refine lv_iload_n hx hb dX3_lowestPart_19 rfl (lv_at hl 2 rfl) ?_
  refine lv_iload hx hb dX3_lowestPart_20 (lv_at hl 0 rfl) ?_
  refine q_iremN (a := 1) (b := 6) hx hb dX3_lowestPart_22 (by omega) (by omega) (by omega) ?_
  refine q_eqi (y := nI 1) (rfl) ?_
  refine q_if_neN (tgt := 38) (a := 1) hx hb dX3_lowestPart_23 (by decide) (by omega) (fun _ => ?_) (fun h => absurd h (by omega))
  refine lv_iinc (v := nI 5) (lv' := [(4, .int (nI 5)), (3, .int (nI 6)), (0, .int (nI 1)), (1, .int (nI 6)), (2, .int (nI 1))]) hx hb dX3_lowestPart_38 hl (k := 0) rfl (by decide) (by decide) rfl (fun ls hl => ?_)
  refine lv_goto (tgt := 13) hx hb dX3_lowestPart_41 (by decide) ?_
  refine lv_iload hx hb dX3_lowestPart_13 (lv_at hl 0 rfl) ?_
  refine lv_iconst (v := nI 1) hx hb dX3_lowestPart_15 (by decide) ?_
  refine q_icmp_leN (tgt := 44) (a := 5) (b := 1) hx hb dX3_lowestPart_16 (by decide) (by omega) (by omega) (fun h => absurd h (by omega)) (fun _ => ?_)
  refine lv_iload_n hx hb dX3_lowestPart_19 rfl (lv_at hl 2 rfl) ?_
  refine lv_iload hx hb dX3_lowestPart_20 (lv_at hl 0 rfl) ?_
  refine q_iremN (a := 1) (b := 5) hx hb dX3_lowestPart_22 (by omega) (by omega) (by omega) ?_
  refine q_eqi (y := nI 1) (rfl) ?_
  refine q_if_neN (tgt := 38) (a := 1) hx hb dX3_lowestPart_23 (by decide) (by omega) (fun _ => ?_) (fun h => absurd h (by omega))
  refine lv_iinc (v := nI 4) (lv' := [(4, .int (nI 4)), (3, .int (nI 6)), (0, .int (nI 1)), (1, .int (nI 6)), (2, .int (nI 1))]) hx hb dX3_lowestPart_38 hl (k := 0) rfl (by decide) (by decide) rfl (fun ls hl => ?_)
  refine lv_goto (tgt := 13) hx hb dX3_lowestPart_41 (by decide) ?_
  refine lv_iload hx hb dX3_lowestPart_13 (lv_at hl 0 rfl) ?_
  refine lv_iconst (v := nI 1) hx hb dX3_lowestPart_15 (by decide) ?_
  refine q_icmp_leN (tgt := 44) (a := 4) (b := 1) hx hb dX3_lowestPart_16 (by decide) (by omega) (by omega) (fun h => absurd h (by omega)) (fun _ => ?_)
  refine lv_iload_n hx hb dX3_lowestPart_19 rfl (lv_at hl 2 rfl) ?_
  refine lv_iload hx hb dX3_lowestPart_20 (lv_at hl 0 rfl) ?_
  refine q_iremN (a := 1) (b := 4) hx hb dX3_lowestPart_22 (by omega) (by omega) (by omega) ?_
  refine q_eqi (y := nI 1) (rfl) ?_
  refine q_if_neN (tgt := 38) (a := 1) hx hb dX3_lowestPart_23 (by decide) (by omega) (fun _ => ?_) (fun h => absurd h (by omega))
  refine lv_iinc (v := nI 3) (lv' := [(4, .int (nI 3)), (3, .int (nI 6)), (0, .int (nI 1)), (1, .int (nI 6)), (2, .int (nI 1))]) hx hb dX3_lowestPart_38 hl (k := 0) rfl (by decide) (by decide) rfl (fun ls hl => ?_)
  refine lv_goto (tgt := 13) hx hb dX3_lowestPart_41 (by decide) ?_
  refine lv_iload hx hb dX3_lowestPart_13 (lv_at hl 0 rfl) ?_
  refine lv_iconst (v := nI 1) hx hb dX3_lowestPart_15 (by decide) ?_
  refine q_icmp_leN (tgt := 44) (a := 3) (b := 1) hx hb dX3_lowestPart_16 (by decide) (by omega) (by omega) (fun h => absurd h (by omega)) (fun _ => ?_)
  refine lv_iload_n hx hb dX3_lowestPart_19 rfl (lv_at hl 2 rfl) ?_
  refine lv_iload hx hb dX3_lowestPart_20 (lv_at hl 0 rfl) ?_
  refine q_iremN (a := 1) (b := 3) hx hb dX3_lowestPart_22 (by omega) (by omega) (by omega) ?_
  refine q_eqi (y := nI 1) (rfl) ?_
  refine q_if_neN (tgt := 38) (a := 1) hx hb dX3_lowestPart_23 (by decide) (by omega) (fun _ => ?_) (fun h => absurd h (by omega))
  refine lv_iinc (v := nI 2) (lv' := [(4, .int (nI 2)), (3, .int (nI 6)), (0, .int (nI 1)), (1, .int (nI 6)), (2, .int (nI 1))]) hx hb dX3_lowestPart_38 hl (k := 0) rfl (by decide) (by decide) rfl (fun ls hl => ?_)
  refine lv_goto (tgt := 13) hx hb dX3_lowestPart_41 (by decide) ?_
  refine lv_iload hx hb dX3_lowestPart_13 (lv_at hl 0 rfl) ?_
  refine lv_iconst (v := nI 1) hx hb dX3_lowestPart_15 (by decide) ?_
  refine q_icmp_leN (tgt := 44) (a := 2) (b := 1) hx hb dX3_lowestPart_16 (by decide) (by omega) (by omega) (fun h => absurd h (by omega)) (fun _ => ?_)
  refine lv_iload_n hx hb dX3_lowestPart_19 rfl (lv_at hl 2 rfl) ?_
  refine lv_iload hx hb dX3_lowestPart_20 (lv_at hl 0 rfl) ?_
  refine q_iremN (a := 1) (b := 2) hx hb dX3_lowestPart_22 (by omega) (by omega) (by omega) ?_
  refine q_eqi (y := nI 1) (rfl) ?_
  refine q_if_neN (tgt := 38) (a := 1) hx hb dX3_lowestPart_23 (by decide) (by omega) (fun _ => ?_) (fun h => absurd h (by omega))
  refine lv_iinc (v := nI 1) (lv' := [(4, .int (nI 1)), (3, .int (nI 6)), (0, .int (nI 1)), (1, .int (nI 6)), (2, .int (nI 1))]) hx hb dX3_lowestPart_38 hl (k := 0) rfl (by decide) (by decide) rfl (fun ls hl => ?_)
  refine lv_goto (tgt := 13) hx hb dX3_lowestPart_41 (by decide) ?_
  refine lv_iload hx hb dX3_lowestPart_13 (lv_at hl 0 rfl) ?_
  refine lv_iconst (v := nI 1) hx hb dX3_lowestPart_15 (by decide) ?_
  refine q_icmp_leN (tgt := 44) (a := 1) (b := 1) hx hb dX3_lowestPart_16 (by decide) (by omega) (by omega) (fun _ => ?_) (fun h => absurd h (by omega))
  refine lv_iload_n hx hb dX3_lowestPart_44 rfl (lv_at hl 1 rfl) ?_
  exact RO.iret S hr hlk rfl dX3_lowestPart_45
set_option maxRecDepth 100000 in
set_option maxHeartbeats 4000000 in
theorem c_X3_lowestPart_2_0 (l : Launch) (D : va_G) (cI cJ : ClassId) (t : Nat → Nat) (f g h : Nat → Int32) (τ : Nat → Nat → Int32) : RO l yX3_lowestPart cX3_lowestPart 5 (some .int) 0 D cI cJ (TW cI cJ t f g h τ) [.int (nI 2), .int (nI 6), .int (nI 0)] (.int (nI 1)) := by
  refine RO.of (by decide) (Nat.le_of_ble_eq_true rfl) (fun p e s m below meth c ls S hr hlk hK hP hl => ?_)
  obtain ⟨hx, hb, hml, hown, hU⟩ := id S
  have hl : lv_has ls 5 [(0, .int (nI 2)), (1, .int (nI 6)), (2, .int (nI 0))] := hl
  refine lv_iload_n hx hb dX3_lowestPart_0 rfl (lv_at hl 2 rfl) ?_
  refine q_if_neN (tgt := 8) (a := 0) hx hb dX3_lowestPart_1 (by decide) (by omega) (fun h => absurd h (by omega)) (fun _ => ?_)
  refine lv_iload_n hx hb dX3_lowestPart_4 rfl (lv_at hl 0 rfl) ?_
  refine lv_goto (tgt := 9) hx hb dX3_lowestPart_5 (by decide) ?_
  refine lv_istore_n (lv' := [(3, .int (nI 2)), (0, .int (nI 2)), (1, .int (nI 6)), (2, .int (nI 0))]) hx hb dX3_lowestPart_9 rfl hl (by decide) rfl (fun ls hl => ?_)
  refine lv_iload_n hx hb dX3_lowestPart_10 rfl (lv_at hl 2 rfl) ?_
  refine lv_istore (lv' := [(4, .int (nI 6)), (3, .int (nI 2)), (0, .int (nI 2)), (1, .int (nI 6)), (2, .int (nI 0))]) hx hb dX3_lowestPart_11 hl (by decide) rfl (fun ls hl => ?_)
  refine lv_iload hx hb dX3_lowestPart_13 (lv_at hl 0 rfl) ?_
  refine lv_iconst (v := nI 1) hx hb dX3_lowestPart_15 (by decide) ?_
  refine q_icmp_leN (tgt := 44) (a := 6) (b := 1) hx hb dX3_lowestPart_16 (by decide) (by omega) (by omega) (fun h => absurd h (by omega)) (fun _ => ?_)
  refine lv_iload_n hx hb dX3_lowestPart_19 rfl (lv_at hl 2 rfl) ?_
  refine lv_iload hx hb dX3_lowestPart_20 (lv_at hl 0 rfl) ?_
  refine q_iremN (a := 2) (b := 6) hx hb dX3_lowestPart_22 (by omega) (by omega) (by omega) ?_
  refine q_eqi (y := nI 2) (rfl) ?_
  refine q_if_neN (tgt := 38) (a := 2) hx hb dX3_lowestPart_23 (by decide) (by omega) (fun _ => ?_) (fun h => absurd h (by omega))
  refine lv_iinc (v := nI 5) (lv' := [(4, .int (nI 5)), (3, .int (nI 2)), (0, .int (nI 2)), (1, .int (nI 6)), (2, .int (nI 0))]) hx hb dX3_lowestPart_38 hl (k := 0) rfl (by decide) (by decide) rfl (fun ls hl => ?_)
  refine lv_goto (tgt := 13) hx hb dX3_lowestPart_41 (by decide) ?_
  refine lv_iload hx hb dX3_lowestPart_13 (lv_at hl 0 rfl) ?_
  refine lv_iconst (v := nI 1) hx hb dX3_lowestPart_15 (by decide) ?_
  refine q_icmp_leN (tgt := 44) (a := 5) (b := 1) hx hb dX3_lowestPart_16 (by decide) (by omega) (by omega) (fun h => absurd h (by omega)) (fun _ => ?_)
  refine lv_iload_n hx hb dX3_lowestPart_19 rfl (lv_at hl 2 rfl) ?_
  refine lv_iload hx hb dX3_lowestPart_20 (lv_at hl 0 rfl) ?_
  refine q_iremN (a := 2) (b := 5) hx hb dX3_lowestPart_22 (by omega) (by omega) (by omega) ?_
  refine q_eqi (y := nI 2) (rfl) ?_
  refine q_if_neN (tgt := 38) (a := 2) hx hb dX3_lowestPart_23 (by decide) (by omega) (fun _ => ?_) (fun h => absurd h (by omega))
  refine lv_iinc (v := nI 4) (lv' := [(4, .int (nI 4)), (3, .int (nI 2)), (0, .int (nI 2)), (1, .int (nI 6)), (2, .int (nI 0))]) hx hb dX3_lowestPart_38 hl (k := 0) rfl (by decide) (by decide) rfl (fun ls hl => ?_)
  refine lv_goto (tgt := 13) hx hb dX3_lowestPart_41 (by decide) ?_
  refine lv_iload hx hb dX3_lowestPart_13 (lv_at hl 0 rfl) ?_
  refine lv_iconst (v := nI 1) hx hb dX3_lowestPart_15 (by decide) ?_
  refine q_icmp_leN (tgt := 44) (a := 4) (b := 1) hx hb dX3_lowestPart_16 (by decide) (by omega) (by omega) (fun h => absurd h (by omega)) (fun _ => ?_)
  refine lv_iload_n hx hb dX3_lowestPart_19 rfl (lv_at hl 2 rfl) ?_
  refine lv_iload hx hb dX3_lowestPart_20 (lv_at hl 0 rfl) ?_
  refine q_iremN (a := 2) (b := 4) hx hb dX3_lowestPart_22 (by omega) (by omega) (by omega) ?_
  refine q_eqi (y := nI 2) (rfl) ?_
  refine q_if_neN (tgt := 38) (a := 2) hx hb dX3_lowestPart_23 (by decide) (by omega) (fun _ => ?_) (fun h => absurd h (by omega))
  refine lv_iinc (v := nI 3) (lv' := [(4, .int (nI 3)), (3, .int (nI 2)), (0, .int (nI 2)), (1, .int (nI 6)), (2, .int (nI 0))]) hx hb dX3_lowestPart_38 hl (k := 0) rfl (by decide) (by decide) rfl (fun ls hl => ?_)
  refine lv_goto (tgt := 13) hx hb dX3_lowestPart_41 (by decide) ?_
  refine lv_iload hx hb dX3_lowestPart_13 (lv_at hl 0 rfl) ?_
  refine lv_iconst (v := nI 1) hx hb dX3_lowestPart_15 (by decide) ?_
  refine q_icmp_leN (tgt := 44) (a := 3) (b := 1) hx hb dX3_lowestPart_16 (by decide) (by omega) (by omega) (fun h => absurd h (by omega)) (fun _ => ?_)
  refine lv_iload_n hx hb dX3_lowestPart_19 rfl (lv_at hl 2 rfl) ?_
  refine lv_iload hx hb dX3_lowestPart_20 (lv_at hl 0 rfl) ?_
  refine q_iremN (a := 2) (b := 3) hx hb dX3_lowestPart_22 (by omega) (by omega) (by omega) ?_
  refine q_eqi (y := nI 2) (rfl) ?_
  refine q_if_neN (tgt := 38) (a := 2) hx hb dX3_lowestPart_23 (by decide) (by omega) (fun _ => ?_) (fun h => absurd h (by omega))
  refine lv_iinc (v := nI 2) (lv' := [(4, .int (nI 2)), (3, .int (nI 2)), (0, .int (nI 2)), (1, .int (nI 6)), (2, .int (nI 0))]) hx hb dX3_lowestPart_38 hl (k := 0) rfl (by decide) (by decide) rfl (fun ls hl => ?_)
  refine lv_goto (tgt := 13) hx hb dX3_lowestPart_41 (by decide) ?_
  refine lv_iload hx hb dX3_lowestPart_13 (lv_at hl 0 rfl) ?_
  refine lv_iconst (v := nI 1) hx hb dX3_lowestPart_15 (by decide) ?_
  refine q_icmp_leN (tgt := 44) (a := 2) (b := 1) hx hb dX3_lowestPart_16 (by decide) (by omega) (by omega) (fun h => absurd h (by omega)) (fun _ => ?_)
  refine lv_iload_n hx hb dX3_lowestPart_19 rfl (lv_at hl 2 rfl) ?_
  refine lv_iload hx hb dX3_lowestPart_20 (lv_at hl 0 rfl) ?_
  refine q_iremN (a := 2) (b := 2) hx hb dX3_lowestPart_22 (by omega) (by omega) (by omega) ?_
  refine q_eqi (y := nI 0) (rfl) ?_
  refine q_if_neN (tgt := 38) (a := 0) hx hb dX3_lowestPart_23 (by decide) (by omega) (fun h => absurd h (by omega)) (fun _ => ?_)
  refine lv_iload_n hx hb dX3_lowestPart_26 rfl (lv_at hl 3 rfl) ?_
  refine lv_iload hx hb dX3_lowestPart_27 (lv_at hl 0 rfl) ?_
  refine q_iremN (a := 6) (b := 2) hx hb dX3_lowestPart_29 (by omega) (by omega) (by omega) ?_
  refine q_eqi (y := nI 0) (rfl) ?_
  refine q_if_neN (tgt := 38) (a := 0) hx hb dX3_lowestPart_30 (by decide) (by omega) (fun h => absurd h (by omega)) (fun _ => ?_)
  refine lv_iload_n hx hb dX3_lowestPart_33 rfl (lv_at hl 1 rfl) ?_
  refine lv_iload hx hb dX3_lowestPart_34 (lv_at hl 0 rfl) ?_
  refine q_idivN (a := 2) (b := 2) hx hb dX3_lowestPart_36 (by omega) (by omega) (by omega) ?_
  refine q_eqi (y := nI 1) (rfl) ?_
  exact RO.iret S hr hlk rfl dX3_lowestPart_37
set_option maxRecDepth 100000 in
set_option maxHeartbeats 4000000 in
theorem c_X3_lowestPart_2_1 (l : Launch) (D : va_G) (cI cJ : ClassId) (t : Nat → Nat) (f g h : Nat → Int32) (τ : Nat → Nat → Int32) : RO l yX3_lowestPart cX3_lowestPart 5 (some .int) 0 D cI cJ (TW cI cJ t f g h τ) [.int (nI 2), .int (nI 6), .int (nI 1)] (.int (nI 3)) := by
  refine RO.of (by decide) (Nat.le_of_ble_eq_true rfl) (fun p e s m below meth c ls S hr hlk hK hP hl => ?_)
  obtain ⟨hx, hb, hml, hown, hU⟩ := id S
  have hl : lv_has ls 5 [(0, .int (nI 2)), (1, .int (nI 6)), (2, .int (nI 1))] := hl
  refine lv_iload_n hx hb dX3_lowestPart_0 rfl (lv_at hl 2 rfl) ?_
  refine q_if_neN (tgt := 8) (a := 1) hx hb dX3_lowestPart_1 (by decide) (by omega) (fun _ => ?_) (fun h => absurd h (by omega))
  refine lv_iload_n hx hb dX3_lowestPart_8 rfl (lv_at hl 1 rfl) ?_
  refine lv_istore_n (lv' := [(3, .int (nI 6)), (0, .int (nI 2)), (1, .int (nI 6)), (2, .int (nI 1))]) hx hb dX3_lowestPart_9 rfl hl (by decide) rfl (fun ls hl => ?_)
  refine lv_iload_n hx hb dX3_lowestPart_10 rfl (lv_at hl 2 rfl) ?_
  refine lv_istore (lv' := [(4, .int (nI 6)), (3, .int (nI 6)), (0, .int (nI 2)), (1, .int (nI 6)), (2, .int (nI 1))]) hx hb dX3_lowestPart_11 hl (by decide) rfl (fun ls hl => ?_)
  refine lv_iload hx hb dX3_lowestPart_13 (lv_at hl 0 rfl) ?_
  refine lv_iconst (v := nI 1) hx hb dX3_lowestPart_15 (by decide) ?_
  refine q_icmp_leN (tgt := 44) (a := 6) (b := 1) hx hb dX3_lowestPart_16 (by decide) (by omega) (by omega) (fun h => absurd h (by omega)) (fun _ => ?_)
  refine lv_iload_n hx hb dX3_lowestPart_19 rfl (lv_at hl 2 rfl) ?_
  refine lv_iload hx hb dX3_lowestPart_20 (lv_at hl 0 rfl) ?_
  refine q_iremN (a := 2) (b := 6) hx hb dX3_lowestPart_22 (by omega) (by omega) (by omega) ?_
  refine q_eqi (y := nI 2) (rfl) ?_
  refine q_if_neN (tgt := 38) (a := 2) hx hb dX3_lowestPart_23 (by decide) (by omega) (fun _ => ?_) (fun h => absurd h (by omega))
  refine lv_iinc (v := nI 5) (lv' := [(4, .int (nI 5)), (3, .int (nI 6)), (0, .int (nI 2)), (1, .int (nI 6)), (2, .int (nI 1))]) hx hb dX3_lowestPart_38 hl (k := 0) rfl (by decide) (by decide) rfl (fun ls hl => ?_)
  refine lv_goto (tgt := 13) hx hb dX3_lowestPart_41 (by decide) ?_
  refine lv_iload hx hb dX3_lowestPart_13 (lv_at hl 0 rfl) ?_
  refine lv_iconst (v := nI 1) hx hb dX3_lowestPart_15 (by decide) ?_
  refine q_icmp_leN (tgt := 44) (a := 5) (b := 1) hx hb dX3_lowestPart_16 (by decide) (by omega) (by omega) (fun h => absurd h (by omega)) (fun _ => ?_)
  refine lv_iload_n hx hb dX3_lowestPart_19 rfl (lv_at hl 2 rfl) ?_
  refine lv_iload hx hb dX3_lowestPart_20 (lv_at hl 0 rfl) ?_
  refine q_iremN (a := 2) (b := 5) hx hb dX3_lowestPart_22 (by omega) (by omega) (by omega) ?_
  refine q_eqi (y := nI 2) (rfl) ?_
  refine q_if_neN (tgt := 38) (a := 2) hx hb dX3_lowestPart_23 (by decide) (by omega) (fun _ => ?_) (fun h => absurd h (by omega))
  refine lv_iinc (v := nI 4) (lv' := [(4, .int (nI 4)), (3, .int (nI 6)), (0, .int (nI 2)), (1, .int (nI 6)), (2, .int (nI 1))]) hx hb dX3_lowestPart_38 hl (k := 0) rfl (by decide) (by decide) rfl (fun ls hl => ?_)
  refine lv_goto (tgt := 13) hx hb dX3_lowestPart_41 (by decide) ?_
  refine lv_iload hx hb dX3_lowestPart_13 (lv_at hl 0 rfl) ?_
  refine lv_iconst (v := nI 1) hx hb dX3_lowestPart_15 (by decide) ?_
  refine q_icmp_leN (tgt := 44) (a := 4) (b := 1) hx hb dX3_lowestPart_16 (by decide) (by omega) (by omega) (fun h => absurd h (by omega)) (fun _ => ?_)
  refine lv_iload_n hx hb dX3_lowestPart_19 rfl (lv_at hl 2 rfl) ?_
  refine lv_iload hx hb dX3_lowestPart_20 (lv_at hl 0 rfl) ?_
  refine q_iremN (a := 2) (b := 4) hx hb dX3_lowestPart_22 (by omega) (by omega) (by omega) ?_
  refine q_eqi (y := nI 2) (rfl) ?_
  refine q_if_neN (tgt := 38) (a := 2) hx hb dX3_lowestPart_23 (by decide) (by omega) (fun _ => ?_) (fun h => absurd h (by omega))
  refine lv_iinc (v := nI 3) (lv' := [(4, .int (nI 3)), (3, .int (nI 6)), (0, .int (nI 2)), (1, .int (nI 6)), (2, .int (nI 1))]) hx hb dX3_lowestPart_38 hl (k := 0) rfl (by decide) (by decide) rfl (fun ls hl => ?_)
  refine lv_goto (tgt := 13) hx hb dX3_lowestPart_41 (by decide) ?_
  refine lv_iload hx hb dX3_lowestPart_13 (lv_at hl 0 rfl) ?_
  refine lv_iconst (v := nI 1) hx hb dX3_lowestPart_15 (by decide) ?_
  refine q_icmp_leN (tgt := 44) (a := 3) (b := 1) hx hb dX3_lowestPart_16 (by decide) (by omega) (by omega) (fun h => absurd h (by omega)) (fun _ => ?_)
  refine lv_iload_n hx hb dX3_lowestPart_19 rfl (lv_at hl 2 rfl) ?_
  refine lv_iload hx hb dX3_lowestPart_20 (lv_at hl 0 rfl) ?_
  refine q_iremN (a := 2) (b := 3) hx hb dX3_lowestPart_22 (by omega) (by omega) (by omega) ?_
  refine q_eqi (y := nI 2) (rfl) ?_
  refine q_if_neN (tgt := 38) (a := 2) hx hb dX3_lowestPart_23 (by decide) (by omega) (fun _ => ?_) (fun h => absurd h (by omega))
  refine lv_iinc (v := nI 2) (lv' := [(4, .int (nI 2)), (3, .int (nI 6)), (0, .int (nI 2)), (1, .int (nI 6)), (2, .int (nI 1))]) hx hb dX3_lowestPart_38 hl (k := 0) rfl (by decide) (by decide) rfl (fun ls hl => ?_)
  refine lv_goto (tgt := 13) hx hb dX3_lowestPart_41 (by decide) ?_
  refine lv_iload hx hb dX3_lowestPart_13 (lv_at hl 0 rfl) ?_
  refine lv_iconst (v := nI 1) hx hb dX3_lowestPart_15 (by decide) ?_
  refine q_icmp_leN (tgt := 44) (a := 2) (b := 1) hx hb dX3_lowestPart_16 (by decide) (by omega) (by omega) (fun h => absurd h (by omega)) (fun _ => ?_)
  refine lv_iload_n hx hb dX3_lowestPart_19 rfl (lv_at hl 2 rfl) ?_
  refine lv_iload hx hb dX3_lowestPart_20 (lv_at hl 0 rfl) ?_
  refine q_iremN (a := 2) (b := 2) hx hb dX3_lowestPart_22 (by omega) (by omega) (by omega) ?_
  refine q_eqi (y := nI 0) (rfl) ?_
  refine q_if_neN (tgt := 38) (a := 0) hx hb dX3_lowestPart_23 (by decide) (by omega) (fun h => absurd h (by omega)) (fun _ => ?_)
  refine lv_iload_n hx hb dX3_lowestPart_26 rfl (lv_at hl 3 rfl) ?_
  refine lv_iload hx hb dX3_lowestPart_27 (lv_at hl 0 rfl) ?_
  refine q_iremN (a := 6) (b := 2) hx hb dX3_lowestPart_29 (by omega) (by omega) (by omega) ?_
  refine q_eqi (y := nI 0) (rfl) ?_
  refine q_if_neN (tgt := 38) (a := 0) hx hb dX3_lowestPart_30 (by decide) (by omega) (fun h => absurd h (by omega)) (fun _ => ?_)
  refine lv_iload_n hx hb dX3_lowestPart_33 rfl (lv_at hl 1 rfl) ?_
  refine lv_iload hx hb dX3_lowestPart_34 (lv_at hl 0 rfl) ?_
  refine q_idivN (a := 6) (b := 2) hx hb dX3_lowestPart_36 (by omega) (by omega) (by omega) ?_
  refine q_eqi (y := nI 3) (rfl) ?_
  exact RO.iret S hr hlk rfl dX3_lowestPart_37
set_option maxRecDepth 100000 in
set_option maxHeartbeats 4000000 in
theorem c_X3_lowestPart_3_0 (l : Launch) (D : va_G) (cI cJ : ClassId) (t : Nat → Nat) (f g h : Nat → Int32) (τ : Nat → Nat → Int32) : RO l yX3_lowestPart cX3_lowestPart 5 (some .int) 0 D cI cJ (TW cI cJ t f g h τ) [.int (nI 3), .int (nI 6), .int (nI 0)] (.int (nI 1)) := by
  refine RO.of (by decide) (Nat.le_of_ble_eq_true rfl) (fun p e s m below meth c ls S hr hlk hK hP hl => ?_)
  obtain ⟨hx, hb, hml, hown, hU⟩ := id S
  have hl : lv_has ls 5 [(0, .int (nI 3)), (1, .int (nI 6)), (2, .int (nI 0))] := hl
  refine lv_iload_n hx hb dX3_lowestPart_0 rfl (lv_at hl 2 rfl) ?_
  refine q_if_neN (tgt := 8) (a := 0) hx hb dX3_lowestPart_1 (by decide) (by omega) (fun h => absurd h (by omega)) (fun _ => ?_)
  refine lv_iload_n hx hb dX3_lowestPart_4 rfl (lv_at hl 0 rfl) ?_
  refine lv_goto (tgt := 9) hx hb dX3_lowestPart_5 (by decide) ?_
  refine lv_istore_n (lv' := [(3, .int (nI 3)), (0, .int (nI 3)), (1, .int (nI 6)), (2, .int (nI 0))]) hx hb dX3_lowestPart_9 rfl hl (by decide) rfl (fun ls hl => ?_)
  refine lv_iload_n hx hb dX3_lowestPart_10 rfl (lv_at hl 2 rfl) ?_
  refine lv_istore (lv' := [(4, .int (nI 6)), (3, .int (nI 3)), (0, .int (nI 3)), (1, .int (nI 6)), (2, .int (nI 0))]) hx hb dX3_lowestPart_11 hl (by decide) rfl (fun ls hl => ?_)
  refine lv_iload hx hb dX3_lowestPart_13 (lv_at hl 0 rfl) ?_
  refine lv_iconst (v := nI 1) hx hb dX3_lowestPart_15 (by decide) ?_
  refine q_icmp_leN (tgt := 44) (a := 6) (b := 1) hx hb dX3_lowestPart_16 (by decide) (by omega) (by omega) (fun h => absurd h (by omega)) (fun _ => ?_)
  refine lv_iload_n hx hb dX3_lowestPart_19 rfl (lv_at hl 2 rfl) ?_
  refine lv_iload hx hb dX3_lowestPart_20 (lv_at hl 0 rfl) ?_
  refine q_iremN (a := 3) (b := 6) hx hb dX3_lowestPart_22 (by omega) (by omega) (by omega) ?_
  refine q_eqi (y := nI 3) (rfl) ?_
  refine q_if_neN (tgt := 38) (a := 3) hx hb dX3_lowestPart_23 (by decide) (by omega) (fun _ => ?_) (fun h => absurd h (by omega))
  refine lv_iinc (v := nI 5) (lv' := [(4, .int (nI 5)), (3, .int (nI 3)), (0, .int (nI 3)), (1, .int (nI 6)), (2, .int (nI 0))]) hx hb dX3_lowestPart_38 hl (k := 0) rfl (by decide) (by decide) rfl (fun ls hl => ?_)
  refine lv_goto (tgt := 13) hx hb dX3_lowestPart_41 (by decide) ?_
  refine lv_iload hx hb dX3_lowestPart_13 (lv_at hl 0 rfl) ?_
  refine lv_iconst (v := nI 1) hx hb dX3_lowestPart_15 (by decide) ?_
  refine q_icmp_leN (tgt := 44) (a := 5) (b := 1) hx hb dX3_lowestPart_16 (by decide) (by omega) (by omega) (fun h => absurd h (by omega)) (fun _ => ?_)
  refine lv_iload_n hx hb dX3_lowestPart_19 rfl (lv_at hl 2 rfl) ?_
  refine lv_iload hx hb dX3_lowestPart_20 (lv_at hl 0 rfl) ?_
  refine q_iremN (a := 3) (b := 5) hx hb dX3_lowestPart_22 (by omega) (by omega) (by omega) ?_
  refine q_eqi (y := nI 3) (rfl) ?_
  refine q_if_neN (tgt := 38) (a := 3) hx hb dX3_lowestPart_23 (by decide) (by omega) (fun _ => ?_) (fun h => absurd h (by omega))
  refine lv_iinc (v := nI 4) (lv' := [(4, .int (nI 4)), (3, .int (nI 3)), (0, .int (nI 3)), (1, .int (nI 6)), (2, .int (nI 0))]) hx hb dX3_lowestPart_38 hl (k := 0) rfl (by decide) (by decide) rfl (fun ls hl => ?_)
  refine lv_goto (tgt := 13) hx hb dX3_lowestPart_41 (by decide) ?_
  refine lv_iload hx hb dX3_lowestPart_13 (lv_at hl 0 rfl) ?_
  refine lv_iconst (v := nI 1) hx hb dX3_lowestPart_15 (by decide) ?_
  refine q_icmp_leN (tgt := 44) (a := 4) (b := 1) hx hb dX3_lowestPart_16 (by decide) (by omega) (by omega) (fun h => absurd h (by omega)) (fun _ => ?_)
  refine lv_iload_n hx hb dX3_lowestPart_19 rfl (lv_at hl 2 rfl) ?_
  refine lv_iload hx hb dX3_lowestPart_20 (lv_at hl 0 rfl) ?_
  refine q_iremN (a := 3) (b := 4) hx hb dX3_lowestPart_22 (by omega) (by omega) (by omega) ?_
  refine q_eqi (y := nI 3) (rfl) ?_
  refine q_if_neN (tgt := 38) (a := 3) hx hb dX3_lowestPart_23 (by decide) (by omega) (fun _ => ?_) (fun h => absurd h (by omega))
  refine lv_iinc (v := nI 3) (lv' := [(4, .int (nI 3)), (3, .int (nI 3)), (0, .int (nI 3)), (1, .int (nI 6)), (2, .int (nI 0))]) hx hb dX3_lowestPart_38 hl (k := 0) rfl (by decide) (by decide) rfl (fun ls hl => ?_)
  refine lv_goto (tgt := 13) hx hb dX3_lowestPart_41 (by decide) ?_
  refine lv_iload hx hb dX3_lowestPart_13 (lv_at hl 0 rfl) ?_
  refine lv_iconst (v := nI 1) hx hb dX3_lowestPart_15 (by decide) ?_
  refine q_icmp_leN (tgt := 44) (a := 3) (b := 1) hx hb dX3_lowestPart_16 (by decide) (by omega) (by omega) (fun h => absurd h (by omega)) (fun _ => ?_)
  refine lv_iload_n hx hb dX3_lowestPart_19 rfl (lv_at hl 2 rfl) ?_
  refine lv_iload hx hb dX3_lowestPart_20 (lv_at hl 0 rfl) ?_
  refine q_iremN (a := 3) (b := 3) hx hb dX3_lowestPart_22 (by omega) (by omega) (by omega) ?_
  refine q_eqi (y := nI 0) (rfl) ?_
  refine q_if_neN (tgt := 38) (a := 0) hx hb dX3_lowestPart_23 (by decide) (by omega) (fun h => absurd h (by omega)) (fun _ => ?_)
  refine lv_iload_n hx hb dX3_lowestPart_26 rfl (lv_at hl 3 rfl) ?_
  refine lv_iload hx hb dX3_lowestPart_27 (lv_at hl 0 rfl) ?_
  refine q_iremN (a := 6) (b := 3) hx hb dX3_lowestPart_29 (by omega) (by omega) (by omega) ?_
  refine q_eqi (y := nI 0) (rfl) ?_
  refine q_if_neN (tgt := 38) (a := 0) hx hb dX3_lowestPart_30 (by decide) (by omega) (fun h => absurd h (by omega)) (fun _ => ?_)
  refine lv_iload_n hx hb dX3_lowestPart_33 rfl (lv_at hl 1 rfl) ?_
  refine lv_iload hx hb dX3_lowestPart_34 (lv_at hl 0 rfl) ?_
  refine q_idivN (a := 3) (b := 3) hx hb dX3_lowestPart_36 (by omega) (by omega) (by omega) ?_
  refine q_eqi (y := nI 1) (rfl) ?_
  exact RO.iret S hr hlk rfl dX3_lowestPart_37
set_option maxRecDepth 100000 in
set_option maxHeartbeats 4000000 in
theorem c_X3_lowestPart_3_1 (l : Launch) (D : va_G) (cI cJ : ClassId) (t : Nat → Nat) (f g h : Nat → Int32) (τ : Nat → Nat → Int32) : RO l yX3_lowestPart cX3_lowestPart 5 (some .int) 0 D cI cJ (TW cI cJ t f g h τ) [.int (nI 3), .int (nI 6), .int (nI 1)] (.int (nI 2)) := by
  refine RO.of (by decide) (Nat.le_of_ble_eq_true rfl) (fun p e s m below meth c ls S hr hlk hK hP hl => ?_)
  obtain ⟨hx, hb, hml, hown, hU⟩ := id S
  have hl : lv_has ls 5 [(0, .int (nI 3)), (1, .int (nI 6)), (2, .int (nI 1))] := hl
  refine lv_iload_n hx hb dX3_lowestPart_0 rfl (lv_at hl 2 rfl) ?_
  refine q_if_neN (tgt := 8) (a := 1) hx hb dX3_lowestPart_1 (by decide) (by omega) (fun _ => ?_) (fun h => absurd h (by omega))
  refine lv_iload_n hx hb dX3_lowestPart_8 rfl (lv_at hl 1 rfl) ?_
  refine lv_istore_n (lv' := [(3, .int (nI 6)), (0, .int (nI 3)), (1, .int (nI 6)), (2, .int (nI 1))]) hx hb dX3_lowestPart_9 rfl hl (by decide) rfl (fun ls hl => ?_)
  refine lv_iload_n hx hb dX3_lowestPart_10 rfl (lv_at hl 2 rfl) ?_
  refine lv_istore (lv' := [(4, .int (nI 6)), (3, .int (nI 6)), (0, .int (nI 3)), (1, .int (nI 6)), (2, .int (nI 1))]) hx hb dX3_lowestPart_11 hl (by decide) rfl (fun ls hl => ?_)
  refine lv_iload hx hb dX3_lowestPart_13 (lv_at hl 0 rfl) ?_
  refine lv_iconst (v := nI 1) hx hb dX3_lowestPart_15 (by decide) ?_
  refine q_icmp_leN (tgt := 44) (a := 6) (b := 1) hx hb dX3_lowestPart_16 (by decide) (by omega) (by omega) (fun h => absurd h (by omega)) (fun _ => ?_)
  refine lv_iload_n hx hb dX3_lowestPart_19 rfl (lv_at hl 2 rfl) ?_
  refine lv_iload hx hb dX3_lowestPart_20 (lv_at hl 0 rfl) ?_
  refine q_iremN (a := 3) (b := 6) hx hb dX3_lowestPart_22 (by omega) (by omega) (by omega) ?_
  refine q_eqi (y := nI 3) (rfl) ?_
  refine q_if_neN (tgt := 38) (a := 3) hx hb dX3_lowestPart_23 (by decide) (by omega) (fun _ => ?_) (fun h => absurd h (by omega))
  refine lv_iinc (v := nI 5) (lv' := [(4, .int (nI 5)), (3, .int (nI 6)), (0, .int (nI 3)), (1, .int (nI 6)), (2, .int (nI 1))]) hx hb dX3_lowestPart_38 hl (k := 0) rfl (by decide) (by decide) rfl (fun ls hl => ?_)
  refine lv_goto (tgt := 13) hx hb dX3_lowestPart_41 (by decide) ?_
  refine lv_iload hx hb dX3_lowestPart_13 (lv_at hl 0 rfl) ?_
  refine lv_iconst (v := nI 1) hx hb dX3_lowestPart_15 (by decide) ?_
  refine q_icmp_leN (tgt := 44) (a := 5) (b := 1) hx hb dX3_lowestPart_16 (by decide) (by omega) (by omega) (fun h => absurd h (by omega)) (fun _ => ?_)
  refine lv_iload_n hx hb dX3_lowestPart_19 rfl (lv_at hl 2 rfl) ?_
  refine lv_iload hx hb dX3_lowestPart_20 (lv_at hl 0 rfl) ?_
  refine q_iremN (a := 3) (b := 5) hx hb dX3_lowestPart_22 (by omega) (by omega) (by omega) ?_
  refine q_eqi (y := nI 3) (rfl) ?_
  refine q_if_neN (tgt := 38) (a := 3) hx hb dX3_lowestPart_23 (by decide) (by omega) (fun _ => ?_) (fun h => absurd h (by omega))
  refine lv_iinc (v := nI 4) (lv' := [(4, .int (nI 4)), (3, .int (nI 6)), (0, .int (nI 3)), (1, .int (nI 6)), (2, .int (nI 1))]) hx hb dX3_lowestPart_38 hl (k := 0) rfl (by decide) (by decide) rfl (fun ls hl => ?_)
  refine lv_goto (tgt := 13) hx hb dX3_lowestPart_41 (by decide) ?_
  refine lv_iload hx hb dX3_lowestPart_13 (lv_at hl 0 rfl) ?_
  refine lv_iconst (v := nI 1) hx hb dX3_lowestPart_15 (by decide) ?_
  refine q_icmp_leN (tgt := 44) (a := 4) (b := 1) hx hb dX3_lowestPart_16 (by decide) (by omega) (by omega) (fun h => absurd h (by omega)) (fun _ => ?_)
  refine lv_iload_n hx hb dX3_lowestPart_19 rfl (lv_at hl 2 rfl) ?_
  refine lv_iload hx hb dX3_lowestPart_20 (lv_at hl 0 rfl) ?_
  refine q_iremN (a := 3) (b := 4) hx hb dX3_lowestPart_22 (by omega) (by omega) (by omega) ?_
  refine q_eqi (y := nI 3) (rfl) ?_
  refine q_if_neN (tgt := 38) (a := 3) hx hb dX3_lowestPart_23 (by decide) (by omega) (fun _ => ?_) (fun h => absurd h (by omega))
  refine lv_iinc (v := nI 3) (lv' := [(4, .int (nI 3)), (3, .int (nI 6)), (0, .int (nI 3)), (1, .int (nI 6)), (2, .int (nI 1))]) hx hb dX3_lowestPart_38 hl (k := 0) rfl (by decide) (by decide) rfl (fun ls hl => ?_)
  refine lv_goto (tgt := 13) hx hb dX3_lowestPart_41 (by decide) ?_
  refine lv_iload hx hb dX3_lowestPart_13 (lv_at hl 0 rfl) ?_
  refine lv_iconst (v := nI 1) hx hb dX3_lowestPart_15 (by decide) ?_
  refine q_icmp_leN (tgt := 44) (a := 3) (b := 1) hx hb dX3_lowestPart_16 (by decide) (by omega) (by omega) (fun h => absurd h (by omega)) (fun _ => ?_)
  refine lv_iload_n hx hb dX3_lowestPart_19 rfl (lv_at hl 2 rfl) ?_
  refine lv_iload hx hb dX3_lowestPart_20 (lv_at hl 0 rfl) ?_
  refine q_iremN (a := 3) (b := 3) hx hb dX3_lowestPart_22 (by omega) (by omega) (by omega) ?_
  refine q_eqi (y := nI 0) (rfl) ?_
  refine q_if_neN (tgt := 38) (a := 0) hx hb dX3_lowestPart_23 (by decide) (by omega) (fun h => absurd h (by omega)) (fun _ => ?_)
  refine lv_iload_n hx hb dX3_lowestPart_26 rfl (lv_at hl 3 rfl) ?_
  refine lv_iload hx hb dX3_lowestPart_27 (lv_at hl 0 rfl) ?_
  refine q_iremN (a := 6) (b := 3) hx hb dX3_lowestPart_29 (by omega) (by omega) (by omega) ?_
  refine q_eqi (y := nI 0) (rfl) ?_
  refine q_if_neN (tgt := 38) (a := 0) hx hb dX3_lowestPart_30 (by decide) (by omega) (fun h => absurd h (by omega)) (fun _ => ?_)
  refine lv_iload_n hx hb dX3_lowestPart_33 rfl (lv_at hl 1 rfl) ?_
  refine lv_iload hx hb dX3_lowestPart_34 (lv_at hl 0 rfl) ?_
  refine q_idivN (a := 6) (b := 3) hx hb dX3_lowestPart_36 (by omega) (by omega) (by omega) ?_
  refine q_eqi (y := nI 2) (rfl) ?_
  exact RO.iret S hr hlk rfl dX3_lowestPart_37
set_option maxRecDepth 100000 in
set_option maxHeartbeats 4000000 in
theorem c_X3_lowestPart_4_0 (l : Launch) (D : va_G) (cI cJ : ClassId) (t : Nat → Nat) (f g h : Nat → Int32) (τ : Nat → Nat → Int32) : RO l yX3_lowestPart cX3_lowestPart 5 (some .int) 0 D cI cJ (TW cI cJ t f g h τ) [.int (nI 4), .int (nI 6), .int (nI 0)] (.int (nI 2)) := by
  refine RO.of (by decide) (Nat.le_of_ble_eq_true rfl) (fun p e s m below meth c ls S hr hlk hK hP hl => ?_)
  obtain ⟨hx, hb, hml, hown, hU⟩ := id S
  have hl : lv_has ls 5 [(0, .int (nI 4)), (1, .int (nI 6)), (2, .int (nI 0))] := hl
  refine lv_iload_n hx hb dX3_lowestPart_0 rfl (lv_at hl 2 rfl) ?_
  refine q_if_neN (tgt := 8) (a := 0) hx hb dX3_lowestPart_1 (by decide) (by omega) (fun h => absurd h (by omega)) (fun _ => ?_)
  refine lv_iload_n hx hb dX3_lowestPart_4 rfl (lv_at hl 0 rfl) ?_
  refine lv_goto (tgt := 9) hx hb dX3_lowestPart_5 (by decide) ?_
  refine lv_istore_n (lv' := [(3, .int (nI 4)), (0, .int (nI 4)), (1, .int (nI 6)), (2, .int (nI 0))]) hx hb dX3_lowestPart_9 rfl hl (by decide) rfl (fun ls hl => ?_)
  refine lv_iload_n hx hb dX3_lowestPart_10 rfl (lv_at hl 2 rfl) ?_
  refine lv_istore (lv' := [(4, .int (nI 6)), (3, .int (nI 4)), (0, .int (nI 4)), (1, .int (nI 6)), (2, .int (nI 0))]) hx hb dX3_lowestPart_11 hl (by decide) rfl (fun ls hl => ?_)
  refine lv_iload hx hb dX3_lowestPart_13 (lv_at hl 0 rfl) ?_
  refine lv_iconst (v := nI 1) hx hb dX3_lowestPart_15 (by decide) ?_
  refine q_icmp_leN (tgt := 44) (a := 6) (b := 1) hx hb dX3_lowestPart_16 (by decide) (by omega) (by omega) (fun h => absurd h (by omega)) (fun _ => ?_)
  refine lv_iload_n hx hb dX3_lowestPart_19 rfl (lv_at hl 2 rfl) ?_
  refine lv_iload hx hb dX3_lowestPart_20 (lv_at hl 0 rfl) ?_
  refine q_iremN (a := 4) (b := 6) hx hb dX3_lowestPart_22 (by omega) (by omega) (by omega) ?_
  refine q_eqi (y := nI 4) (rfl) ?_
  refine q_if_neN (tgt := 38) (a := 4) hx hb dX3_lowestPart_23 (by decide) (by omega) (fun _ => ?_) (fun h => absurd h (by omega))
  refine lv_iinc (v := nI 5) (lv' := [(4, .int (nI 5)), (3, .int (nI 4)), (0, .int (nI 4)), (1, .int (nI 6)), (2, .int (nI 0))]) hx hb dX3_lowestPart_38 hl (k := 0) rfl (by decide) (by decide) rfl (fun ls hl => ?_)
  refine lv_goto (tgt := 13) hx hb dX3_lowestPart_41 (by decide) ?_
  refine lv_iload hx hb dX3_lowestPart_13 (lv_at hl 0 rfl) ?_
  refine lv_iconst (v := nI 1) hx hb dX3_lowestPart_15 (by decide) ?_
  refine q_icmp_leN (tgt := 44) (a := 5) (b := 1) hx hb dX3_lowestPart_16 (by decide) (by omega) (by omega) (fun h => absurd h (by omega)) (fun _ => ?_)
  refine lv_iload_n hx hb dX3_lowestPart_19 rfl (lv_at hl 2 rfl) ?_
  refine lv_iload hx hb dX3_lowestPart_20 (lv_at hl 0 rfl) ?_
  refine q_iremN (a := 4) (b := 5) hx hb dX3_lowestPart_22 (by omega) (by omega) (by omega) ?_
  refine q_eqi (y := nI 4) (rfl) ?_
  refine q_if_neN (tgt := 38) (a := 4) hx hb dX3_lowestPart_23 (by decide) (by omega) (fun _ => ?_) (fun h => absurd h (by omega))
  refine lv_iinc (v := nI 4) (lv' := [(4, .int (nI 4)), (3, .int (nI 4)), (0, .int (nI 4)), (1, .int (nI 6)), (2, .int (nI 0))]) hx hb dX3_lowestPart_38 hl (k := 0) rfl (by decide) (by decide) rfl (fun ls hl => ?_)
  refine lv_goto (tgt := 13) hx hb dX3_lowestPart_41 (by decide) ?_
  refine lv_iload hx hb dX3_lowestPart_13 (lv_at hl 0 rfl) ?_
  refine lv_iconst (v := nI 1) hx hb dX3_lowestPart_15 (by decide) ?_
  refine q_icmp_leN (tgt := 44) (a := 4) (b := 1) hx hb dX3_lowestPart_16 (by decide) (by omega) (by omega) (fun h => absurd h (by omega)) (fun _ => ?_)
  refine lv_iload_n hx hb dX3_lowestPart_19 rfl (lv_at hl 2 rfl) ?_
  refine lv_iload hx hb dX3_lowestPart_20 (lv_at hl 0 rfl) ?_
  refine q_iremN (a := 4) (b := 4) hx hb dX3_lowestPart_22 (by omega) (by omega) (by omega) ?_
  refine q_eqi (y := nI 0) (rfl) ?_
  refine q_if_neN (tgt := 38) (a := 0) hx hb dX3_lowestPart_23 (by decide) (by omega) (fun h => absurd h (by omega)) (fun _ => ?_)
  refine lv_iload_n hx hb dX3_lowestPart_26 rfl (lv_at hl 3 rfl) ?_
  refine lv_iload hx hb dX3_lowestPart_27 (lv_at hl 0 rfl) ?_
  refine q_iremN (a := 6) (b := 4) hx hb dX3_lowestPart_29 (by omega) (by omega) (by omega) ?_
  refine q_eqi (y := nI 2) (rfl) ?_
  refine q_if_neN (tgt := 38) (a := 2) hx hb dX3_lowestPart_30 (by decide) (by omega) (fun _ => ?_) (fun h => absurd h (by omega))
  refine lv_iinc (v := nI 3) (lv' := [(4, .int (nI 3)), (3, .int (nI 4)), (0, .int (nI 4)), (1, .int (nI 6)), (2, .int (nI 0))]) hx hb dX3_lowestPart_38 hl (k := 0) rfl (by decide) (by decide) rfl (fun ls hl => ?_)
  refine lv_goto (tgt := 13) hx hb dX3_lowestPart_41 (by decide) ?_
  refine lv_iload hx hb dX3_lowestPart_13 (lv_at hl 0 rfl) ?_
  refine lv_iconst (v := nI 1) hx hb dX3_lowestPart_15 (by decide) ?_
  refine q_icmp_leN (tgt := 44) (a := 3) (b := 1) hx hb dX3_lowestPart_16 (by decide) (by omega) (by omega) (fun h => absurd h (by omega)) (fun _ => ?_)
  refine lv_iload_n hx hb dX3_lowestPart_19 rfl (lv_at hl 2 rfl) ?_
  refine lv_iload hx hb dX3_lowestPart_20 (lv_at hl 0 rfl) ?_
  refine q_iremN (a := 4) (b := 3) hx hb dX3_lowestPart_22 (by omega) (by omega) (by omega) ?_
  refine q_eqi (y := nI 1) (rfl) ?_
  refine q_if_neN (tgt := 38) (a := 1) hx hb dX3_lowestPart_23 (by decide) (by omega) (fun _ => ?_) (fun h => absurd h (by omega))
  refine lv_iinc (v := nI 2) (lv' := [(4, .int (nI 2)), (3, .int (nI 4)), (0, .int (nI 4)), (1, .int (nI 6)), (2, .int (nI 0))]) hx hb dX3_lowestPart_38 hl (k := 0) rfl (by decide) (by decide) rfl (fun ls hl => ?_)
  refine lv_goto (tgt := 13) hx hb dX3_lowestPart_41 (by decide) ?_
  refine lv_iload hx hb dX3_lowestPart_13 (lv_at hl 0 rfl) ?_
  refine lv_iconst (v := nI 1) hx hb dX3_lowestPart_15 (by decide) ?_
  refine q_icmp_leN (tgt := 44) (a := 2) (b := 1) hx hb dX3_lowestPart_16 (by decide) (by omega) (by omega) (fun h => absurd h (by omega)) (fun _ => ?_)
  refine lv_iload_n hx hb dX3_lowestPart_19 rfl (lv_at hl 2 rfl) ?_
  refine lv_iload hx hb dX3_lowestPart_20 (lv_at hl 0 rfl) ?_
  refine q_iremN (a := 4) (b := 2) hx hb dX3_lowestPart_22 (by omega) (by omega) (by omega) ?_
  refine q_eqi (y := nI 0) (rfl) ?_
  refine q_if_neN (tgt := 38) (a := 0) hx hb dX3_lowestPart_23 (by decide) (by omega) (fun h => absurd h (by omega)) (fun _ => ?_)
  refine lv_iload_n hx hb dX3_lowestPart_26 rfl (lv_at hl 3 rfl) ?_
  refine lv_iload hx hb dX3_lowestPart_27 (lv_at hl 0 rfl) ?_
  refine q_iremN (a := 6) (b := 2) hx hb dX3_lowestPart_29 (by omega) (by omega) (by omega) ?_
  refine q_eqi (y := nI 0) (rfl) ?_
  refine q_if_neN (tgt := 38) (a := 0) hx hb dX3_lowestPart_30 (by decide) (by omega) (fun h => absurd h (by omega)) (fun _ => ?_)
  refine lv_iload_n hx hb dX3_lowestPart_33 rfl (lv_at hl 1 rfl) ?_
  refine lv_iload hx hb dX3_lowestPart_34 (lv_at hl 0 rfl) ?_
  refine q_idivN (a := 4) (b := 2) hx hb dX3_lowestPart_36 (by omega) (by omega) (by omega) ?_
  refine q_eqi (y := nI 2) (rfl) ?_
  exact RO.iret S hr hlk rfl dX3_lowestPart_37
set_option maxRecDepth 100000 in
set_option maxHeartbeats 4000000 in
theorem c_X3_lowestPart_4_1 (l : Launch) (D : va_G) (cI cJ : ClassId) (t : Nat → Nat) (f g h : Nat → Int32) (τ : Nat → Nat → Int32) : RO l yX3_lowestPart cX3_lowestPart 5 (some .int) 0 D cI cJ (TW cI cJ t f g h τ) [.int (nI 4), .int (nI 6), .int (nI 1)] (.int (nI 3)) := by
  refine RO.of (by decide) (Nat.le_of_ble_eq_true rfl) (fun p e s m below meth c ls S hr hlk hK hP hl => ?_)
  obtain ⟨hx, hb, hml, hown, hU⟩ := id S
  have hl : lv_has ls 5 [(0, .int (nI 4)), (1, .int (nI 6)), (2, .int (nI 1))] := hl
  refine lv_iload_n hx hb dX3_lowestPart_0 rfl (lv_at hl 2 rfl) ?_
  refine q_if_neN (tgt := 8) (a := 1) hx hb dX3_lowestPart_1 (by decide) (by omega) (fun _ => ?_) (fun h => absurd h (by omega))
  refine lv_iload_n hx hb dX3_lowestPart_8 rfl (lv_at hl 1 rfl) ?_
  refine lv_istore_n (lv' := [(3, .int (nI 6)), (0, .int (nI 4)), (1, .int (nI 6)), (2, .int (nI 1))]) hx hb dX3_lowestPart_9 rfl hl (by decide) rfl (fun ls hl => ?_)
  refine lv_iload_n hx hb dX3_lowestPart_10 rfl (lv_at hl 2 rfl) ?_
  refine lv_istore (lv' := [(4, .int (nI 6)), (3, .int (nI 6)), (0, .int (nI 4)), (1, .int (nI 6)), (2, .int (nI 1))]) hx hb dX3_lowestPart_11 hl (by decide) rfl (fun ls hl => ?_)
  refine lv_iload hx hb dX3_lowestPart_13 (lv_at hl 0 rfl) ?_
  refine lv_iconst (v := nI 1) hx hb dX3_lowestPart_15 (by decide) ?_
  refine q_icmp_leN (tgt := 44) (a := 6) (b := 1) hx hb dX3_lowestPart_16 (by decide) (by omega) (by omega) (fun h => absurd h (by omega)) (fun _ => ?_)
  refine lv_iload_n hx hb dX3_lowestPart_19 rfl (lv_at hl 2 rfl) ?_
  refine lv_iload hx hb dX3_lowestPart_20 (lv_at hl 0 rfl) ?_
  refine q_iremN (a := 4) (b := 6) hx hb dX3_lowestPart_22 (by omega) (by omega) (by omega) ?_
  refine q_eqi (y := nI 4) (rfl) ?_
  refine q_if_neN (tgt := 38) (a := 4) hx hb dX3_lowestPart_23 (by decide) (by omega) (fun _ => ?_) (fun h => absurd h (by omega))
  refine lv_iinc (v := nI 5) (lv' := [(4, .int (nI 5)), (3, .int (nI 6)), (0, .int (nI 4)), (1, .int (nI 6)), (2, .int (nI 1))]) hx hb dX3_lowestPart_38 hl (k := 0) rfl (by decide) (by decide) rfl (fun ls hl => ?_)
  refine lv_goto (tgt := 13) hx hb dX3_lowestPart_41 (by decide) ?_
  refine lv_iload hx hb dX3_lowestPart_13 (lv_at hl 0 rfl) ?_
  refine lv_iconst (v := nI 1) hx hb dX3_lowestPart_15 (by decide) ?_
  refine q_icmp_leN (tgt := 44) (a := 5) (b := 1) hx hb dX3_lowestPart_16 (by decide) (by omega) (by omega) (fun h => absurd h (by omega)) (fun _ => ?_)
  refine lv_iload_n hx hb dX3_lowestPart_19 rfl (lv_at hl 2 rfl) ?_
  refine lv_iload hx hb dX3_lowestPart_20 (lv_at hl 0 rfl) ?_
  refine q_iremN (a := 4) (b := 5) hx hb dX3_lowestPart_22 (by omega) (by omega) (by omega) ?_
  refine q_eqi (y := nI 4) (rfl) ?_
  refine q_if_neN (tgt := 38) (a := 4) hx hb dX3_lowestPart_23 (by decide) (by omega) (fun _ => ?_) (fun h => absurd h (by omega))
  refine lv_iinc (v := nI 4) (lv' := [(4, .int (nI 4)), (3, .int (nI 6)), (0, .int (nI 4)), (1, .int (nI 6)), (2, .int (nI 1))]) hx hb dX3_lowestPart_38 hl (k := 0) rfl (by decide) (by decide) rfl (fun ls hl => ?_)
  refine lv_goto (tgt := 13) hx hb dX3_lowestPart_41 (by decide) ?_
  refine lv_iload hx hb dX3_lowestPart_13 (lv_at hl 0 rfl) ?_
  refine lv_iconst (v := nI 1) hx hb dX3_lowestPart_15 (by decide) ?_
  refine q_icmp_leN (tgt := 44) (a := 4) (b := 1) hx hb dX3_lowestPart_16 (by decide) (by omega) (by omega) (fun h => absurd h (by omega)) (fun _ => ?_)
  refine lv_iload_n hx hb dX3_lowestPart_19 rfl (lv_at hl 2 rfl) ?_
  refine lv_iload hx hb dX3_lowestPart_20 (lv_at hl 0 rfl) ?_
  refine q_iremN (a := 4) (b := 4) hx hb dX3_lowestPart_22 (by omega) (by omega) (by omega) ?_
  refine q_eqi (y := nI 0) (rfl) ?_
  refine q_if_neN (tgt := 38) (a := 0) hx hb dX3_lowestPart_23 (by decide) (by omega) (fun h => absurd h (by omega)) (fun _ => ?_)
  refine lv_iload_n hx hb dX3_lowestPart_26 rfl (lv_at hl 3 rfl) ?_
  refine lv_iload hx hb dX3_lowestPart_27 (lv_at hl 0 rfl) ?_
  refine q_iremN (a := 6) (b := 4) hx hb dX3_lowestPart_29 (by omega) (by omega) (by omega) ?_
  refine q_eqi (y := nI 2) (rfl) ?_
  refine q_if_neN (tgt := 38) (a := 2) hx hb dX3_lowestPart_30 (by decide) (by omega) (fun _ => ?_) (fun h => absurd h (by omega))
  refine lv_iinc (v := nI 3) (lv' := [(4, .int (nI 3)), (3, .int (nI 6)), (0, .int (nI 4)), (1, .int (nI 6)), (2, .int (nI 1))]) hx hb dX3_lowestPart_38 hl (k := 0) rfl (by decide) (by decide) rfl (fun ls hl => ?_)
  refine lv_goto (tgt := 13) hx hb dX3_lowestPart_41 (by decide) ?_
  refine lv_iload hx hb dX3_lowestPart_13 (lv_at hl 0 rfl) ?_
  refine lv_iconst (v := nI 1) hx hb dX3_lowestPart_15 (by decide) ?_
  refine q_icmp_leN (tgt := 44) (a := 3) (b := 1) hx hb dX3_lowestPart_16 (by decide) (by omega) (by omega) (fun h => absurd h (by omega)) (fun _ => ?_)
  refine lv_iload_n hx hb dX3_lowestPart_19 rfl (lv_at hl 2 rfl) ?_
  refine lv_iload hx hb dX3_lowestPart_20 (lv_at hl 0 rfl) ?_
  refine q_iremN (a := 4) (b := 3) hx hb dX3_lowestPart_22 (by omega) (by omega) (by omega) ?_
  refine q_eqi (y := nI 1) (rfl) ?_
  refine q_if_neN (tgt := 38) (a := 1) hx hb dX3_lowestPart_23 (by decide) (by omega) (fun _ => ?_) (fun h => absurd h (by omega))
  refine lv_iinc (v := nI 2) (lv' := [(4, .int (nI 2)), (3, .int (nI 6)), (0, .int (nI 4)), (1, .int (nI 6)), (2, .int (nI 1))]) hx hb dX3_lowestPart_38 hl (k := 0) rfl (by decide) (by decide) rfl (fun ls hl => ?_)
  refine lv_goto (tgt := 13) hx hb dX3_lowestPart_41 (by decide) ?_
  refine lv_iload hx hb dX3_lowestPart_13 (lv_at hl 0 rfl) ?_
  refine lv_iconst (v := nI 1) hx hb dX3_lowestPart_15 (by decide) ?_
  refine q_icmp_leN (tgt := 44) (a := 2) (b := 1) hx hb dX3_lowestPart_16 (by decide) (by omega) (by omega) (fun h => absurd h (by omega)) (fun _ => ?_)
  refine lv_iload_n hx hb dX3_lowestPart_19 rfl (lv_at hl 2 rfl) ?_
  refine lv_iload hx hb dX3_lowestPart_20 (lv_at hl 0 rfl) ?_
  refine q_iremN (a := 4) (b := 2) hx hb dX3_lowestPart_22 (by omega) (by omega) (by omega) ?_
  refine q_eqi (y := nI 0) (rfl) ?_
  refine q_if_neN (tgt := 38) (a := 0) hx hb dX3_lowestPart_23 (by decide) (by omega) (fun h => absurd h (by omega)) (fun _ => ?_)
  refine lv_iload_n hx hb dX3_lowestPart_26 rfl (lv_at hl 3 rfl) ?_
  refine lv_iload hx hb dX3_lowestPart_27 (lv_at hl 0 rfl) ?_
  refine q_iremN (a := 6) (b := 2) hx hb dX3_lowestPart_29 (by omega) (by omega) (by omega) ?_
  refine q_eqi (y := nI 0) (rfl) ?_
  refine q_if_neN (tgt := 38) (a := 0) hx hb dX3_lowestPart_30 (by decide) (by omega) (fun h => absurd h (by omega)) (fun _ => ?_)
  refine lv_iload_n hx hb dX3_lowestPart_33 rfl (lv_at hl 1 rfl) ?_
  refine lv_iload hx hb dX3_lowestPart_34 (lv_at hl 0 rfl) ?_
  refine q_idivN (a := 6) (b := 2) hx hb dX3_lowestPart_36 (by omega) (by omega) (by omega) ?_
  refine q_eqi (y := nI 3) (rfl) ?_
  exact RO.iret S hr hlk rfl dX3_lowestPart_37
set_option maxRecDepth 100000 in
set_option maxHeartbeats 4000000 in
theorem c_X3_lowestPart_5_0 (l : Launch) (D : va_G) (cI cJ : ClassId) (t : Nat → Nat) (f g h : Nat → Int32) (τ : Nat → Nat → Int32) : RO l yX3_lowestPart cX3_lowestPart 5 (some .int) 0 D cI cJ (TW cI cJ t f g h τ) [.int (nI 5), .int (nI 6), .int (nI 0)] (.int (nI 5)) := by
  refine RO.of (by decide) (Nat.le_of_ble_eq_true rfl) (fun p e s m below meth c ls S hr hlk hK hP hl => ?_)
  obtain ⟨hx, hb, hml, hown, hU⟩ := id S
  have hl : lv_has ls 5 [(0, .int (nI 5)), (1, .int (nI 6)), (2, .int (nI 0))] := hl
  refine lv_iload_n hx hb dX3_lowestPart_0 rfl (lv_at hl 2 rfl) ?_
  refine q_if_neN (tgt := 8) (a := 0) hx hb dX3_lowestPart_1 (by decide) (by omega) (fun h => absurd h (by omega)) (fun _ => ?_)
  refine lv_iload_n hx hb dX3_lowestPart_4 rfl (lv_at hl 0 rfl) ?_
  refine lv_goto (tgt := 9) hx hb dX3_lowestPart_5 (by decide) ?_
  refine lv_istore_n (lv' := [(3, .int (nI 5)), (0, .int (nI 5)), (1, .int (nI 6)), (2, .int (nI 0))]) hx hb dX3_lowestPart_9 rfl hl (by decide) rfl (fun ls hl => ?_)
  refine lv_iload_n hx hb dX3_lowestPart_10 rfl (lv_at hl 2 rfl) ?_
  refine lv_istore (lv' := [(4, .int (nI 6)), (3, .int (nI 5)), (0, .int (nI 5)), (1, .int (nI 6)), (2, .int (nI 0))]) hx hb dX3_lowestPart_11 hl (by decide) rfl (fun ls hl => ?_)
  refine lv_iload hx hb dX3_lowestPart_13 (lv_at hl 0 rfl) ?_
  refine lv_iconst (v := nI 1) hx hb dX3_lowestPart_15 (by decide) ?_
  refine q_icmp_leN (tgt := 44) (a := 6) (b := 1) hx hb dX3_lowestPart_16 (by decide) (by omega) (by omega) (fun h => absurd h (by omega)) (fun _ => ?_)
  refine lv_iload_n hx hb dX3_lowestPart_19 rfl (lv_at hl 2 rfl) ?_
  refine lv_iload hx hb dX3_lowestPart_20 (lv_at hl 0 rfl) ?_
  refine q_iremN (a := 5) (b := 6) hx hb dX3_lowestPart_22 (by omega) (by omega) (by omega) ?_
  refine q_eqi (y := nI 5) (rfl) ?_
  refine q_if_neN (tgt := 38) (a := 5) hx hb dX3_lowestPart_23 (by decide) (by omega) (fun _ => ?_) (fun h => absurd h (by omega))
  refine lv_iinc (v := nI 5) (lv' := [(4, .int (nI 5)), (3, .int (nI 5)), (0, .int (nI 5)), (1, .int (nI 6)), (2, .int (nI 0))]) hx hb dX3_lowestPart_38 hl (k := 0) rfl (by decide) (by decide) rfl (fun ls hl => ?_)
  refine lv_goto (tgt := 13) hx hb dX3_lowestPart_41 (by decide) ?_
  refine lv_iload hx hb dX3_lowestPart_13 (lv_at hl 0 rfl) ?_
  refine lv_iconst (v := nI 1) hx hb dX3_lowestPart_15 (by decide) ?_
  refine q_icmp_leN (tgt := 44) (a := 5) (b := 1) hx hb dX3_lowestPart_16 (by decide) (by omega) (by omega) (fun h => absurd h (by omega)) (fun _ => ?_)
  refine lv_iload_n hx hb dX3_lowestPart_19 rfl (lv_at hl 2 rfl) ?_
  refine lv_iload hx hb dX3_lowestPart_20 (lv_at hl 0 rfl) ?_
  refine q_iremN (a := 5) (b := 5) hx hb dX3_lowestPart_22 (by omega) (by omega) (by omega) ?_
  refine q_eqi (y := nI 0) (rfl) ?_
  refine q_if_neN (tgt := 38) (a := 0) hx hb dX3_lowestPart_23 (by decide) (by omega) (fun h => absurd h (by omega)) (fun _ => ?_)
  refine lv_iload_n hx hb dX3_lowestPart_26 rfl (lv_at hl 3 rfl) ?_
  refine lv_iload hx hb dX3_lowestPart_27 (lv_at hl 0 rfl) ?_
  refine q_iremN (a := 6) (b := 5) hx hb dX3_lowestPart_29 (by omega) (by omega) (by omega) ?_
  refine q_eqi (y := nI 1) (rfl) ?_
  refine q_if_neN (tgt := 38) (a := 1) hx hb dX3_lowestPart_30 (by decide) (by omega) (fun _ => ?_) (fun h => absurd h (by omega))
  refine lv_iinc (v := nI 4) (lv' := [(4, .int (nI 4)), (3, .int (nI 5)), (0, .int (nI 5)), (1, .int (nI 6)), (2, .int (nI 0))]) hx hb dX3_lowestPart_38 hl (k := 0) rfl (by decide) (by decide) rfl (fun ls hl => ?_)
  refine lv_goto (tgt := 13) hx hb dX3_lowestPart_41 (by decide) ?_
  refine lv_iload hx hb dX3_lowestPart_13 (lv_at hl 0 rfl) ?_
  refine lv_iconst (v := nI 1) hx hb dX3_lowestPart_15 (by decide) ?_
  refine q_icmp_leN (tgt := 44) (a := 4) (b := 1) hx hb dX3_lowestPart_16 (by decide) (by omega) (by omega) (fun h => absurd h (by omega)) (fun _ => ?_)
  refine lv_iload_n hx hb dX3_lowestPart_19 rfl (lv_at hl 2 rfl) ?_
  refine lv_iload hx hb dX3_lowestPart_20 (lv_at hl 0 rfl) ?_
  refine q_iremN (a := 5) (b := 4) hx hb dX3_lowestPart_22 (by omega) (by omega) (by omega) ?_
  refine q_eqi (y := nI 1) (rfl) ?_
  refine q_if_neN (tgt := 38) (a := 1) hx hb dX3_lowestPart_23 (by decide) (by omega) (fun _ => ?_) (fun h => absurd h (by omega))
  refine lv_iinc (v := nI 3) (lv' := [(4, .int (nI 3)), (3, .int (nI 5)), (0, .int (nI 5)), (1, .int (nI 6)), (2, .int (nI 0))]) hx hb dX3_lowestPart_38 hl (k := 0) rfl (by decide) (by decide) rfl (fun ls hl => ?_)
  refine lv_goto (tgt := 13) hx hb dX3_lowestPart_41 (by decide) ?_
  refine lv_iload hx hb dX3_lowestPart_13 (lv_at hl 0 rfl) ?_
  refine lv_iconst (v := nI 1) hx hb dX3_lowestPart_15 (by decide) ?_
  refine q_icmp_leN (tgt := 44) (a := 3) (b := 1) hx hb dX3_lowestPart_16 (by decide) (by omega) (by omega) (fun h => absurd h (by omega)) (fun _ => ?_)
  refine lv_iload_n hx hb dX3_lowestPart_19 rfl (lv_at hl 2 rfl) ?_
  refine lv_iload hx hb dX3_lowestPart_20 (lv_at hl 0 rfl) ?_
  refine q_iremN (a := 5) (b := 3) hx hb dX3_lowestPart_22 (by omega) (by omega) (by omega) ?_
  refine q_eqi (y := nI 2) (rfl) ?_
  refine q_if_neN (tgt := 38) (a := 2) hx hb dX3_lowestPart_23 (by decide) (by omega) (fun _ => ?_) (fun h => absurd h (by omega))
  refine lv_iinc (v := nI 2) (lv' := [(4, .int (nI 2)), (3, .int (nI 5)), (0, .int (nI 5)), (1, .int (nI 6)), (2, .int (nI 0))]) hx hb dX3_lowestPart_38 hl (k := 0) rfl (by decide) (by decide) rfl (fun ls hl => ?_)
  refine lv_goto (tgt := 13) hx hb dX3_lowestPart_41 (by decide) ?_
  refine lv_iload hx hb dX3_lowestPart_13 (lv_at hl 0 rfl) ?_
  refine lv_iconst (v := nI 1) hx hb dX3_lowestPart_15 (by decide) ?_
  refine q_icmp_leN (tgt := 44) (a := 2) (b := 1) hx hb dX3_lowestPart_16 (by decide) (by omega) (by omega) (fun h => absurd h (by omega)) (fun _ => ?_)
  refine lv_iload_n hx hb dX3_lowestPart_19 rfl (lv_at hl 2 rfl) ?_
  refine lv_iload hx hb dX3_lowestPart_20 (lv_at hl 0 rfl) ?_
  refine q_iremN (a := 5) (b := 2) hx hb dX3_lowestPart_22 (by omega) (by omega) (by omega) ?_
  refine q_eqi (y := nI 1) (rfl) ?_
  refine q_if_neN (tgt := 38) (a := 1) hx hb dX3_lowestPart_23 (by decide) (by omega) (fun _ => ?_) (fun h => absurd h (by omega))
  refine lv_iinc (v := nI 1) (lv' := [(4, .int (nI 1)), (3, .int (nI 5)), (0, .int (nI 5)), (1, .int (nI 6)), (2, .int (nI 0))]) hx hb dX3_lowestPart_38 hl (k := 0) rfl (by decide) (by decide) rfl (fun ls hl => ?_)
  refine lv_goto (tgt := 13) hx hb dX3_lowestPart_41 (by decide) ?_
  refine lv_iload hx hb dX3_lowestPart_13 (lv_at hl 0 rfl) ?_
  refine lv_iconst (v := nI 1) hx hb dX3_lowestPart_15 (by decide) ?_
  refine q_icmp_leN (tgt := 44) (a := 1) (b := 1) hx hb dX3_lowestPart_16 (by decide) (by omega) (by omega) (fun _ => ?_) (fun h => absurd h (by omega))
  refine lv_iload_n hx hb dX3_lowestPart_44 rfl (lv_at hl 1 rfl) ?_
  exact RO.iret S hr hlk rfl dX3_lowestPart_45
set_option maxRecDepth 100000 in
set_option maxHeartbeats 4000000 in
theorem c_X3_lowestPart_5_1 (l : Launch) (D : va_G) (cI cJ : ClassId) (t : Nat → Nat) (f g h : Nat → Int32) (τ : Nat → Nat → Int32) : RO l yX3_lowestPart cX3_lowestPart 5 (some .int) 0 D cI cJ (TW cI cJ t f g h τ) [.int (nI 5), .int (nI 6), .int (nI 1)] (.int (nI 6)) := by
  refine RO.of (by decide) (Nat.le_of_ble_eq_true rfl) (fun p e s m below meth c ls S hr hlk hK hP hl => ?_)
  obtain ⟨hx, hb, hml, hown, hU⟩ := id S
  have hl : lv_has ls 5 [(0, .int (nI 5)), (1, .int (nI 6)), (2, .int (nI 1))] := hl
  refine lv_iload_n hx hb dX3_lowestPart_0 rfl (lv_at hl 2 rfl) ?_
  refine q_if_neN (tgt := 8) (a := 1) hx hb dX3_lowestPart_1 (by decide) (by omega) (fun _ => ?_) (fun h => absurd h (by omega))
  refine lv_iload_n hx hb dX3_lowestPart_8 rfl (lv_at hl 1 rfl) ?_
  refine lv_istore_n (lv' := [(3, .int (nI 6)), (0, .int (nI 5)), (1, .int (nI 6)), (2, .int (nI 1))]) hx hb dX3_lowestPart_9 rfl hl (by decide) rfl (fun ls hl => ?_)
  refine lv_iload_n hx hb dX3_lowestPart_10 rfl (lv_at hl 2 rfl) ?_
  refine lv_istore (lv' := [(4, .int (nI 6)), (3, .int (nI 6)), (0, .int (nI 5)), (1, .int (nI 6)), (2, .int (nI 1))]) hx hb dX3_lowestPart_11 hl (by decide) rfl (fun ls hl => ?_)
  refine lv_iload hx hb dX3_lowestPart_13 (lv_at hl 0 rfl) ?_
  refine lv_iconst (v := nI 1) hx hb dX3_lowestPart_15 (by decide) ?_
  refine q_icmp_leN (tgt := 44) (a := 6) (b := 1) hx hb dX3_lowestPart_16 (by decide) (by omega) (by omega) (fun h => absurd h (by omega)) (fun _ => ?_)
  refine lv_iload_n hx hb dX3_lowestPart_19 rfl (lv_at hl 2 rfl) ?_
  refine lv_iload hx hb dX3_lowestPart_20 (lv_at hl 0 rfl) ?_
  refine q_iremN (a := 5) (b := 6) hx hb dX3_lowestPart_22 (by omega) (by omega) (by omega) ?_
  refine q_eqi (y := nI 5) (rfl) ?_
  refine q_if_neN (tgt := 38) (a := 5) hx hb dX3_lowestPart_23 (by decide) (by omega) (fun _ => ?_) (fun h => absurd h (by omega))
  refine lv_iinc (v := nI 5) (lv' := [(4, .int (nI 5)), (3, .int (nI 6)), (0, .int (nI 5)), (1, .int (nI 6)), (2, .int (nI 1))]) hx hb dX3_lowestPart_38 hl (k := 0) rfl (by decide) (by decide) rfl (fun ls hl => ?_)
  refine lv_goto (tgt := 13) hx hb dX3_lowestPart_41 (by decide) ?_
  refine lv_iload hx hb dX3_lowestPart_13 (lv_at hl 0 rfl) ?_
  refine lv_iconst (v := nI 1) hx hb dX3_lowestPart_15 (by decide) ?_
  refine q_icmp_leN (tgt := 44) (a := 5) (b := 1) hx hb dX3_lowestPart_16 (by decide) (by omega) (by omega) (fun h => absurd h (by omega)) (fun _ => ?_)
  refine lv_iload_n hx hb dX3_lowestPart_19 rfl (lv_at hl 2 rfl) ?_
  refine lv_iload hx hb dX3_lowestPart_20 (lv_at hl 0 rfl) ?_
  refine q_iremN (a := 5) (b := 5) hx hb dX3_lowestPart_22 (by omega) (by omega) (by omega) ?_
  refine q_eqi (y := nI 0) (rfl) ?_
  refine q_if_neN (tgt := 38) (a := 0) hx hb dX3_lowestPart_23 (by decide) (by omega) (fun h => absurd h (by omega)) (fun _ => ?_)
  refine lv_iload_n hx hb dX3_lowestPart_26 rfl (lv_at hl 3 rfl) ?_
  refine lv_iload hx hb dX3_lowestPart_27 (lv_at hl 0 rfl) ?_
  refine q_iremN (a := 6) (b := 5) hx hb dX3_lowestPart_29 (by omega) (by omega) (by omega) ?_
  refine q_eqi (y := nI 1) (rfl) ?_
  refine q_if_neN (tgt := 38) (a := 1) hx hb dX3_lowestPart_30 (by decide) (by omega) (fun _ => ?_) (fun h => absurd h (by omega))
  refine lv_iinc (v := nI 4) (lv' := [(4, .int (nI 4)), (3, .int (nI 6)), (0, .int (nI 5)), (1, .int (nI 6)), (2, .int (nI 1))]) hx hb dX3_lowestPart_38 hl (k := 0) rfl (by decide) (by decide) rfl (fun ls hl => ?_)
  refine lv_goto (tgt := 13) hx hb dX3_lowestPart_41 (by decide) ?_
  refine lv_iload hx hb dX3_lowestPart_13 (lv_at hl 0 rfl) ?_
  refine lv_iconst (v := nI 1) hx hb dX3_lowestPart_15 (by decide) ?_
  refine q_icmp_leN (tgt := 44) (a := 4) (b := 1) hx hb dX3_lowestPart_16 (by decide) (by omega) (by omega) (fun h => absurd h (by omega)) (fun _ => ?_)
  refine lv_iload_n hx hb dX3_lowestPart_19 rfl (lv_at hl 2 rfl) ?_
  refine lv_iload hx hb dX3_lowestPart_20 (lv_at hl 0 rfl) ?_
  refine q_iremN (a := 5) (b := 4) hx hb dX3_lowestPart_22 (by omega) (by omega) (by omega) ?_
  refine q_eqi (y := nI 1) (rfl) ?_
  refine q_if_neN (tgt := 38) (a := 1) hx hb dX3_lowestPart_23 (by decide) (by omega) (fun _ => ?_) (fun h => absurd h (by omega))
  refine lv_iinc (v := nI 3) (lv' := [(4, .int (nI 3)), (3, .int (nI 6)), (0, .int (nI 5)), (1, .int (nI 6)), (2, .int (nI 1))]) hx hb dX3_lowestPart_38 hl (k := 0) rfl (by decide) (by decide) rfl (fun ls hl => ?_)
  refine lv_goto (tgt := 13) hx hb dX3_lowestPart_41 (by decide) ?_
  refine lv_iload hx hb dX3_lowestPart_13 (lv_at hl 0 rfl) ?_
  refine lv_iconst (v := nI 1) hx hb dX3_lowestPart_15 (by decide) ?_
  refine q_icmp_leN (tgt := 44) (a := 3) (b := 1) hx hb dX3_lowestPart_16 (by decide) (by omega) (by omega) (fun h => absurd h (by omega)) (fun _ => ?_)
  refine lv_iload_n hx hb dX3_lowestPart_19 rfl (lv_at hl 2 rfl) ?_
  refine lv_iload hx hb dX3_lowestPart_20 (lv_at hl 0 rfl) ?_
  refine q_iremN (a := 5) (b := 3) hx hb dX3_lowestPart_22 (by omega) (by omega) (by omega) ?_
  refine q_eqi (y := nI 2) (rfl) ?_
  refine q_if_neN (tgt := 38) (a := 2) hx hb dX3_lowestPart_23 (by decide) (by omega) (fun _ => ?_) (fun h => absurd h (by omega))
  refine lv_iinc (v := nI 2) (lv' := [(4, .int (nI 2)), (3, .int (nI 6)), (0, .int (nI 5)), (1, .int (nI 6)), (2, .int (nI 1))]) hx hb dX3_lowestPart_38 hl (k := 0) rfl (by decide) (by decide) rfl (fun ls hl => ?_)
  refine lv_goto (tgt := 13) hx hb dX3_lowestPart_41 (by decide) ?_
  refine lv_iload hx hb dX3_lowestPart_13 (lv_at hl 0 rfl) ?_
  refine lv_iconst (v := nI 1) hx hb dX3_lowestPart_15 (by decide) ?_
  refine q_icmp_leN (tgt := 44) (a := 2) (b := 1) hx hb dX3_lowestPart_16 (by decide) (by omega) (by omega) (fun h => absurd h (by omega)) (fun _ => ?_)
  refine lv_iload_n hx hb dX3_lowestPart_19 rfl (lv_at hl 2 rfl) ?_
  refine lv_iload hx hb dX3_lowestPart_20 (lv_at hl 0 rfl) ?_
  refine q_iremN (a := 5) (b := 2) hx hb dX3_lowestPart_22 (by omega) (by omega) (by omega) ?_
  refine q_eqi (y := nI 1) (rfl) ?_
  refine q_if_neN (tgt := 38) (a := 1) hx hb dX3_lowestPart_23 (by decide) (by omega) (fun _ => ?_) (fun h => absurd h (by omega))
  refine lv_iinc (v := nI 1) (lv' := [(4, .int (nI 1)), (3, .int (nI 6)), (0, .int (nI 5)), (1, .int (nI 6)), (2, .int (nI 1))]) hx hb dX3_lowestPart_38 hl (k := 0) rfl (by decide) (by decide) rfl (fun ls hl => ?_)
  refine lv_goto (tgt := 13) hx hb dX3_lowestPart_41 (by decide) ?_
  refine lv_iload hx hb dX3_lowestPart_13 (lv_at hl 0 rfl) ?_
  refine lv_iconst (v := nI 1) hx hb dX3_lowestPart_15 (by decide) ?_
  refine q_icmp_leN (tgt := 44) (a := 1) (b := 1) hx hb dX3_lowestPart_16 (by decide) (by omega) (by omega) (fun _ => ?_) (fun h => absurd h (by omega))
  refine lv_iload_n hx hb dX3_lowestPart_44 rfl (lv_at hl 1 rfl) ?_
  exact RO.iret S hr hlk rfl dX3_lowestPart_45
set_option maxRecDepth 100000 in
set_option maxHeartbeats 4000000 in
theorem c_X3_lowestPart_6_0 (l : Launch) (D : va_G) (cI cJ : ClassId) (t : Nat → Nat) (f g h : Nat → Int32) (τ : Nat → Nat → Int32) : RO l yX3_lowestPart cX3_lowestPart 5 (some .int) 0 D cI cJ (TW cI cJ t f g h τ) [.int (nI 6), .int (nI 6), .int (nI 0)] (.int (nI 1)) := by
  refine RO.of (by decide) (Nat.le_of_ble_eq_true rfl) (fun p e s m below meth c ls S hr hlk hK hP hl => ?_)
  obtain ⟨hx, hb, hml, hown, hU⟩ := id S
  have hl : lv_has ls 5 [(0, .int (nI 6)), (1, .int (nI 6)), (2, .int (nI 0))] := hl
  refine lv_iload_n hx hb dX3_lowestPart_0 rfl (lv_at hl 2 rfl) ?_
  refine q_if_neN (tgt := 8) (a := 0) hx hb dX3_lowestPart_1 (by decide) (by omega) (fun h => absurd h (by omega)) (fun _ => ?_)
  refine lv_iload_n hx hb dX3_lowestPart_4 rfl (lv_at hl 0 rfl) ?_
  refine lv_goto (tgt := 9) hx hb dX3_lowestPart_5 (by decide) ?_
  refine lv_istore_n (lv' := [(3, .int (nI 6)), (0, .int (nI 6)), (1, .int (nI 6)), (2, .int (nI 0))]) hx hb dX3_lowestPart_9 rfl hl (by decide) rfl (fun ls hl => ?_)
  refine lv_iload_n hx hb dX3_lowestPart_10 rfl (lv_at hl 2 rfl) ?_
  refine lv_istore (lv' := [(4, .int (nI 6)), (3, .int (nI 6)), (0, .int (nI 6)), (1, .int (nI 6)), (2, .int (nI 0))]) hx hb dX3_lowestPart_11 hl (by decide) rfl (fun ls hl => ?_)
  refine lv_iload hx hb dX3_lowestPart_13 (lv_at hl 0 rfl) ?_
  refine lv_iconst (v := nI 1) hx hb dX3_lowestPart_15 (by decide) ?_
  refine q_icmp_leN (tgt := 44) (a := 6) (b := 1) hx hb dX3_lowestPart_16 (by decide) (by omega) (by omega) (fun h => absurd h (by omega)) (fun _ => ?_)
  refine lv_iload_n hx hb dX3_lowestPart_19 rfl (lv_at hl 2 rfl) ?_
  refine lv_iload hx hb dX3_lowestPart_20 (lv_at hl 0 rfl) ?_
  refine q_iremN (a := 6) (b := 6) hx hb dX3_lowestPart_22 (by omega) (by omega) (by omega) ?_
  refine q_eqi (y := nI 0) (rfl) ?_
  refine q_if_neN (tgt := 38) (a := 0) hx hb dX3_lowestPart_23 (by decide) (by omega) (fun h => absurd h (by omega)) (fun _ => ?_)
  refine lv_iload_n hx hb dX3_lowestPart_26 rfl (lv_at hl 3 rfl) ?_
  refine lv_iload hx hb dX3_lowestPart_27 (lv_at hl 0 rfl) ?_
  refine q_iremN (a := 6) (b := 6) hx hb dX3_lowestPart_29 (by omega) (by omega) (by omega) ?_
  refine q_eqi (y := nI 0) (rfl) ?_
  refine q_if_neN (tgt := 38) (a := 0) hx hb dX3_lowestPart_30 (by decide) (by omega) (fun h => absurd h (by omega)) (fun _ => ?_)
  refine lv_iload_n hx hb dX3_lowestPart_33 rfl (lv_at hl 1 rfl) ?_
  refine lv_iload hx hb dX3_lowestPart_34 (lv_at hl 0 rfl) ?_
  refine q_idivN (a := 6) (b := 6) hx hb dX3_lowestPart_36 (by omega) (by omega) (by omega) ?_
  refine q_eqi (y := nI 1) (rfl) ?_
  exact RO.iret S hr hlk rfl dX3_lowestPart_37
set_option maxRecDepth 100000 in
set_option maxHeartbeats 4000000 in
theorem c_X3_lowestPart_6_1 (l : Launch) (D : va_G) (cI cJ : ClassId) (t : Nat → Nat) (f g h : Nat → Int32) (τ : Nat → Nat → Int32) : RO l yX3_lowestPart cX3_lowestPart 5 (some .int) 0 D cI cJ (TW cI cJ t f g h τ) [.int (nI 6), .int (nI 6), .int (nI 1)] (.int (nI 1)) := by
  refine RO.of (by decide) (Nat.le_of_ble_eq_true rfl) (fun p e s m below meth c ls S hr hlk hK hP hl => ?_)
  obtain ⟨hx, hb, hml, hown, hU⟩ := id S
  have hl : lv_has ls 5 [(0, .int (nI 6)), (1, .int (nI 6)), (2, .int (nI 1))] := hl
  refine lv_iload_n hx hb dX3_lowestPart_0 rfl (lv_at hl 2 rfl) ?_
  refine q_if_neN (tgt := 8) (a := 1) hx hb dX3_lowestPart_1 (by decide) (by omega) (fun _ => ?_) (fun h => absurd h (by omega))
  refine lv_iload_n hx hb dX3_lowestPart_8 rfl (lv_at hl 1 rfl) ?_
  refine lv_istore_n (lv' := [(3, .int (nI 6)), (0, .int (nI 6)), (1, .int (nI 6)), (2, .int (nI 1))]) hx hb dX3_lowestPart_9 rfl hl (by decide) rfl (fun ls hl => ?_)
  refine lv_iload_n hx hb dX3_lowestPart_10 rfl (lv_at hl 2 rfl) ?_
  refine lv_istore (lv' := [(4, .int (nI 6)), (3, .int (nI 6)), (0, .int (nI 6)), (1, .int (nI 6)), (2, .int (nI 1))]) hx hb dX3_lowestPart_11 hl (by decide) rfl (fun ls hl => ?_)
  refine lv_iload hx hb dX3_lowestPart_13 (lv_at hl 0 rfl) ?_
  refine lv_iconst (v := nI 1) hx hb dX3_lowestPart_15 (by decide) ?_
  refine q_icmp_leN (tgt := 44) (a := 6) (b := 1) hx hb dX3_lowestPart_16 (by decide) (by omega) (by omega) (fun h => absurd h (by omega)) (fun _ => ?_)
  refine lv_iload_n hx hb dX3_lowestPart_19 rfl (lv_at hl 2 rfl) ?_
  refine lv_iload hx hb dX3_lowestPart_20 (lv_at hl 0 rfl) ?_
  refine q_iremN (a := 6) (b := 6) hx hb dX3_lowestPart_22 (by omega) (by omega) (by omega) ?_
  refine q_eqi (y := nI 0) (rfl) ?_
  refine q_if_neN (tgt := 38) (a := 0) hx hb dX3_lowestPart_23 (by decide) (by omega) (fun h => absurd h (by omega)) (fun _ => ?_)
  refine lv_iload_n hx hb dX3_lowestPart_26 rfl (lv_at hl 3 rfl) ?_
  refine lv_iload hx hb dX3_lowestPart_27 (lv_at hl 0 rfl) ?_
  refine q_iremN (a := 6) (b := 6) hx hb dX3_lowestPart_29 (by omega) (by omega) (by omega) ?_
  refine q_eqi (y := nI 0) (rfl) ?_
  refine q_if_neN (tgt := 38) (a := 0) hx hb dX3_lowestPart_30 (by decide) (by omega) (fun h => absurd h (by omega)) (fun _ => ?_)
  refine lv_iload_n hx hb dX3_lowestPart_33 rfl (lv_at hl 1 rfl) ?_
  refine lv_iload hx hb dX3_lowestPart_34 (lv_at hl 0 rfl) ?_
  refine q_idivN (a := 6) (b := 6) hx hb dX3_lowestPart_36 (by omega) (by omega) (by omega) ?_
  refine q_eqi (y := nI 1) (rfl) ?_
  exact RO.iret S hr hlk rfl dX3_lowestPart_37
theorem c_X3_lowestPart_w0 (l : Launch) (D : va_G) (cI cJ : ClassId) (t : Nat → Nat) (f g h : Nat → Int32) (τ : Nat → Nat → Int32) (p7 : Nat) (hp7 : p7 ≤ 6) : RO l yX3_lowestPart cX3_lowestPart 5 (some .int) 0 D cI cJ (TW cI cJ t f g h τ) [.int (nI p7), .int (nI 6), .int (nI 0)] (.int (nI (lpt p7 0))) := by
  match p7, hp7 with
  | 0, _ => exact c_X3_lowestPart_0_0 l D cI cJ t f g h τ
  | 1, _ => exact c_X3_lowestPart_1_0 l D cI cJ t f g h τ
  | 2, _ => exact c_X3_lowestPart_2_0 l D cI cJ t f g h τ
  | 3, _ => exact c_X3_lowestPart_3_0 l D cI cJ t f g h τ
  | 4, _ => exact c_X3_lowestPart_4_0 l D cI cJ t f g h τ
  | 5, _ => exact c_X3_lowestPart_5_0 l D cI cJ t f g h τ
  | 6, _ => exact c_X3_lowestPart_6_0 l D cI cJ t f g h τ
theorem c_X3_lowestPart_w1 (l : Launch) (D : va_G) (cI cJ : ClassId) (t : Nat → Nat) (f g h : Nat → Int32) (τ : Nat → Nat → Int32) (p7 : Nat) (hp7 : p7 ≤ 6) : RO l yX3_lowestPart cX3_lowestPart 5 (some .int) 0 D cI cJ (TW cI cJ t f g h τ) [.int (nI p7), .int (nI 6), .int (nI 1)] (.int (nI (lpt p7 1))) := by
  match p7, hp7 with
  | 0, _ => exact c_X3_lowestPart_0_1 l D cI cJ t f g h τ
  | 1, _ => exact c_X3_lowestPart_1_1 l D cI cJ t f g h τ
  | 2, _ => exact c_X3_lowestPart_2_1 l D cI cJ t f g h τ
  | 3, _ => exact c_X3_lowestPart_3_1 l D cI cJ t f g h τ
  | 4, _ => exact c_X3_lowestPart_4_1 l D cI cJ t f g h τ
  | 5, _ => exact c_X3_lowestPart_5_1 l D cI cJ t f g h τ
  | 6, _ => exact c_X3_lowestPart_6_1 l D cI cJ t f g h τ
set_option maxRecDepth 100000 in
set_option maxHeartbeats 4000000 in
theorem c_X3_odds_ok0 (l : Launch) (D : va_G) (cI cJ : ClassId) (t : Nat → Nat) (f g h : Nat → Int32) (τ : Nat → Nat → Int32) (q : Nat) (n : Nat) (hw : Wk f n) (hq : q ≤ 23) : WR l yX3_odds cX3_odds 8 (some .long) 2 D cI cJ (TW cI cJ t f g h τ) [.ref (t 0), .int (nI q), .int (nI 0)] (some (.long (lN ((6 - popc (sUs f n)) ^ q / Nat.gcd (6 ^ q) ((6 - popc (sUs f n)) ^ q))))) (TW cI cJ t f g h τ) := by
  have h8 := hw.2.1
  have hu := sUs_lt hw (Nat.le_refl n)
  have hu6 := popc_le6 _ hu
  refine WR.of (by decide) (Nat.le_of_ble_eq_true rfl) (fun p e s m below meth c ls A S hr hlk hK hP hD hS hA hl => ?_)
  obtain ⟨hx, hb, hml, hown, hU⟩ := id S
  have hl : lv_has ls 8 [(0, .ref (t 0)), (1, .int (nI q)), (2, .int (nI 0))] := hl
  refine lv_iload_n hx hb dX3_odds_0 rfl (lv_at hl 1 rfl) ?_
  refine lv_bipush (v := nI 23) hx hb dX3_odds_1 (by decide) ?_
  refine RO.callS S ks_X3_44 (c_X3_isWithin l D cI cJ t f g h τ (nI q) (nI 23)) hK hP ⟨Nat.le_of_ble_eq_true rfl, Nat.le_of_ble_eq_true rfl⟩ hl.1 rfl rfl (Nat.le_of_ble_eq_true rfl) (Nat.zero_le _) (Nat.zero_le _) dX3_odds_3 ?_
  refine q_if_eqB (tgt := 17) hx hb dX3_odds_6 (by decide) (fun h => absurd (⟨nI_le (by omega) (by omega), nI_le (by omega) (by omega)⟩) h) (fun _ => ?_)
  refine lv_iload_n hx hb dX3_odds_9 rfl (lv_at hl 2 rfl) ?_
  refine lv_iconst (v := nI 1) hx hb dX3_odds_10 (by decide) ?_
  refine RO.callS S ks_X3_44 (c_X3_isWithin l D cI cJ t f g h τ (nI 0) (nI 1)) hK hP ⟨Nat.le_of_ble_eq_true rfl, Nat.le_of_ble_eq_true rfl⟩ hl.1 rfl rfl (Nat.le_of_ble_eq_true rfl) (Nat.zero_le _) (Nat.zero_le _) dX3_odds_11 ?_
  refine q_if_neB (tgt := 24) hx hb dX3_odds_14 (by decide) (fun _ => ?_) (fun h => absurd (⟨nI_le (by omega) (by omega), nI_le (by omega) (by omega)⟩) h)
  refine lv_bipush (v := nI 6) hx hb dX3_odds_24 (by decide) ?_
  refine lv_aload_n hx hb dX3_odds_26 rfl (lv_at hl 0 rfl) ?_
  refine g3_live S hK hP dX3_odds_27 ?_
  refine RO.callV S kv_X3_122 (c_X0_setOfCellars l D cI cJ (sf t 1) f n (hw)) hK (TW_live hP) rfl ⟨Nat.le_of_ble_eq_true rfl, Nat.le_of_ble_eq_true rfl⟩ hl.1 rfl rfl (Nat.le_of_ble_eq_true rfl) (Nat.zero_le _) (Nat.zero_le _) dX3_odds_30 ?_
  refine RO.callS S ks_X3_145 (c_J6_bitCount_0f7a4 l D cI cJ t f g h τ (sUs f n) (by omega)) hK hP ⟨Nat.le_of_ble_eq_true rfl, Nat.le_of_ble_eq_true rfl⟩ hl.1 rfl rfl (Nat.le_of_ble_eq_true rfl) (Nat.zero_le _) (Nat.zero_le _) dX3_odds_33 ?_
  refine q_isubN (a := 6) (b := popc (sUs f n)) hx hb dX3_odds_36 (by omega) ?_
  refine lv_istore_n (lv' := [(3, .int (nI (6 - (popc (sUs f n))))), (0, .ref (t 0)), (1, .int (nI q)), (2, .int (nI 0))]) hx hb dX3_odds_37 rfl hl (by decide) rfl (fun ls hl => ?_)
  refine lv_iload_n hx hb dX3_odds_38 rfl (lv_at hl 0 rfl) ?_
  refine lv_bipush (v := nI 6) hx hb dX3_odds_39 (by decide) ?_
  refine lv_iload_n hx hb dX3_odds_41 rfl (lv_at hl 3 rfl) ?_
  refine RO.callS S ks_X3_166 (c_X3_lowestPart_w0 l D cI cJ t f g h τ (6 - (popc (sUs f n))) (by omega)) hK hP ⟨Nat.le_of_ble_eq_true rfl, Nat.le_of_ble_eq_true rfl⟩ hl.1 rfl rfl (Nat.le_of_ble_eq_true rfl) (Nat.zero_le _) (Nat.zero_le _) dX3_odds_42 ?_
  refine lv_istore (lv' := [(4, .int (nI (lpt (6 - (popc (sUs f n))) 0))), (3, .int (nI (6 - (popc (sUs f n))))), (0, .ref (t 0)), (1, .int (nI q)), (2, .int (nI 0))]) hx hb dX3_odds_45 hl (by decide) rfl (fun ls hl => ?_)
  refine lv_lconst (v := lN 1) hx hb dX3_odds_47 (by decide) ?_
  refine lv_lstore (lv' := [(5, .long (lN 1)), (4, .int (nI (lpt (6 - (popc (sUs f n))) 0))), (3, .int (nI (6 - (popc (sUs f n))))), (0, .ref (t 0)), (1, .int (nI q)), (2, .int (nI 0))]) hx hb dX3_odds_48 hl (by decide) rfl (fun ls hl => ?_)
  refine lv_iconst (v := nI 0) hx hb dX3_odds_50 (by decide) ?_
  refine lv_istore (lv' := [(7, .int (nI 0)), (5, .long (lN 1)), (4, .int (nI (lpt (6 - (popc (sUs f n))) 0))), (3, .int (nI (6 - (popc (sUs f n))))), (0, .ref (t 0)), (1, .int (nI q)), (2, .int (nI 0))]) hx hb dX3_odds_51 hl (by decide) rfl (fun ls hl => ?_)
  have L_53 : ∀ (n9 : Nat) (j : Nat) (H : Heap) (locs : List Loc) (ls : Array Slot), q - j < n9 → (j ≤ q) → va_P D vwCl (TW cI cJ t f g h τ) H → va_D A (TW cI cJ t f g h τ) → va_S A s.heap H locs → lv_has ls 8 [(0, .ref (t 0)), (1, .int (nI q)), (4, .int (nI (lpt (6 - popc (sUs f n)) 0))), (5, .long (lN ((lpt (6 - popc (sUs f n)) 0) ^ j))), (7, .int (nI j))] → W p l e (rmd 2) s m ([.ref (t 0), .int (nI q), .int (nI 0)] : List Value).toArray below meth c H locs 0 0 (ZW below ([.ref (t 0), .int (nI q), .int (nI 0)] : List Value).toArray s D (some (.long (lN ((6 - popc (sUs f n)) ^ q / Nat.gcd (6 ^ q) ((6 - popc (sUs f n)) ^ q))))) (TW cI cJ t f g h τ) A) (F0 m 53 ls []) := by
    intro n9
    induction n9 with
    | zero => intro j H locs ls hmeas; exact absurd hmeas (Nat.not_lt_zero _)
    | succ n9 ih_53 =>
      intro j H locs ls hmeas hj hP hD hS hl
      have hl6 := lpt_le (6 - popc (sUs f n)) (by omega) 0 (by omega)
      refine lv_iload hx hb dX3_odds_53 (lv_at hl 4 rfl) ?_
      refine lv_iload_n hx hb dX3_odds_55 rfl (lv_at hl 1 rfl) ?_
      refine q_icmp_geN (tgt := 73) (a := j) (b := q) hx hb dX3_odds_56 (by decide) (by omega) (by omega) (fun c_56 => ?_) (fun c_56 => ?_)
      · refine lv_lload hx hb dX3_odds_73 (lv_at hl 3 rfl) ?_
        exact WR.lret S hr hlk hP hS (rfl) (congrArg (fun z => some (Value.long z)) (by rw [show j = q by omega, lpt_pow0 _ (by omega) q hq])) dX3_odds_75
      · refine lv_lload hx hb dX3_odds_59 (lv_at hl 3 rfl) ?_
        refine lv_iload hx hb dX3_odds_61 (lv_at hl 2 rfl) ?_
        refine lv_i2l hx hb dX3_odds_63 rfl ?_
        refine q_eql (y := lN (lpt (6 - popc (sUs f n)) 0)) (nI_l (by omega)) ?_
        refine lv_lmul hx hb dX3_odds_64 ?_
        refine q_eql (y := lN (((lpt (6 - popc (sUs f n)) 0) ^ j) * (lpt (6 - popc (sUs f n)) 0))) (lN_mul _ _) ?_
        refine lv_lstore (lv' := [(5, .long (lN (((lpt (6 - popc (sUs f n)) 0) ^ j) * (lpt (6 - popc (sUs f n)) 0)))), (0, .ref (t 0)), (1, .int (nI q)), (4, .int (nI (lpt (6 - popc (sUs f n)) 0))), (7, .int (nI j))]) hx hb dX3_odds_65 hl (by decide) rfl (fun ls hl => ?_)
        refine lv_iinc (v := nI (j + 1)) (lv' := [(7, .int (nI (j + 1))), (5, .long (lN (((lpt (6 - popc (sUs f n)) 0) ^ j) * (lpt (6 - popc (sUs f n)) 0)))), (0, .ref (t 0)), (1, .int (nI q)), (4, .int (nI (lpt (6 - popc (sUs f n)) 0)))]) hx hb dX3_odds_67 hl (k := 4) rfl (q_inc _) (by decide) rfl (fun ls hl => ?_)
        refine lv_goto (tgt := 53) hx hb dX3_odds_70 (by decide) ?_
        exact ih_53 (j + 1) _ _ ls (by omega) (by omega) hP hD hS (by rw [show lN ((lpt (6 - popc (sUs f n)) 0) ^ (j + 1)) = lN (((lpt (6 - popc (sUs f n)) 0) ^ j) * (lpt (6 - popc (sUs f n)) 0)) from congrArg lN (Nat.pow_succ _ _)]; exact lv_sub hl [2, 3, 4, 1, 0] rfl)
  exact L_53 ((q - 0) + 1) 0 _ _ ls (Nat.lt_succ_self _) (Nat.zero_le _) hP hD hS (by rw [show lN ((lpt (6 - popc (sUs f n)) 0) ^ 0) = lN 1 from rfl]; exact lv_sub hl [4, 5, 2, 1, 0] rfl)
set_option maxRecDepth 100000 in
set_option maxHeartbeats 4000000 in
theorem c_X3_odds_ok1 (l : Launch) (D : va_G) (cI cJ : ClassId) (t : Nat → Nat) (f g h : Nat → Int32) (τ : Nat → Nat → Int32) (q : Nat) (n : Nat) (hw : Wk f n) (hq : q ≤ 23) : WR l yX3_odds cX3_odds 8 (some .long) 2 D cI cJ (TW cI cJ t f g h τ) [.ref (t 0), .int (nI q), .int (nI 1)] (some (.long (lN (6 ^ q / Nat.gcd (6 ^ q) ((6 - popc (sUs f n)) ^ q))))) (TW cI cJ t f g h τ) := by
  have h8 := hw.2.1
  have hu := sUs_lt hw (Nat.le_refl n)
  have hu6 := popc_le6 _ hu
  refine WR.of (by decide) (Nat.le_of_ble_eq_true rfl) (fun p e s m below meth c ls A S hr hlk hK hP hD hS hA hl => ?_)
  obtain ⟨hx, hb, hml, hown, hU⟩ := id S
  have hl : lv_has ls 8 [(0, .ref (t 0)), (1, .int (nI q)), (2, .int (nI 1))] := hl
  refine lv_iload_n hx hb dX3_odds_0 rfl (lv_at hl 1 rfl) ?_
  refine lv_bipush (v := nI 23) hx hb dX3_odds_1 (by decide) ?_
  refine RO.callS S ks_X3_44 (c_X3_isWithin l D cI cJ t f g h τ (nI q) (nI 23)) hK hP ⟨Nat.le_of_ble_eq_true rfl, Nat.le_of_ble_eq_true rfl⟩ hl.1 rfl rfl (Nat.le_of_ble_eq_true rfl) (Nat.zero_le _) (Nat.zero_le _) dX3_odds_3 ?_
  refine q_if_eqB (tgt := 17) hx hb dX3_odds_6 (by decide) (fun h => absurd (⟨nI_le (by omega) (by omega), nI_le (by omega) (by omega)⟩) h) (fun _ => ?_)
  refine lv_iload_n hx hb dX3_odds_9 rfl (lv_at hl 2 rfl) ?_
  refine lv_iconst (v := nI 1) hx hb dX3_odds_10 (by decide) ?_
  refine RO.callS S ks_X3_44 (c_X3_isWithin l D cI cJ t f g h τ (nI 1) (nI 1)) hK hP ⟨Nat.le_of_ble_eq_true rfl, Nat.le_of_ble_eq_true rfl⟩ hl.1 rfl rfl (Nat.le_of_ble_eq_true rfl) (Nat.zero_le _) (Nat.zero_le _) dX3_odds_11 ?_
  refine q_if_neB (tgt := 24) hx hb dX3_odds_14 (by decide) (fun _ => ?_) (fun h => absurd (⟨nI_le (by omega) (by omega), nI_le (by omega) (by omega)⟩) h)
  refine lv_bipush (v := nI 6) hx hb dX3_odds_24 (by decide) ?_
  refine lv_aload_n hx hb dX3_odds_26 rfl (lv_at hl 0 rfl) ?_
  refine g3_live S hK hP dX3_odds_27 ?_
  refine RO.callV S kv_X3_122 (c_X0_setOfCellars l D cI cJ (sf t 1) f n (hw)) hK (TW_live hP) rfl ⟨Nat.le_of_ble_eq_true rfl, Nat.le_of_ble_eq_true rfl⟩ hl.1 rfl rfl (Nat.le_of_ble_eq_true rfl) (Nat.zero_le _) (Nat.zero_le _) dX3_odds_30 ?_
  refine RO.callS S ks_X3_145 (c_J6_bitCount_0f7a4 l D cI cJ t f g h τ (sUs f n) (by omega)) hK hP ⟨Nat.le_of_ble_eq_true rfl, Nat.le_of_ble_eq_true rfl⟩ hl.1 rfl rfl (Nat.le_of_ble_eq_true rfl) (Nat.zero_le _) (Nat.zero_le _) dX3_odds_33 ?_
  refine q_isubN (a := 6) (b := popc (sUs f n)) hx hb dX3_odds_36 (by omega) ?_
  refine lv_istore_n (lv' := [(3, .int (nI (6 - (popc (sUs f n))))), (0, .ref (t 0)), (1, .int (nI q)), (2, .int (nI 1))]) hx hb dX3_odds_37 rfl hl (by decide) rfl (fun ls hl => ?_)
  refine lv_iload_n hx hb dX3_odds_38 rfl (lv_at hl 0 rfl) ?_
  refine lv_bipush (v := nI 6) hx hb dX3_odds_39 (by decide) ?_
  refine lv_iload_n hx hb dX3_odds_41 rfl (lv_at hl 3 rfl) ?_
  refine RO.callS S ks_X3_166 (c_X3_lowestPart_w1 l D cI cJ t f g h τ (6 - (popc (sUs f n))) (by omega)) hK hP ⟨Nat.le_of_ble_eq_true rfl, Nat.le_of_ble_eq_true rfl⟩ hl.1 rfl rfl (Nat.le_of_ble_eq_true rfl) (Nat.zero_le _) (Nat.zero_le _) dX3_odds_42 ?_
  refine lv_istore (lv' := [(4, .int (nI (lpt (6 - (popc (sUs f n))) 1))), (3, .int (nI (6 - (popc (sUs f n))))), (0, .ref (t 0)), (1, .int (nI q)), (2, .int (nI 1))]) hx hb dX3_odds_45 hl (by decide) rfl (fun ls hl => ?_)
  refine lv_lconst (v := lN 1) hx hb dX3_odds_47 (by decide) ?_
  refine lv_lstore (lv' := [(5, .long (lN 1)), (4, .int (nI (lpt (6 - (popc (sUs f n))) 1))), (3, .int (nI (6 - (popc (sUs f n))))), (0, .ref (t 0)), (1, .int (nI q)), (2, .int (nI 1))]) hx hb dX3_odds_48 hl (by decide) rfl (fun ls hl => ?_)
  refine lv_iconst (v := nI 0) hx hb dX3_odds_50 (by decide) ?_
  refine lv_istore (lv' := [(7, .int (nI 0)), (5, .long (lN 1)), (4, .int (nI (lpt (6 - (popc (sUs f n))) 1))), (3, .int (nI (6 - (popc (sUs f n))))), (0, .ref (t 0)), (1, .int (nI q)), (2, .int (nI 1))]) hx hb dX3_odds_51 hl (by decide) rfl (fun ls hl => ?_)
  have L_53 : ∀ (n9 : Nat) (j : Nat) (H : Heap) (locs : List Loc) (ls : Array Slot), q - j < n9 → (j ≤ q) → va_P D vwCl (TW cI cJ t f g h τ) H → va_D A (TW cI cJ t f g h τ) → va_S A s.heap H locs → lv_has ls 8 [(0, .ref (t 0)), (1, .int (nI q)), (4, .int (nI (lpt (6 - popc (sUs f n)) 1))), (5, .long (lN ((lpt (6 - popc (sUs f n)) 1) ^ j))), (7, .int (nI j))] → W p l e (rmd 2) s m ([.ref (t 0), .int (nI q), .int (nI 1)] : List Value).toArray below meth c H locs 0 0 (ZW below ([.ref (t 0), .int (nI q), .int (nI 1)] : List Value).toArray s D (some (.long (lN (6 ^ q / Nat.gcd (6 ^ q) ((6 - popc (sUs f n)) ^ q))))) (TW cI cJ t f g h τ) A) (F0 m 53 ls []) := by
    intro n9
    induction n9 with
    | zero => intro j H locs ls hmeas; exact absurd hmeas (Nat.not_lt_zero _)
    | succ n9 ih_53 =>
      intro j H locs ls hmeas hj hP hD hS hl
      have hl6 := lpt_le (6 - popc (sUs f n)) (by omega) 1 (by omega)
      refine lv_iload hx hb dX3_odds_53 (lv_at hl 4 rfl) ?_
      refine lv_iload_n hx hb dX3_odds_55 rfl (lv_at hl 1 rfl) ?_
      refine q_icmp_geN (tgt := 73) (a := j) (b := q) hx hb dX3_odds_56 (by decide) (by omega) (by omega) (fun c_56 => ?_) (fun c_56 => ?_)
      · refine lv_lload hx hb dX3_odds_73 (lv_at hl 3 rfl) ?_
        exact WR.lret S hr hlk hP hS (rfl) (congrArg (fun z => some (Value.long z)) (by rw [show j = q by omega, lpt_pow1 _ (by omega) q hq])) dX3_odds_75
      · refine lv_lload hx hb dX3_odds_59 (lv_at hl 3 rfl) ?_
        refine lv_iload hx hb dX3_odds_61 (lv_at hl 2 rfl) ?_
        refine lv_i2l hx hb dX3_odds_63 rfl ?_
        refine q_eql (y := lN (lpt (6 - popc (sUs f n)) 1)) (nI_l (by omega)) ?_
        refine lv_lmul hx hb dX3_odds_64 ?_
        refine q_eql (y := lN (((lpt (6 - popc (sUs f n)) 1) ^ j) * (lpt (6 - popc (sUs f n)) 1))) (lN_mul _ _) ?_
        refine lv_lstore (lv' := [(5, .long (lN (((lpt (6 - popc (sUs f n)) 1) ^ j) * (lpt (6 - popc (sUs f n)) 1)))), (0, .ref (t 0)), (1, .int (nI q)), (4, .int (nI (lpt (6 - popc (sUs f n)) 1))), (7, .int (nI j))]) hx hb dX3_odds_65 hl (by decide) rfl (fun ls hl => ?_)
        refine lv_iinc (v := nI (j + 1)) (lv' := [(7, .int (nI (j + 1))), (5, .long (lN (((lpt (6 - popc (sUs f n)) 1) ^ j) * (lpt (6 - popc (sUs f n)) 1)))), (0, .ref (t 0)), (1, .int (nI q)), (4, .int (nI (lpt (6 - popc (sUs f n)) 1)))]) hx hb dX3_odds_67 hl (k := 4) rfl (q_inc _) (by decide) rfl (fun ls hl => ?_)
        refine lv_goto (tgt := 53) hx hb dX3_odds_70 (by decide) ?_
        exact ih_53 (j + 1) _ _ ls (by omega) (by omega) hP hD hS (by rw [show lN ((lpt (6 - popc (sUs f n)) 1) ^ (j + 1)) = lN (((lpt (6 - popc (sUs f n)) 1) ^ j) * (lpt (6 - popc (sUs f n)) 1)) from congrArg lN (Nat.pow_succ _ _)]; exact lv_sub hl [2, 3, 4, 1, 0] rfl)
  exact L_53 ((q - 0) + 1) 0 _ _ ls (Nat.lt_succ_self _) (Nat.zero_le _) hP hD hS (by rw [show lN ((lpt (6 - popc (sUs f n)) 1) ^ 0) = lN 1 from rfl]; exact lv_sub hl [4, 5, 2, 1, 0] rfl)
set_option maxRecDepth 100000 in
set_option maxHeartbeats 4000000 in
theorem c_X3_odds_bad (l : Launch) (D : va_G) (cI cJ : ClassId) (t : Nat → Nat) (f g h : Nat → Int32) (τ : Nat → Nat → Int32) (x : Int32) (y : Int32) (hb0 : ¬ ((nI 0 ≤ x ∧ x ≤ nI 23) ∧ (nI 0 ≤ y ∧ y ≤ nI 1))) : WR l yX3_odds cX3_odds 8 (some .long) 2 D cI cJ (TW cI cJ t f g h τ) [.ref (t 0), .int x, .int y] (some (.long ((-1000001 : Int32).toInt64))) (TW cI cJ t f g h (va_up τ 9 (cFi (τ 9) 0))) := by
  refine WR.of (by decide) (Nat.le_of_ble_eq_true rfl) (fun p e s m below meth c ls A S hr hlk hK hP hD hS hA hl => ?_)
  obtain ⟨hx, hb, hml, hown, hU⟩ := id S
  have hl : lv_has ls 8 [(0, .ref (t 0)), (1, .int x), (2, .int y)] := hl
  refine lv_iload_n hx hb dX3_odds_0 rfl (lv_at hl 1 rfl) ?_
  refine lv_bipush (v := nI 23) hx hb dX3_odds_1 (by decide) ?_
  refine RO.callS S ks_X3_44 (c_X3_isWithin l D cI cJ t f g h τ x (nI 23)) hK hP ⟨Nat.le_of_ble_eq_true rfl, Nat.le_of_ble_eq_true rfl⟩ hl.1 rfl rfl (Nat.le_of_ble_eq_true rfl) (Nat.zero_le _) (Nat.zero_le _) dX3_odds_3 ?_
  refine q_if_eqB (tgt := 17) hx hb dX3_odds_6 (by decide) (fun c_6 => ?_) (fun c_6 => ?_)
  · refine lv_aload_n hx hb dX3_odds_17 rfl (lv_at hl 0 rfl) ?_
    refine lv_iconst (v := nI 0) hx hb dX3_odds_18 (by decide) ?_
    refine WR.callV (w1 := TW cI cJ t f g h (va_up τ 9 (cFi (τ 9) 0))) S kv_X3_48 (c_X3_fd0 l D cI cJ t f g h τ) hK hP hD hS hA ([]) ([]) (List.append_nil _).symm (List.append_nil _).symm TW_fst rfl ⟨Nat.le_of_ble_eq_true rfl, Nat.le_of_ble_eq_true rfl⟩ hl.1 rfl rfl (Nat.le_of_ble_eq_true rfl) (Nat.zero_le _) (Nat.zero_le _) dX3_odds_19 (fun H locs hP hD hS => ?_)
    refine lv_i2l hx hb dX3_odds_22 rfl ?_
    exact WR.lret S hr hlk hP hS (rfl) rfl dX3_odds_23
  · refine lv_iload_n hx hb dX3_odds_9 rfl (lv_at hl 2 rfl) ?_
    refine lv_iconst (v := nI 1) hx hb dX3_odds_10 (by decide) ?_
    refine RO.callS S ks_X3_44 (c_X3_isWithin l D cI cJ t f g h τ y (nI 1)) hK hP ⟨Nat.le_of_ble_eq_true rfl, Nat.le_of_ble_eq_true rfl⟩ hl.1 rfl rfl (Nat.le_of_ble_eq_true rfl) (Nat.zero_le _) (Nat.zero_le _) dX3_odds_11 ?_
    refine q_if_neB (tgt := 24) hx hb dX3_odds_14 (by decide) (fun c_14 => ?_) (fun c_14 => ?_)
    · exact absurd (⟨c_6, c_14⟩) hb0
    · refine lv_aload_n hx hb dX3_odds_17 rfl (lv_at hl 0 rfl) ?_
      refine lv_iconst (v := nI 0) hx hb dX3_odds_18 (by decide) ?_
      refine WR.callV (w1 := TW cI cJ t f g h (va_up τ 9 (cFi (τ 9) 0))) S kv_X3_48 (c_X3_fd0 l D cI cJ t f g h τ) hK hP hD hS hA ([]) ([]) (List.append_nil _).symm (List.append_nil _).symm TW_fst rfl ⟨Nat.le_of_ble_eq_true rfl, Nat.le_of_ble_eq_true rfl⟩ hl.1 rfl rfl (Nat.le_of_ble_eq_true rfl) (Nat.zero_le _) (Nat.zero_le _) dX3_odds_19 (fun H locs hP hD hS => ?_)
      refine lv_i2l hx hb dX3_odds_22 rfl ?_
      exact WR.lret S hr hlk hP hS (rfl) rfl dX3_odds_23

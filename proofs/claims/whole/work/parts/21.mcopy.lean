/-- m numbers from place A on come to place B on, as they all were -/
def cpF (u : Nat → Int32) (A B m : Nat) : Nat → Int32 := fun x => if B ≤ x ∧ x < B + m then u (A + (x - B)) else u x
/-- after k of them: from the last on where A is below B, else from the first on -/
def cpK (u : Nat → Int32) (A B m k : Nat) : Nat → Int32 := fun x => if (if A < B then B + (m - k) ≤ x ∧ x < B + m else B ≤ x ∧ x < B + k) then u (A + (x - B)) else u x
theorem cpK_0 {u : Nat → Int32} {A B m : Nat} : cpK u A B m 0 = u := by
  funext x
  unfold cpK
  by_cases h : A < B
  · simp only [h, if_true]
    rw [if_neg (by omega)]
  · simp only [h, if_false]
    rw [if_neg (by omega)]
theorem cpK_n {u : Nat → Int32} {A B m : Nat} : cpK u A B m m = cpF u A B m := by
  funext x
  unfold cpK cpF
  by_cases h : A < B
  · simp only [h, if_true, Nat.sub_self, Nat.add_zero]
  · simp only [h, if_false]
theorem cpK_d {u : Nat → Int32} {A B m k : Nat} (h : A < B) (hk : k < m) : cpK u A B m (k + 1) = upd (cpK u A B m k) (B + (m - 1 - k)) (cpK u A B m k (A + (m - 1 - k))) := by
  have e1 : cpK u A B m k (A + (m - 1 - k)) = u (A + (m - 1 - k)) := by
    unfold cpK
    simp only [h, if_true]
    rw [if_neg (by omega)]
  rw [e1]
  funext x
  unfold upd
  by_cases e : x = B + (m - 1 - k)
  · rw [if_pos e]
    unfold cpK
    simp only [h, if_true]
    rw [if_pos (by omega), show A + (x - B) = A + (m - 1 - k) by omega]
  · rw [if_neg e]
    unfold cpK
    simp only [h, if_true]
    by_cases c : B + (m - k) ≤ x ∧ x < B + m
    · rw [if_pos c, if_pos (by omega)]
    · rw [if_neg c, if_neg (by omega)]
theorem cpK_a {u : Nat → Int32} {A B m k : Nat} (h : B ≤ A) (hk : k < m) : cpK u A B m (k + 1) = upd (cpK u A B m k) (B + k) (cpK u A B m k (A + k)) := by
  have h0 : ¬ A < B := by omega
  have e1 : cpK u A B m k (A + k) = u (A + k) := by
    unfold cpK
    simp only [h0, if_false]
    rw [if_neg (by omega)]
  rw [e1]
  funext x
  unfold upd
  by_cases e : x = B + k
  · rw [if_pos e]
    unfold cpK
    simp only [h0, if_false]
    rw [if_pos (by omega), show A + (x - B) = A + k by omega]
  · rw [if_neg e]
    unfold cpK
    simp only [h0, if_false]
    by_cases c : B ≤ x ∧ x < B + k
    · rw [if_pos c, if_pos (by omega)]
    · rw [if_neg c, if_neg (by omega)]
set_option maxRecDepth 100000 in
set_option maxHeartbeats 4000000 in
theorem c_X4_copy_bad (l : Launch) (D : va_G) (cI cJ : ClassId) (a : Nat → Nat) (f : Nat → Int32) (σ : Nat → Nat → Int32) (x : Int32) (y : Int32) (z : Int32) (u : Int32) (v : Int32) (hb0 : ¬ ((nI 0 ≤ x ∧ x ≤ nI 3) ∧ (nI 0 ≤ z ∧ z ≤ nI 3))) : WR l yX4_copy cX4_copy 10 (some .int) 1 D cI cJ (MW cI a f σ) [.ref (a 0), .int x, .int y, .int z, .int u, .int v] (some (.int (-1000001))) (MW cI a f (va_up σ 4 (mFi (σ 4) 0))) := by
  refine WR.of (by decide) (Nat.le_of_ble_eq_true rfl) (fun p e s m below meth c ls A S hr hlk hK hP hD hS hA hl => ?_)
  obtain ⟨hx, hb, hml, hown, hU⟩ := id S
  have hl : lv_has ls 10 [(0, .ref (a 0)), (1, .int x), (2, .int y), (3, .int z), (4, .int u), (5, .int v)] := hl
  refine lv_iload_n hx hb dX4_copy_0 rfl (lv_at hl 1 rfl) ?_
  refine RO.callS S ks_X4_283 (c_X4_isSheet l D cI cJ a f σ x) hK hP ⟨Nat.le_of_ble_eq_true rfl, Nat.le_of_ble_eq_true rfl⟩ hl.1 rfl rfl (Nat.le_of_ble_eq_true rfl) (Nat.zero_le _) (Nat.zero_le _) dX4_copy_1 ?_
  refine q_if_eqB (tgt := 14) hx hb dX4_copy_4 (by decide) (fun c_4 => ?_) (fun c_4 => ?_)
  · refine lv_aload_n hx hb dX4_copy_14 rfl (lv_at hl 0 rfl) ?_
    refine lv_ldc (v := (-1000001)) hx hb hown (hU _ mK_X4_37) dX4_copy_15 ?_
    refine WR.callV (w1 := MW cI a f (va_up σ 4 (mFi (σ 4) 0))) S kv_X4_39 (c_X4_fd0 l D cI cJ a f σ) hK hP hD hS hA ([]) ([]) rfl rfl MW_fst rfl ⟨Nat.le_of_ble_eq_true rfl, Nat.le_of_ble_eq_true rfl⟩ hl.1 rfl rfl (Nat.le_of_ble_eq_true rfl) (Nat.zero_le _) (Nat.zero_le _) dX4_copy_17 (fun H locs hP hD hS => ?_)
    exact WR.iret S hr hlk hP hS (rfl) rfl dX4_copy_20
  · refine lv_iload_n hx hb dX4_copy_7 rfl (lv_at hl 3 rfl) ?_
    refine RO.callS S ks_X4_283 (c_X4_isSheet l D cI cJ a f σ z) hK hP ⟨Nat.le_of_ble_eq_true rfl, Nat.le_of_ble_eq_true rfl⟩ hl.1 rfl rfl (Nat.le_of_ble_eq_true rfl) (Nat.zero_le _) (Nat.zero_le _) dX4_copy_8 ?_
    refine q_if_neB (tgt := 21) hx hb dX4_copy_11 (by decide) (fun c_11 => ?_) (fun c_11 => ?_)
    · exact absurd (⟨rg3 c_4, rg3 c_11⟩) hb0
    · refine lv_aload_n hx hb dX4_copy_14 rfl (lv_at hl 0 rfl) ?_
      refine lv_ldc (v := (-1000001)) hx hb hown (hU _ mK_X4_37) dX4_copy_15 ?_
      refine WR.callV (w1 := MW cI a f (va_up σ 4 (mFi (σ 4) 0))) S kv_X4_39 (c_X4_fd0 l D cI cJ a f σ) hK hP hD hS hA ([]) ([]) rfl rfl MW_fst rfl ⟨Nat.le_of_ble_eq_true rfl, Nat.le_of_ble_eq_true rfl⟩ hl.1 rfl rfl (Nat.le_of_ble_eq_true rfl) (Nat.zero_le _) (Nat.zero_le _) dX4_copy_17 (fun H locs hP hD hS => ?_)
      exact WR.iret S hr hlk hP hS (rfl) rfl dX4_copy_20
set_option maxRecDepth 100000 in
set_option maxHeartbeats 4000000 in
theorem c_X4_copy_miss (l : Launch) (D : va_G) (cI cJ : ClassId) (a : Nat → Nat) (f : Nat → Int32) (σ : Nat → Nat → Int32) (sh : Nat) (hsh : sh < 4) (th : Nat) (hth : th < 4) (y : Int32) (u : Int32) (v : Int32) (hb0 : ¬ (0 ≤ σ 6 sh ∧ 0 ≤ σ 6 th)) : WR l yX4_copy cX4_copy 10 (some .int) 1 D cI cJ (MW cI a f σ) [.ref (a 0), .int (nI sh), .int y, .int (nI th), .int u, .int v] (some (.int (-1000006))) (MW cI a f (va_up σ 4 (mFi (σ 4) 5))) := by
  refine WR.of (by decide) (Nat.le_of_ble_eq_true rfl) (fun p e s m below meth c ls A S hr hlk hK hP hD hS hA hl => ?_)
  obtain ⟨hx, hb, hml, hown, hU⟩ := id S
  have hl : lv_has ls 10 [(0, .ref (a 0)), (1, .int (nI sh)), (2, .int y), (3, .int (nI th)), (4, .int u), (5, .int v)] := hl
  refine lv_iload_n hx hb dX4_copy_0 rfl (lv_at hl 1 rfl) ?_
  refine RO.callS S ks_X4_283 (c_X4_isSheet l D cI cJ a f σ (nI sh)) hK hP ⟨Nat.le_of_ble_eq_true rfl, Nat.le_of_ble_eq_true rfl⟩ hl.1 rfl rfl (Nat.le_of_ble_eq_true rfl) (Nat.zero_le _) (Nat.zero_le _) dX4_copy_1 ?_
  refine q_if_eqB (tgt := 14) hx hb dX4_copy_4 (by decide) (fun h => absurd (⟨nI_pos' (by omega), nI_lt (by omega) (by decide)⟩) h) (fun _ => ?_)
  refine lv_iload_n hx hb dX4_copy_7 rfl (lv_at hl 3 rfl) ?_
  refine RO.callS S ks_X4_283 (c_X4_isSheet l D cI cJ a f σ (nI th)) hK hP ⟨Nat.le_of_ble_eq_true rfl, Nat.le_of_ble_eq_true rfl⟩ hl.1 rfl rfl (Nat.le_of_ble_eq_true rfl) (Nat.zero_le _) (Nat.zero_le _) dX4_copy_8 ?_
  refine q_if_neB (tgt := 21) hx hb dX4_copy_11 (by decide) (fun _ => ?_) (fun h => absurd (⟨nI_pos' (by omega), nI_lt (by omega) (by decide)⟩) h)
  refine lv_aload_n hx hb dX4_copy_21 rfl (lv_at hl 0 rfl) ?_
  refine g4_bitsOf S hK hP dX4_copy_22 ?_
  refine lv_iload_n hx hb dX4_copy_25 rfl (lv_at hl 1 rfl) ?_
  refine l4_bitsOf S hK hP (j := sh) (by omega) dX4_copy_26 ?_
  refine lv_if_lt (tgt := 39) hx hb dX4_copy_27 (by decide) (fun c_27 => ?_) (fun c_27 => ?_)
  · refine lv_aload_n hx hb dX4_copy_39 rfl (lv_at hl 0 rfl) ?_
    refine lv_ldcw (v := (-1000006)) hx hb hown (hU _ mK_X4_278) dX4_copy_40 ?_
    refine WR.callV (w1 := MW cI a f (va_up σ 4 (mFi (σ 4) 5))) S kv_X4_39 (c_X4_fd5 l D cI cJ a f σ) hK hP hD hS hA ([]) ([]) rfl rfl MW_fst rfl ⟨Nat.le_of_ble_eq_true rfl, Nat.le_of_ble_eq_true rfl⟩ hl.1 rfl rfl (Nat.le_of_ble_eq_true rfl) (Nat.zero_le _) (Nat.zero_le _) dX4_copy_43 (fun H locs hP hD hS => ?_)
    exact WR.iret S hr hlk hP hS (rfl) rfl dX4_copy_46
  · refine lv_aload_n hx hb dX4_copy_30 rfl (lv_at hl 0 rfl) ?_
    refine g4_bitsOf S hK hP dX4_copy_31 ?_
    refine lv_iload_n hx hb dX4_copy_34 rfl (lv_at hl 3 rfl) ?_
    refine l4_bitsOf S hK hP (j := th) (by omega) dX4_copy_35 ?_
    refine lv_if_ge (tgt := 47) hx hb dX4_copy_36 (by decide) (fun c_36 => ?_) (fun c_36 => ?_)
    · exact absurd (⟨i32_le_of_not_lt c_27, c_36⟩) hb0
    · refine lv_aload_n hx hb dX4_copy_39 rfl (lv_at hl 0 rfl) ?_
      refine lv_ldcw (v := (-1000006)) hx hb hown (hU _ mK_X4_278) dX4_copy_40 ?_
      refine WR.callV (w1 := MW cI a f (va_up σ 4 (mFi (σ 4) 5))) S kv_X4_39 (c_X4_fd5 l D cI cJ a f σ) hK hP hD hS hA ([]) ([]) rfl rfl MW_fst rfl ⟨Nat.le_of_ble_eq_true rfl, Nat.le_of_ble_eq_true rfl⟩ hl.1 rfl rfl (Nat.le_of_ble_eq_true rfl) (Nat.zero_le _) (Nat.zero_le _) dX4_copy_43 (fun H locs hP hD hS => ?_)
      exact WR.iret S hr hlk hP hS (rfl) rfl dX4_copy_46
set_option maxRecDepth 100000 in
set_option maxHeartbeats 4000000 in
theorem c_X4_copy_kind (l : Launch) (D : va_G) (cI cJ : ClassId) (a : Nat → Nat) (f : Nat → Int32) (σ : Nat → Nat → Int32) (sh : Nat) (hsh : sh < 4) (th : Nat) (hth : th < 4) (y : Int32) (u : Int32) (v : Int32) (hw1 : 0 ≤ σ 6 sh) (hw2 : 0 ≤ σ 6 th) (hne : ¬ σ 6 sh = σ 6 th) : WR l yX4_copy cX4_copy 10 (some .int) 1 D cI cJ (MW cI a f σ) [.ref (a 0), .int (nI sh), .int y, .int (nI th), .int u, .int v] (some (.int (-1000003))) (MW cI a f (va_up σ 4 (mFi (σ 4) 2))) := by
  refine WR.of (by decide) (Nat.le_of_ble_eq_true rfl) (fun p e s m below meth c ls A S hr hlk hK hP hD hS hA hl => ?_)
  obtain ⟨hx, hb, hml, hown, hU⟩ := id S
  have hl : lv_has ls 10 [(0, .ref (a 0)), (1, .int (nI sh)), (2, .int y), (3, .int (nI th)), (4, .int u), (5, .int v)] := hl
  refine lv_iload_n hx hb dX4_copy_0 rfl (lv_at hl 1 rfl) ?_
  refine RO.callS S ks_X4_283 (c_X4_isSheet l D cI cJ a f σ (nI sh)) hK hP ⟨Nat.le_of_ble_eq_true rfl, Nat.le_of_ble_eq_true rfl⟩ hl.1 rfl rfl (Nat.le_of_ble_eq_true rfl) (Nat.zero_le _) (Nat.zero_le _) dX4_copy_1 ?_
  refine q_if_eqB (tgt := 14) hx hb dX4_copy_4 (by decide) (fun h => absurd (⟨nI_pos' (by omega), nI_lt (by omega) (by decide)⟩) h) (fun _ => ?_)
  refine lv_iload_n hx hb dX4_copy_7 rfl (lv_at hl 3 rfl) ?_
  refine RO.callS S ks_X4_283 (c_X4_isSheet l D cI cJ a f σ (nI th)) hK hP ⟨Nat.le_of_ble_eq_true rfl, Nat.le_of_ble_eq_true rfl⟩ hl.1 rfl rfl (Nat.le_of_ble_eq_true rfl) (Nat.zero_le _) (Nat.zero_le _) dX4_copy_8 ?_
  refine q_if_neB (tgt := 21) hx hb dX4_copy_11 (by decide) (fun _ => ?_) (fun h => absurd (⟨nI_pos' (by omega), nI_lt (by omega) (by decide)⟩) h)
  refine lv_aload_n hx hb dX4_copy_21 rfl (lv_at hl 0 rfl) ?_
  refine g4_bitsOf S hK hP dX4_copy_22 ?_
  refine lv_iload_n hx hb dX4_copy_25 rfl (lv_at hl 1 rfl) ?_
  refine l4_bitsOf S hK hP (j := sh) (by omega) dX4_copy_26 ?_
  refine lv_if_lt (tgt := 39) hx hb dX4_copy_27 (by decide) (fun c_27 => ?_) (fun c_27 => ?_)
  · exact absurd c_27 (i32_not_lt_of_le hw1)
  · refine lv_aload_n hx hb dX4_copy_30 rfl (lv_at hl 0 rfl) ?_
    refine g4_bitsOf S hK hP dX4_copy_31 ?_
    refine lv_iload_n hx hb dX4_copy_34 rfl (lv_at hl 3 rfl) ?_
    refine l4_bitsOf S hK hP (j := th) (by omega) dX4_copy_35 ?_
    refine lv_if_ge (tgt := 47) hx hb dX4_copy_36 (by decide) (fun c_36 => ?_) (fun c_36 => ?_)
    · refine lv_aload_n hx hb dX4_copy_47 rfl (lv_at hl 0 rfl) ?_
      refine g4_bitsOf S hK hP dX4_copy_48 ?_
      refine lv_iload_n hx hb dX4_copy_51 rfl (lv_at hl 1 rfl) ?_
      refine l4_bitsOf S hK hP (j := sh) (by omega) dX4_copy_52 ?_
      refine lv_aload_n hx hb dX4_copy_53 rfl (lv_at hl 0 rfl) ?_
      refine g4_bitsOf S hK hP dX4_copy_54 ?_
      refine lv_iload_n hx hb dX4_copy_57 rfl (lv_at hl 3 rfl) ?_
      refine l4_bitsOf S hK hP (j := th) (by omega) dX4_copy_58 ?_
      refine lv_icmp_eq (tgt := 70) hx hb dX4_copy_59 (by decide) (fun c_59 => ?_) (fun c_59 => ?_)
      · exact absurd c_59 hne
      · refine lv_aload_n hx hb dX4_copy_62 rfl (lv_at hl 0 rfl) ?_
        refine lv_ldcw (v := (-1000003)) hx hb hown (hU _ mK_X4_282) dX4_copy_63 ?_
        refine WR.callV (w1 := MW cI a f (va_up σ 4 (mFi (σ 4) 2))) S kv_X4_39 (c_X4_fd2 l D cI cJ a f σ) hK hP hD hS hA ([]) ([]) rfl rfl MW_fst rfl ⟨Nat.le_of_ble_eq_true rfl, Nat.le_of_ble_eq_true rfl⟩ hl.1 rfl rfl (Nat.le_of_ble_eq_true rfl) (Nat.zero_le _) (Nat.zero_le _) dX4_copy_66 (fun H locs hP hD hS => ?_)
        exact WR.iret S hr hlk hP hS (rfl) rfl dX4_copy_69
    · exact absurd hw2 c_36
set_option maxRecDepth 100000 in
set_option maxHeartbeats 4000000 in
theorem c_X4_copy_rng (l : Launch) (D : va_G) (cI cJ : ClassId) (a : Nat → Nat) (f : Nat → Int32) (σ : Nat → Nat → Int32) (sh : Nat) (hsh : sh < 4) (th : Nat) (hth : th < 4) (y : Int32) (u : Int32) (v : Int32) (hw1 : 0 ≤ σ 6 sh) (hw2 : 0 ≤ σ 6 th) (heq : σ 6 sh = σ 6 th) (s1 : Nat) (hm : σ 7 sh = nI s1) (h40 : s1 ≤ 40) (s2 : Nat) (hm2 : σ 7 th = nI s2) (h402 : s2 ≤ 40) (hb0 : ¬ (0 ≤ y ∧ 0 ≤ u ∧ 0 ≤ v ∧ v ≤ nI s1 - y ∧ v ≤ nI s2 - u)) : WR l yX4_copy cX4_copy 10 (some .int) 1 D cI cJ (MW cI a f σ) [.ref (a 0), .int (nI sh), .int y, .int (nI th), .int u, .int v] (some (.int (-1000001))) (MW cI a f (va_up σ 4 (mFi (σ 4) 0))) := by
  refine WR.of (by decide) (Nat.le_of_ble_eq_true rfl) (fun p e s m below meth c ls A S hr hlk hK hP hD hS hA hl => ?_)
  obtain ⟨hx, hb, hml, hown, hU⟩ := id S
  have hl : lv_has ls 10 [(0, .ref (a 0)), (1, .int (nI sh)), (2, .int y), (3, .int (nI th)), (4, .int u), (5, .int v)] := hl
  refine lv_iload_n hx hb dX4_copy_0 rfl (lv_at hl 1 rfl) ?_
  refine RO.callS S ks_X4_283 (c_X4_isSheet l D cI cJ a f σ (nI sh)) hK hP ⟨Nat.le_of_ble_eq_true rfl, Nat.le_of_ble_eq_true rfl⟩ hl.1 rfl rfl (Nat.le_of_ble_eq_true rfl) (Nat.zero_le _) (Nat.zero_le _) dX4_copy_1 ?_
  refine q_if_eqB (tgt := 14) hx hb dX4_copy_4 (by decide) (fun h => absurd (⟨nI_pos' (by omega), nI_lt (by omega) (by decide)⟩) h) (fun _ => ?_)
  refine lv_iload_n hx hb dX4_copy_7 rfl (lv_at hl 3 rfl) ?_
  refine RO.callS S ks_X4_283 (c_X4_isSheet l D cI cJ a f σ (nI th)) hK hP ⟨Nat.le_of_ble_eq_true rfl, Nat.le_of_ble_eq_true rfl⟩ hl.1 rfl rfl (Nat.le_of_ble_eq_true rfl) (Nat.zero_le _) (Nat.zero_le _) dX4_copy_8 ?_
  refine q_if_neB (tgt := 21) hx hb dX4_copy_11 (by decide) (fun _ => ?_) (fun h => absurd (⟨nI_pos' (by omega), nI_lt (by omega) (by decide)⟩) h)
  refine lv_aload_n hx hb dX4_copy_21 rfl (lv_at hl 0 rfl) ?_
  refine g4_bitsOf S hK hP dX4_copy_22 ?_
  refine lv_iload_n hx hb dX4_copy_25 rfl (lv_at hl 1 rfl) ?_
  refine l4_bitsOf S hK hP (j := sh) (by omega) dX4_copy_26 ?_
  refine lv_if_lt (tgt := 39) hx hb dX4_copy_27 (by decide) (fun c_27 => ?_) (fun c_27 => ?_)
  · exact absurd c_27 (i32_not_lt_of_le hw1)
  · refine lv_aload_n hx hb dX4_copy_30 rfl (lv_at hl 0 rfl) ?_
    refine g4_bitsOf S hK hP dX4_copy_31 ?_
    refine lv_iload_n hx hb dX4_copy_34 rfl (lv_at hl 3 rfl) ?_
    refine l4_bitsOf S hK hP (j := th) (by omega) dX4_copy_35 ?_
    refine lv_if_ge (tgt := 47) hx hb dX4_copy_36 (by decide) (fun c_36 => ?_) (fun c_36 => ?_)
    · refine lv_aload_n hx hb dX4_copy_47 rfl (lv_at hl 0 rfl) ?_
      refine g4_bitsOf S hK hP dX4_copy_48 ?_
      refine lv_iload_n hx hb dX4_copy_51 rfl (lv_at hl 1 rfl) ?_
      refine l4_bitsOf S hK hP (j := sh) (by omega) dX4_copy_52 ?_
      refine lv_aload_n hx hb dX4_copy_53 rfl (lv_at hl 0 rfl) ?_
      refine g4_bitsOf S hK hP dX4_copy_54 ?_
      refine lv_iload_n hx hb dX4_copy_57 rfl (lv_at hl 3 rfl) ?_
      refine l4_bitsOf S hK hP (j := th) (by omega) dX4_copy_58 ?_
      refine lv_icmp_eq (tgt := 70) hx hb dX4_copy_59 (by decide) (fun c_59 => ?_) (fun c_59 => ?_)
      · refine lv_iload_n hx hb dX4_copy_70 rfl (lv_at hl 2 rfl) ?_
        refine lv_if_lt (tgt := 111) hx hb dX4_copy_71 (by decide) (fun c_71 => ?_) (fun c_71 => ?_)
        · refine lv_aload_n hx hb dX4_copy_111 rfl (lv_at hl 0 rfl) ?_
          refine lv_ldc (v := (-1000001)) hx hb hown (hU _ mK_X4_37) dX4_copy_112 ?_
          refine WR.callV (w1 := MW cI a f (va_up σ 4 (mFi (σ 4) 0))) S kv_X4_39 (c_X4_fd0 l D cI cJ a f σ) hK hP hD hS hA ([]) ([]) rfl rfl MW_fst rfl ⟨Nat.le_of_ble_eq_true rfl, Nat.le_of_ble_eq_true rfl⟩ hl.1 rfl rfl (Nat.le_of_ble_eq_true rfl) (Nat.zero_le _) (Nat.zero_le _) dX4_copy_114 (fun H locs hP hD hS => ?_)
          exact WR.iret S hr hlk hP hS (rfl) rfl dX4_copy_117
        · refine lv_iload hx hb dX4_copy_74 (lv_at hl 4 rfl) ?_
          refine lv_if_lt (tgt := 111) hx hb dX4_copy_76 (by decide) (fun c_76 => ?_) (fun c_76 => ?_)
          · refine lv_aload_n hx hb dX4_copy_111 rfl (lv_at hl 0 rfl) ?_
            refine lv_ldc (v := (-1000001)) hx hb hown (hU _ mK_X4_37) dX4_copy_112 ?_
            refine WR.callV (w1 := MW cI a f (va_up σ 4 (mFi (σ 4) 0))) S kv_X4_39 (c_X4_fd0 l D cI cJ a f σ) hK hP hD hS hA ([]) ([]) rfl rfl MW_fst rfl ⟨Nat.le_of_ble_eq_true rfl, Nat.le_of_ble_eq_true rfl⟩ hl.1 rfl rfl (Nat.le_of_ble_eq_true rfl) (Nat.zero_le _) (Nat.zero_le _) dX4_copy_114 (fun H locs hP hD hS => ?_)
            exact WR.iret S hr hlk hP hS (rfl) rfl dX4_copy_117
          · refine lv_iload hx hb dX4_copy_79 (lv_at hl 5 rfl) ?_
            refine lv_if_lt (tgt := 111) hx hb dX4_copy_81 (by decide) (fun c_81 => ?_) (fun c_81 => ?_)
            · refine lv_aload_n hx hb dX4_copy_111 rfl (lv_at hl 0 rfl) ?_
              refine lv_ldc (v := (-1000001)) hx hb hown (hU _ mK_X4_37) dX4_copy_112 ?_
              refine WR.callV (w1 := MW cI a f (va_up σ 4 (mFi (σ 4) 0))) S kv_X4_39 (c_X4_fd0 l D cI cJ a f σ) hK hP hD hS hA ([]) ([]) rfl rfl MW_fst rfl ⟨Nat.le_of_ble_eq_true rfl, Nat.le_of_ble_eq_true rfl⟩ hl.1 rfl rfl (Nat.le_of_ble_eq_true rfl) (Nat.zero_le _) (Nat.zero_le _) dX4_copy_114 (fun H locs hP hD hS => ?_)
              exact WR.iret S hr hlk hP hS (rfl) rfl dX4_copy_117
            · refine lv_iload hx hb dX4_copy_84 (lv_at hl 5 rfl) ?_
              refine lv_aload_n hx hb dX4_copy_86 rfl (lv_at hl 0 rfl) ?_
              refine g4_sizes S hK hP dX4_copy_87 ?_
              refine lv_iload_n hx hb dX4_copy_90 rfl (lv_at hl 1 rfl) ?_
              refine l4_sizes S hK hP (j := sh) (by omega) dX4_copy_91 ?_
              refine q_eqi (y := nI s1) (hm) ?_
              refine lv_iload_n hx hb dX4_copy_92 rfl (lv_at hl 2 rfl) ?_
              refine lv_isub hx hb dX4_copy_93 ?_
              refine lv_icmp_gt (tgt := 111) hx hb dX4_copy_94 (by decide) (fun c_94 => ?_) (fun c_94 => ?_)
              · refine lv_aload_n hx hb dX4_copy_111 rfl (lv_at hl 0 rfl) ?_
                refine lv_ldc (v := (-1000001)) hx hb hown (hU _ mK_X4_37) dX4_copy_112 ?_
                refine WR.callV (w1 := MW cI a f (va_up σ 4 (mFi (σ 4) 0))) S kv_X4_39 (c_X4_fd0 l D cI cJ a f σ) hK hP hD hS hA ([]) ([]) rfl rfl MW_fst rfl ⟨Nat.le_of_ble_eq_true rfl, Nat.le_of_ble_eq_true rfl⟩ hl.1 rfl rfl (Nat.le_of_ble_eq_true rfl) (Nat.zero_le _) (Nat.zero_le _) dX4_copy_114 (fun H locs hP hD hS => ?_)
                exact WR.iret S hr hlk hP hS (rfl) rfl dX4_copy_117
              · refine lv_iload hx hb dX4_copy_97 (lv_at hl 5 rfl) ?_
                refine lv_aload_n hx hb dX4_copy_99 rfl (lv_at hl 0 rfl) ?_
                refine g4_sizes S hK hP dX4_copy_100 ?_
                refine lv_iload_n hx hb dX4_copy_103 rfl (lv_at hl 3 rfl) ?_
                refine l4_sizes S hK hP (j := th) (by omega) dX4_copy_104 ?_
                refine q_eqi (y := nI s2) (hm2) ?_
                refine lv_iload hx hb dX4_copy_105 (lv_at hl 4 rfl) ?_
                refine lv_isub hx hb dX4_copy_107 ?_
                refine lv_icmp_le (tgt := 118) hx hb dX4_copy_108 (by decide) (fun c_108 => ?_) (fun c_108 => ?_)
                · exact absurd (⟨i32_le_of_not_lt c_71, i32_le_of_not_lt c_76, i32_le_of_not_lt c_81, i32_le_of_not_lt c_94, c_108⟩) hb0
                · refine lv_aload_n hx hb dX4_copy_111 rfl (lv_at hl 0 rfl) ?_
                  refine lv_ldc (v := (-1000001)) hx hb hown (hU _ mK_X4_37) dX4_copy_112 ?_
                  refine WR.callV (w1 := MW cI a f (va_up σ 4 (mFi (σ 4) 0))) S kv_X4_39 (c_X4_fd0 l D cI cJ a f σ) hK hP hD hS hA ([]) ([]) rfl rfl MW_fst rfl ⟨Nat.le_of_ble_eq_true rfl, Nat.le_of_ble_eq_true rfl⟩ hl.1 rfl rfl (Nat.le_of_ble_eq_true rfl) (Nat.zero_le _) (Nat.zero_le _) dX4_copy_114 (fun H locs hP hD hS => ?_)
                  exact WR.iret S hr hlk hP hS (rfl) rfl dX4_copy_117
      · exact absurd heq c_59
    · exact absurd hw2 c_36
set_option maxRecDepth 100000 in
set_option maxHeartbeats 4000000 in
theorem c_X4_copy_ok (l : Launch) (D : va_G) (cI cJ : ClassId) (a : Nat → Nat) (f : Nat → Int32) (σ : Nat → Nat → Int32) (sh : Nat) (hsh : sh < 4) (th : Nat) (hth : th < 4) (fr : Nat) (to : Nat) (cn : Nat) (hw1 : 0 ≤ σ 6 sh) (hw2 : 0 ≤ σ 6 th) (heq : σ 6 sh = σ 6 th) (s1 : Nat) (hm : σ 7 sh = nI s1) (h40 : s1 ≤ 40) (s2 : Nat) (hm2 : σ 7 th = nI s2) (h402 : s2 ≤ 40) (hf1 : fr + cn ≤ s1) (hf2 : to + cn ≤ s2) : WR l yX4_copy cX4_copy 10 (some .int) 1 D cI cJ (MW cI a f σ) [.ref (a 0), .int (nI sh), .int (nI fr), .int (nI th), .int (nI to), .int (nI cn)] (some (.int (nI cn))) (MW cI a f (va_up σ 8 (cpF (σ 8) (40 * sh + fr) (40 * th + to) cn))) := by
  refine WR.of (by decide) (Nat.le_of_ble_eq_true rfl) (fun p e s m below meth c ls A S hr hlk hK hP hD hS hA hl => ?_)
  obtain ⟨hx, hb, hml, hown, hU⟩ := id S
  have hl : lv_has ls 10 [(0, .ref (a 0)), (1, .int (nI sh)), (2, .int (nI fr)), (3, .int (nI th)), (4, .int (nI to)), (5, .int (nI cn))] := hl
  refine lv_iload_n hx hb dX4_copy_0 rfl (lv_at hl 1 rfl) ?_
  refine RO.callS S ks_X4_283 (c_X4_isSheet l D cI cJ a f σ (nI sh)) hK hP ⟨Nat.le_of_ble_eq_true rfl, Nat.le_of_ble_eq_true rfl⟩ hl.1 rfl rfl (Nat.le_of_ble_eq_true rfl) (Nat.zero_le _) (Nat.zero_le _) dX4_copy_1 ?_
  refine q_if_eqB (tgt := 14) hx hb dX4_copy_4 (by decide) (fun h => absurd (⟨nI_pos' (by omega), nI_lt (by omega) (by decide)⟩) h) (fun _ => ?_)
  refine lv_iload_n hx hb dX4_copy_7 rfl (lv_at hl 3 rfl) ?_
  refine RO.callS S ks_X4_283 (c_X4_isSheet l D cI cJ a f σ (nI th)) hK hP ⟨Nat.le_of_ble_eq_true rfl, Nat.le_of_ble_eq_true rfl⟩ hl.1 rfl rfl (Nat.le_of_ble_eq_true rfl) (Nat.zero_le _) (Nat.zero_le _) dX4_copy_8 ?_
  refine q_if_neB (tgt := 21) hx hb dX4_copy_11 (by decide) (fun _ => ?_) (fun h => absurd (⟨nI_pos' (by omega), nI_lt (by omega) (by decide)⟩) h)
  refine lv_aload_n hx hb dX4_copy_21 rfl (lv_at hl 0 rfl) ?_
  refine g4_bitsOf S hK hP dX4_copy_22 ?_
  refine lv_iload_n hx hb dX4_copy_25 rfl (lv_at hl 1 rfl) ?_
  refine l4_bitsOf S hK hP (j := sh) (by omega) dX4_copy_26 ?_
  refine lv_if_lt (tgt := 39) hx hb dX4_copy_27 (by decide) (fun c_27 => ?_) (fun c_27 => ?_)
  · exact absurd c_27 (i32_not_lt_of_le hw1)
  · refine lv_aload_n hx hb dX4_copy_30 rfl (lv_at hl 0 rfl) ?_
    refine g4_bitsOf S hK hP dX4_copy_31 ?_
    refine lv_iload_n hx hb dX4_copy_34 rfl (lv_at hl 3 rfl) ?_
    refine l4_bitsOf S hK hP (j := th) (by omega) dX4_copy_35 ?_
    refine lv_if_ge (tgt := 47) hx hb dX4_copy_36 (by decide) (fun c_36 => ?_) (fun c_36 => ?_)
    · refine lv_aload_n hx hb dX4_copy_47 rfl (lv_at hl 0 rfl) ?_
      refine g4_bitsOf S hK hP dX4_copy_48 ?_
      refine lv_iload_n hx hb dX4_copy_51 rfl (lv_at hl 1 rfl) ?_
      refine l4_bitsOf S hK hP (j := sh) (by omega) dX4_copy_52 ?_
      refine lv_aload_n hx hb dX4_copy_53 rfl (lv_at hl 0 rfl) ?_
      refine g4_bitsOf S hK hP dX4_copy_54 ?_
      refine lv_iload_n hx hb dX4_copy_57 rfl (lv_at hl 3 rfl) ?_
      refine l4_bitsOf S hK hP (j := th) (by omega) dX4_copy_58 ?_
      refine lv_icmp_eq (tgt := 70) hx hb dX4_copy_59 (by decide) (fun c_59 => ?_) (fun c_59 => ?_)
      · refine lv_iload_n hx hb dX4_copy_70 rfl (lv_at hl 2 rfl) ?_
        refine q_if_ltN (tgt := 111) (a := fr) hx hb dX4_copy_71 (by decide) (by omega) ?_
        refine lv_iload hx hb dX4_copy_74 (lv_at hl 4 rfl) ?_
        refine q_if_ltN (tgt := 111) (a := to) hx hb dX4_copy_76 (by decide) (by omega) ?_
        refine lv_iload hx hb dX4_copy_79 (lv_at hl 5 rfl) ?_
        refine q_if_ltN (tgt := 111) (a := cn) hx hb dX4_copy_81 (by decide) (by omega) ?_
        refine lv_iload hx hb dX4_copy_84 (lv_at hl 5 rfl) ?_
        refine lv_aload_n hx hb dX4_copy_86 rfl (lv_at hl 0 rfl) ?_
        refine g4_sizes S hK hP dX4_copy_87 ?_
        refine lv_iload_n hx hb dX4_copy_90 rfl (lv_at hl 1 rfl) ?_
        refine l4_sizes S hK hP (j := sh) (by omega) dX4_copy_91 ?_
        refine q_eqi (y := nI s1) (hm) ?_
        refine lv_iload_n hx hb dX4_copy_92 rfl (lv_at hl 2 rfl) ?_
        refine q_isubN (a := s1) (b := fr) hx hb dX4_copy_93 (by omega) ?_
        refine q_icmp_gtN (tgt := 111) (a := cn) (b := s1 - fr) hx hb dX4_copy_94 (by decide) (by omega) (by omega) (fun h => absurd h (by omega)) (fun _ => ?_)
        refine lv_iload hx hb dX4_copy_97 (lv_at hl 5 rfl) ?_
        refine lv_aload_n hx hb dX4_copy_99 rfl (lv_at hl 0 rfl) ?_
        refine g4_sizes S hK hP dX4_copy_100 ?_
        refine lv_iload_n hx hb dX4_copy_103 rfl (lv_at hl 3 rfl) ?_
        refine l4_sizes S hK hP (j := th) (by omega) dX4_copy_104 ?_
        refine q_eqi (y := nI s2) (hm2) ?_
        refine lv_iload hx hb dX4_copy_105 (lv_at hl 4 rfl) ?_
        refine q_isubN (a := s2) (b := to) hx hb dX4_copy_107 (by omega) ?_
        refine q_icmp_leN (tgt := 118) (a := cn) (b := s2 - to) hx hb dX4_copy_108 (by decide) (by omega) (by omega) (fun _ => ?_) (fun h => absurd h (by omega))
        refine lv_bipush (v := nI 40) hx hb dX4_copy_118 (by decide) ?_
        refine lv_iload_n hx hb dX4_copy_120 rfl (lv_at hl 1 rfl) ?_
        refine q_imulN (a := 40) (b := sh) hx hb dX4_copy_121 ?_
        refine lv_iload_n hx hb dX4_copy_122 rfl (lv_at hl 2 rfl) ?_
        refine q_iaddN (a := 40 * sh) (b := fr) hx hb dX4_copy_123 ?_
        refine lv_istore (lv' := [(6, .int (nI ((40 * sh) + fr))), (0, .ref (a 0)), (1, .int (nI sh)), (2, .int (nI fr)), (3, .int (nI th)), (4, .int (nI to)), (5, .int (nI cn))]) hx hb dX4_copy_124 hl (by decide) rfl (fun ls hl => ?_)
        refine lv_bipush (v := nI 40) hx hb dX4_copy_126 (by decide) ?_
        refine lv_iload_n hx hb dX4_copy_128 rfl (lv_at hl 4 rfl) ?_
        refine q_imulN (a := 40) (b := th) hx hb dX4_copy_129 ?_
        refine lv_iload hx hb dX4_copy_130 (lv_at hl 5 rfl) ?_
        refine q_iaddN (a := 40 * th) (b := to) hx hb dX4_copy_132 ?_
        refine lv_istore (lv' := [(7, .int (nI ((40 * th) + to))), (6, .int (nI ((40 * sh) + fr))), (0, .ref (a 0)), (1, .int (nI sh)), (2, .int (nI fr)), (3, .int (nI th)), (4, .int (nI to)), (5, .int (nI cn))]) hx hb dX4_copy_133 hl (by decide) rfl (fun ls hl => ?_)
        refine lv_iconst (v := nI 0) hx hb dX4_copy_135 (by decide) ?_
        refine lv_istore (lv' := [(8, .int (nI 0)), (7, .int (nI ((40 * th) + to))), (6, .int (nI ((40 * sh) + fr))), (0, .ref (a 0)), (1, .int (nI sh)), (2, .int (nI fr)), (3, .int (nI th)), (4, .int (nI to)), (5, .int (nI cn))]) hx hb dX4_copy_136 hl (by decide) rfl (fun ls hl => ?_)
        have L_138 : ∀ (n9 : Nat) (k : Nat) (H : Heap) (locs : List Loc) (ls : Array Slot), cn - k < n9 → (k ≤ cn) → va_P D vwCl (MW cI a f (va_up σ 8 (cpK (σ 8) (40 * sh + fr) (40 * th + to) cn k))) H → va_D A (MW cI a f (va_up σ 8 (cpK (σ 8) (40 * sh + fr) (40 * th + to) cn k))) → va_S A s.heap H locs → lv_has ls 10 [(0, .ref (a 0)), (5, .int (nI cn)), (6, .int (nI (40 * sh + fr))), (7, .int (nI (40 * th + to))), (8, .int (nI k))] → W p l e (rmd 1) s m ([.ref (a 0), .int (nI sh), .int (nI fr), .int (nI th), .int (nI to), .int (nI cn)] : List Value).toArray below meth c H locs 0 0 (ZW below ([.ref (a 0), .int (nI sh), .int (nI fr), .int (nI th), .int (nI to), .int (nI cn)] : List Value).toArray s D (some (.int (nI cn))) (MW cI a f (va_up σ 8 (cpF (σ 8) (40 * sh + fr) (40 * th + to) cn))) A) (F0 m 138 ls []) := by
          intro n9
          induction n9 with
          | zero => intro k H locs ls hmeas; exact absurd hmeas (Nat.not_lt_zero _)
          | succ n9 ih_138 =>
            intro k H locs ls hmeas hk hP hD hS hl
            refine lv_iload hx hb dX4_copy_138 (lv_at hl 4 rfl) ?_
            refine lv_iload hx hb dX4_copy_140 (lv_at hl 1 rfl) ?_
            refine q_icmp_geN (tgt := 192) (a := k) (b := cn) hx hb dX4_copy_142 (by decide) (by omega) (by omega) (fun c_142 => ?_) (fun c_142 => ?_)
            · refine lv_iload hx hb dX4_copy_192 (lv_at hl 1 rfl) ?_
              exact WR.iret S hr hlk hP hS (by rw [show k = cn by omega, cpK_n]) rfl dX4_copy_194
            · refine lv_iload hx hb dX4_copy_145 (lv_at hl 2 rfl) ?_
              refine lv_iload hx hb dX4_copy_147 (lv_at hl 3 rfl) ?_
              refine q_icmp_geN (tgt := 162) (a := 40 * sh + fr) (b := 40 * th + to) hx hb dX4_copy_149 (by decide) (by omega) (by omega) (fun c_149 => ?_) (fun c_149 => ?_)
              · refine lv_iload hx hb dX4_copy_162 (lv_at hl 4 rfl) ?_
                refine lv_istore (lv' := [(9, .int (nI k)), (0, .ref (a 0)), (5, .int (nI cn)), (6, .int (nI (40 * sh + fr))), (7, .int (nI (40 * th + to))), (8, .int (nI k))]) hx hb dX4_copy_164 hl (by decide) rfl (fun ls hl => ?_)
                refine lv_aload_n hx hb dX4_copy_166 rfl (lv_at hl 1 rfl) ?_
                refine g4_numbers S hK hP dX4_copy_167 ?_
                refine lv_iload hx hb dX4_copy_170 (lv_at hl 4 rfl) ?_
                refine lv_iload hx hb dX4_copy_172 (lv_at hl 0 rfl) ?_
                refine q_iaddN (a := 40 * th + to) (b := k) hx hb dX4_copy_174 ?_
                refine lv_aload_n hx hb dX4_copy_175 rfl (lv_at hl 1 rfl) ?_
                refine g4_numbers S hK hP dX4_copy_176 ?_
                refine lv_iload hx hb dX4_copy_179 (lv_at hl 3 rfl) ?_
                refine lv_iload hx hb dX4_copy_181 (lv_at hl 0 rfl) ?_
                refine q_iaddN (a := 40 * sh + fr) (b := k) hx hb dX4_copy_183 ?_
                refine l4_numbers S hK hP (j := (40 * sh + fr) + k) (by omega) dX4_copy_184 ?_
                refine s4_numbers S hK hP hD hS (j := (40 * th + to) + k) (by omega) dX4_copy_185 (fun H locs hP hD hS => ?_)
                refine lv_iinc (v := nI (k + 1)) (lv' := [(8, .int (nI (k + 1))), (9, .int (nI k)), (0, .ref (a 0)), (5, .int (nI cn)), (6, .int (nI (40 * sh + fr))), (7, .int (nI (40 * th + to)))]) hx hb dX4_copy_186 hl (k := 5) rfl (q_inc _) (by decide) rfl (fun ls hl => ?_)
                refine lv_goto (tgt := 138) hx hb dX4_copy_189 (by decide) ?_
                exact ih_138 (k + 1) _ _ ls (by omega) (by omega) (by rw [show va_up σ 8 (cpK (σ 8) (40 * sh + fr) (40 * th + to) cn (k + 1)) = va_up (va_up σ 8 (cpK (σ 8) (40 * sh + fr) (40 * th + to) cn k)) 8 (upd (cpK (σ 8) (40 * sh + fr) (40 * th + to) cn k) (40 * th + to + (k)) (cpK (σ 8) (40 * sh + fr) (40 * th + to) cn k (40 * sh + fr + (k)))) from by rw [cpK_a c_149 (by omega)]; exact (bx_uu _ _ _ _).symm]; exact hP) (by rw [show va_up σ 8 (cpK (σ 8) (40 * sh + fr) (40 * th + to) cn (k + 1)) = va_up (va_up σ 8 (cpK (σ 8) (40 * sh + fr) (40 * th + to) cn k)) 8 (upd (cpK (σ 8) (40 * sh + fr) (40 * th + to) cn k) (40 * th + to + (k)) (cpK (σ 8) (40 * sh + fr) (40 * th + to) cn k (40 * sh + fr + (k)))) from by rw [cpK_a c_149 (by omega)]; exact (bx_uu _ _ _ _).symm]; exact hD) hS (lv_sub hl [2, 3, 4, 5, 0] rfl)
              · refine lv_iload hx hb dX4_copy_152 (lv_at hl 1 rfl) ?_
                refine lv_iconst (v := nI 1) hx hb dX4_copy_154 (by decide) ?_
                refine q_isubN (a := cn) (b := 1) hx hb dX4_copy_155 (by omega) ?_
                refine lv_iload hx hb dX4_copy_156 (lv_at hl 4 rfl) ?_
                refine q_isubN (a := cn - 1) (b := k) hx hb dX4_copy_158 (by omega) ?_
                refine lv_goto (tgt := 164) hx hb dX4_copy_159 (by decide) ?_
                refine lv_istore (lv' := [(9, .int (nI ((cn - 1) - k))), (0, .ref (a 0)), (5, .int (nI cn)), (6, .int (nI (40 * sh + fr))), (7, .int (nI (40 * th + to))), (8, .int (nI k))]) hx hb dX4_copy_164 hl (by decide) rfl (fun ls hl => ?_)
                refine lv_aload_n hx hb dX4_copy_166 rfl (lv_at hl 1 rfl) ?_
                refine g4_numbers S hK hP dX4_copy_167 ?_
                refine lv_iload hx hb dX4_copy_170 (lv_at hl 4 rfl) ?_
                refine lv_iload hx hb dX4_copy_172 (lv_at hl 0 rfl) ?_
                refine q_iaddN (a := 40 * th + to) (b := (cn - 1) - k) hx hb dX4_copy_174 ?_
                refine lv_aload_n hx hb dX4_copy_175 rfl (lv_at hl 1 rfl) ?_
                refine g4_numbers S hK hP dX4_copy_176 ?_
                refine lv_iload hx hb dX4_copy_179 (lv_at hl 3 rfl) ?_
                refine lv_iload hx hb dX4_copy_181 (lv_at hl 0 rfl) ?_
                refine q_iaddN (a := 40 * sh + fr) (b := (cn - 1) - k) hx hb dX4_copy_183 ?_
                refine l4_numbers S hK hP (j := (40 * sh + fr) + ((cn - 1) - k)) (by omega) dX4_copy_184 ?_
                refine s4_numbers S hK hP hD hS (j := (40 * th + to) + ((cn - 1) - k)) (by omega) dX4_copy_185 (fun H locs hP hD hS => ?_)
                refine lv_iinc (v := nI (k + 1)) (lv' := [(8, .int (nI (k + 1))), (9, .int (nI ((cn - 1) - k))), (0, .ref (a 0)), (5, .int (nI cn)), (6, .int (nI (40 * sh + fr))), (7, .int (nI (40 * th + to)))]) hx hb dX4_copy_186 hl (k := 5) rfl (q_inc _) (by decide) rfl (fun ls hl => ?_)
                refine lv_goto (tgt := 138) hx hb dX4_copy_189 (by decide) ?_
                exact ih_138 (k + 1) _ _ ls (by omega) (by omega) (by rw [show va_up σ 8 (cpK (σ 8) (40 * sh + fr) (40 * th + to) cn (k + 1)) = va_up (va_up σ 8 (cpK (σ 8) (40 * sh + fr) (40 * th + to) cn k)) 8 (upd (cpK (σ 8) (40 * sh + fr) (40 * th + to) cn k) (40 * th + to + (cn - 1 - k)) (cpK (σ 8) (40 * sh + fr) (40 * th + to) cn k (40 * sh + fr + (cn - 1 - k)))) from by rw [cpK_d c_149 (by omega)]; exact (bx_uu _ _ _ _).symm]; exact hP) (by rw [show va_up σ 8 (cpK (σ 8) (40 * sh + fr) (40 * th + to) cn (k + 1)) = va_up (va_up σ 8 (cpK (σ 8) (40 * sh + fr) (40 * th + to) cn k)) 8 (upd (cpK (σ 8) (40 * sh + fr) (40 * th + to) cn k) (40 * th + to + (cn - 1 - k)) (cpK (σ 8) (40 * sh + fr) (40 * th + to) cn k (40 * sh + fr + (cn - 1 - k)))) from by rw [cpK_d c_149 (by omega)]; exact (bx_uu _ _ _ _).symm]; exact hD) hS (lv_sub hl [2, 3, 4, 5, 0] rfl)
        exact L_138 ((cn - 0) + 1) 0 _ _ ls (Nat.lt_succ_self _) (Nat.zero_le _) (by rw [cpK_0, va_up_self2]; exact hP) (by rw [cpK_0, va_up_self2]; exact hD) hS (lv_sub hl [3, 8, 2, 1, 0] rfl)
      · exact absurd heq c_59
    · exact absurd hw2 c_36

theorem arrV_congr {cI : ClassId} {N : Nat} {f g : Nat → Value} (h : ∀ j, j < N → f j = g j) : arrV cI N f = arrV cI N g := by
  unfold arrV
  congr 1
  congr 1
  funext j
  exact h j.val j.isLt
theorem vp_cell_congr {cI : ClassId} {N : Nat} {f g : Nat → Int32} (h : ∀ j, j < N → f j = g j) : vp_cell cI (N, .inl f) = vp_cell cI (N, .inl g) := by
  show arrV cI N (fun j => .int (f j)) = arrV cI N (fun j => .int (g j))
  exact arrV_congr (fun j hj => by rw [h j hj])
def cpU (f g : Nat → Int32) (j : Nat) : Nat → Int32 := fun k => if k < j then f k else g k
theorem cpU_0 {f g : Nat → Int32} : cpU f g 0 = g := by
  funext k
  unfold cpU
  rw [if_neg (by omega)]
theorem cpU_s (f g : Nat → Int32) (j : Nat) : cpU f g (j + 1) = upd (cpU f g j) j (f j) := by
  funext k
  unfold cpU upd
  by_cases e : k = j
  · subst e
    simp
  · simp only [e, if_false]
    by_cases e2 : k < j
    · simp only [e2, show k < j + 1 by omega, if_true]
    · simp only [e2, show ¬ k < j + 1 by omega, if_false]
theorem cpU_in {f g : Nat → Int32} {j k : Nat} (h : k < j) : cpU f g j k = f k := if_pos h
theorem va_up_self2 {α : Type} (σ : Nat → α) (k : Nat) : va_up σ k (σ k) = σ := by
  funext j
  unfold va_up
  by_cases e : j = k
  · subst e
    simp
  · simp [e]
theorem MW_row_s {D : va_G} {cI : ClassId} {a : Nat → Nat} {g g2 : Nat → Int32} {σ : Nat → Nat → Int32} {H : Heap} (h : va_P D vwCl (MW cI a g σ) H) (e : ∀ k, k < 82 → g k = g2 k) : va_P D vwCl (MW cI a g2 σ) H := fun k p hp => match k, hp with
  | 0, hp => h 0 p hp
  | 1, hp => by cases hp; exact (h 1 _ rfl).trans (congrArg some (vp_cell_congr e))
  | 2, hp => h 2 p hp
  | 3, hp => h 3 p hp
  | 4, hp => h 4 p hp
  | 5, hp => h 5 p hp
  | 6, hp => h 6 p hp
  | 7, hp => h 7 p hp
  | 8, hp => h 8 p hp
  | 9, hp => h 9 p hp
  | k + 10, hp => by cases hp
theorem MW_row_kept {D : va_G} {cI : ClassId} {a : Nat → Nat} {f g g2 : Nat → Int32} {σ : Nat → Nat → Int32} {H : Heap} (h : va_P D vwCl (MW cI a f (va_up σ 1 g)) H) (e : ∀ k, k < 82 → g k = g2 k) : va_P D vwCl (MW cI a f (va_up σ 1 g2)) H := fun k p hp => match k, hp with
  | 0, hp => h 0 p hp
  | 1, hp => h 1 p hp
  | 2, hp => by cases hp; exact (h 2 _ rfl).trans (congrArg some (vp_cell_congr e))
  | 3, hp => h 3 p hp
  | 4, hp => h 4 p hp
  | 5, hp => h 5 p hp
  | 6, hp => h 6 p hp
  | 7, hp => h 7 p hp
  | 8, hp => h 8 p hp
  | 9, hp => h 9 p hp
  | k + 10, hp => by cases hp
theorem MW_up_kept {cI : ClassId} {a : Nat → Nat} {f : Nat → Int32} {σ : Nat → Nat → Int32} : MW cI a f σ = MW cI a f (va_up σ 1 (σ 1)) := by rw [va_up_self2]
theorem MW_row_before {D : va_G} {cI : ClassId} {a : Nat → Nat} {f g g2 : Nat → Int32} {σ : Nat → Nat → Int32} {H : Heap} (h : va_P D vwCl (MW cI a f (va_up σ 2 g)) H) (e : ∀ k, k < 82 → g k = g2 k) : va_P D vwCl (MW cI a f (va_up σ 2 g2)) H := fun k p hp => match k, hp with
  | 0, hp => h 0 p hp
  | 1, hp => h 1 p hp
  | 2, hp => h 2 p hp
  | 3, hp => by cases hp; exact (h 3 _ rfl).trans (congrArg some (vp_cell_congr e))
  | 4, hp => h 4 p hp
  | 5, hp => h 5 p hp
  | 6, hp => h 6 p hp
  | 7, hp => h 7 p hp
  | 8, hp => h 8 p hp
  | 9, hp => h 9 p hp
  | k + 10, hp => by cases hp
theorem MW_up_before {cI : ClassId} {a : Nat → Nat} {f : Nat → Int32} {σ : Nat → Nat → Int32} : MW cI a f σ = MW cI a f (va_up σ 2 (σ 2)) := by rw [va_up_self2]
theorem MW_row_aside {D : va_G} {cI : ClassId} {a : Nat → Nat} {f g g2 : Nat → Int32} {σ : Nat → Nat → Int32} {H : Heap} (h : va_P D vwCl (MW cI a f (va_up σ 3 g)) H) (e : ∀ k, k < 82 → g k = g2 k) : va_P D vwCl (MW cI a f (va_up σ 3 g2)) H := fun k p hp => match k, hp with
  | 0, hp => h 0 p hp
  | 1, hp => h 1 p hp
  | 2, hp => h 2 p hp
  | 3, hp => h 3 p hp
  | 4, hp => by cases hp; exact (h 4 _ rfl).trans (congrArg some (vp_cell_congr e))
  | 5, hp => h 5 p hp
  | 6, hp => h 6 p hp
  | 7, hp => h 7 p hp
  | 8, hp => h 8 p hp
  | 9, hp => h 9 p hp
  | k + 10, hp => by cases hp
theorem MW_up_aside {cI : ClassId} {a : Nat → Nat} {f : Nat → Int32} {σ : Nat → Nat → Int32} : MW cI a f σ = MW cI a f (va_up σ 3 (σ 3)) := by rw [va_up_self2]
def sA7 (f : Nat → Int32) (n : Nat) (x y : Int32) : Nat → Int32 := fu (fu (fu (fu (fu (fu (fu f n 0 x) n 1 y) n 2 (nI 0)) n 3 (nI 0)) n 4 (nI 100)) n 5 (nI 0)) n 6 (nI 0)
/-- a new cask of kind x in cellar y -/
def sAd (f : Nat → Int32) (n : Nat) (x y : Int32) : Nat → Int32 := upd (sA7 f n x y) 0 (nI (n + 1))
theorem fu_lo {f : Nat → Int32} {k w i : Nat} {v : Int32} (h : i < 16) : fu f k w v i = f i := upd_ne (by omega)
theorem sA7_0 {f : Nat → Int32} {n : Nat} {x y : Int32} (h : f 0 = nI n) : sA7 f n x y 0 = nI n := by
  unfold sA7
  rw [fu_lo (by decide), fu_lo (by decide), fu_lo (by decide), fu_lo (by decide), fu_lo (by decide), fu_lo (by decide), fu_lo (by decide), h]
set_option maxRecDepth 100000 in
set_option maxHeartbeats 4000000 in
theorem c_X4_copyRow_s_aside (l : Launch) (D : va_G) (cI cJ : ClassId) (a : Nat → Nat) (f : Nat → Int32) (σ : Nat → Nat → Int32) : WR l yX4_copyRow cX4_copyRow 3 none 0 D cI cJ (MW cI a f σ) [.ref (a 1), .ref (a 4)] (none) (MW cI a f (va_up σ 3 f)) := by
  refine WR.of (by decide) (Nat.le_of_ble_eq_true rfl) (fun p e s m below meth c ls A S hr hlk hK hP hD hS hA hl => ?_)
  obtain ⟨hx, hb, hml, hown, hU⟩ := id S
  have hl : lv_has ls 3 [(0, .ref (a 1)), (1, .ref (a 4))] := hl
  refine lv_iconst (v := nI 0) hx hb dX4_copyRow_0 (by decide) ?_
  refine lv_istore_n (lv' := [(2, .int (nI 0)), (0, .ref (a 1)), (1, .ref (a 4))]) hx hb dX4_copyRow_1 rfl hl (by decide) rfl (fun ls hl => ?_)
  have L_2 : ∀ (n9 : Nat) (j : Nat) (H : Heap) (locs : List Loc) (ls : Array Slot), 82 - j < n9 → j ≤ 82 → va_P D vwCl (MW cI a f (va_up σ 3 (cpU f (σ 3) j))) H → va_D A (MW cI a f (va_up σ 3 (cpU f (σ 3) j))) → va_S A s.heap H locs → lv_has ls 3 [(0, .ref (a 1)), (1, .ref (a 4)), (2, .int (nI j))] → W p l e (rmd 0) s m ([.ref (a 1), .ref (a 4)] : List Value).toArray below meth c H locs 0 0 (ZW below ([.ref (a 1), .ref (a 4)] : List Value).toArray s D (none) (MW cI a f (va_up σ 3 f)) A) (F0 m 2 ls []) := by
    intro n9
    induction n9 with
    | zero => intro j H locs ls hm; exact absurd hm (Nat.not_lt_zero _)
    | succ n9 ih_2 =>
      intro j H locs ls hm hj hP hD hS hl
      refine lv_iload_n hx hb dX4_copyRow_2 rfl (lv_at hl 2 rfl) ?_
      refine lv_bipush (v := nI 82) hx hb dX4_copyRow_3 (by decide) ?_
      refine q_icmp_geN (tgt := 20) (a := j) (b := 82) hx hb dX4_copyRow_5 (by decide) (by omega) (by omega) (fun c_5 => ?_) (fun c_5 => ?_)
      · have hP := MW_row_aside hP (fun k hk => cpU_in (show k < j by omega))
        exact WR.vret S hr hlk hP hS rfl dX4_copyRow_20
      · refine lv_aload_n hx hb dX4_copyRow_8 rfl (lv_at hl 1 rfl) ?_
        refine lv_iload_n hx hb dX4_copyRow_9 rfl (lv_at hl 2 rfl) ?_
        refine lv_aload_n hx hb dX4_copyRow_10 rfl (lv_at hl 0 rfl) ?_
        refine lv_iload_n hx hb dX4_copyRow_11 rfl (lv_at hl 2 rfl) ?_
        refine l4_s S hK hP (j := j) (by omega) dX4_copyRow_12 ?_
        refine s4_aside S hK hP hD hS (j := j) (by omega) dX4_copyRow_13 (fun H locs hP hD hS => ?_)
        refine lv_iinc (v := nI (j + 1)) (lv' := [(2, .int (nI (j + 1))), (0, .ref (a 1)), (1, .ref (a 4))]) hx hb dX4_copyRow_14 hl (k := 2) rfl (q_inc _) (by decide) rfl (fun ls hl => ?_)
        refine lv_goto (tgt := 2) hx hb dX4_copyRow_17 (by decide) ?_
        exact ih_2 (j + 1) _ _ ls (by omega) (by omega) (by rw [cpU_s f (σ 3) j]; exact hP) (by rw [cpU_s f (σ 3) j]; exact hD) hS (lv_sub hl [1, 2, 0] rfl)
  exact L_2 ((82 - 0) + 1) 0 _ _ ls (Nat.lt_succ_self _) (Nat.zero_le 82) (by rw [cpU_0]; exact (MW_up_aside ▸ hP)) (by rw [cpU_0]; exact (MW_up_aside ▸ hD)) hS (lv_sub hl [1, 2, 0] rfl)
set_option maxRecDepth 100000 in
set_option maxHeartbeats 4000000 in
theorem c_X4_copyRow_aside_s (l : Launch) (D : va_G) (cI cJ : ClassId) (a : Nat → Nat) (f : Nat → Int32) (σ : Nat → Nat → Int32) : WR l yX4_copyRow cX4_copyRow 3 none 0 D cI cJ (MW cI a f σ) [.ref (a 4), .ref (a 1)] (none) (MW cI a (σ 3) σ) := by
  refine WR.of (by decide) (Nat.le_of_ble_eq_true rfl) (fun p e s m below meth c ls A S hr hlk hK hP hD hS hA hl => ?_)
  obtain ⟨hx, hb, hml, hown, hU⟩ := id S
  have hl : lv_has ls 3 [(0, .ref (a 4)), (1, .ref (a 1))] := hl
  refine lv_iconst (v := nI 0) hx hb dX4_copyRow_0 (by decide) ?_
  refine lv_istore_n (lv' := [(2, .int (nI 0)), (0, .ref (a 4)), (1, .ref (a 1))]) hx hb dX4_copyRow_1 rfl hl (by decide) rfl (fun ls hl => ?_)
  have L_2 : ∀ (n9 : Nat) (j : Nat) (H : Heap) (locs : List Loc) (ls : Array Slot), 82 - j < n9 → j ≤ 82 → va_P D vwCl (MW cI a (cpU (σ 3) f j) σ) H → va_D A (MW cI a (cpU (σ 3) f j) σ) → va_S A s.heap H locs → lv_has ls 3 [(0, .ref (a 4)), (1, .ref (a 1)), (2, .int (nI j))] → W p l e (rmd 0) s m ([.ref (a 4), .ref (a 1)] : List Value).toArray below meth c H locs 0 0 (ZW below ([.ref (a 4), .ref (a 1)] : List Value).toArray s D (none) (MW cI a (σ 3) σ) A) (F0 m 2 ls []) := by
    intro n9
    induction n9 with
    | zero => intro j H locs ls hm; exact absurd hm (Nat.not_lt_zero _)
    | succ n9 ih_2 =>
      intro j H locs ls hm hj hP hD hS hl
      refine lv_iload_n hx hb dX4_copyRow_2 rfl (lv_at hl 2 rfl) ?_
      refine lv_bipush (v := nI 82) hx hb dX4_copyRow_3 (by decide) ?_
      refine q_icmp_geN (tgt := 20) (a := j) (b := 82) hx hb dX4_copyRow_5 (by decide) (by omega) (by omega) (fun c_5 => ?_) (fun c_5 => ?_)
      · have hP := MW_row_s hP (fun k hk => cpU_in (show k < j by omega))
        exact WR.vret S hr hlk hP hS rfl dX4_copyRow_20
      · refine lv_aload_n hx hb dX4_copyRow_8 rfl (lv_at hl 1 rfl) ?_
        refine lv_iload_n hx hb dX4_copyRow_9 rfl (lv_at hl 2 rfl) ?_
        refine lv_aload_n hx hb dX4_copyRow_10 rfl (lv_at hl 0 rfl) ?_
        refine lv_iload_n hx hb dX4_copyRow_11 rfl (lv_at hl 2 rfl) ?_
        refine l4_aside S hK hP (j := j) (by omega) dX4_copyRow_12 ?_
        refine s4_s S hK hP hD hS (j := j) (by omega) dX4_copyRow_13 (fun H locs hP hD hS => ?_)
        refine lv_iinc (v := nI (j + 1)) (lv' := [(2, .int (nI (j + 1))), (0, .ref (a 4)), (1, .ref (a 1))]) hx hb dX4_copyRow_14 hl (k := 2) rfl (q_inc _) (by decide) rfl (fun ls hl => ?_)
        refine lv_goto (tgt := 2) hx hb dX4_copyRow_17 (by decide) ?_
        exact ih_2 (j + 1) _ _ ls (by omega) (by omega) (by rw [cpU_s (σ 3) f j]; exact hP) (by rw [cpU_s (σ 3) f j]; exact hD) hS (lv_sub hl [1, 2, 0] rfl)
  exact L_2 ((82 - 0) + 1) 0 _ _ ls (Nat.lt_succ_self _) (Nat.zero_le 82) (by rw [cpU_0]; exact hP) (by rw [cpU_0]; exact hD) hS (lv_sub hl [1, 2, 0] rfl)
set_option maxRecDepth 100000 in
set_option maxHeartbeats 4000000 in
theorem c_X4_copyRow_s_kept (l : Launch) (D : va_G) (cI cJ : ClassId) (a : Nat → Nat) (f : Nat → Int32) (σ : Nat → Nat → Int32) : WR l yX4_copyRow cX4_copyRow 3 none 0 D cI cJ (MW cI a f σ) [.ref (a 1), .ref (a 2)] (none) (MW cI a f (va_up σ 1 f)) := by
  refine WR.of (by decide) (Nat.le_of_ble_eq_true rfl) (fun p e s m below meth c ls A S hr hlk hK hP hD hS hA hl => ?_)
  obtain ⟨hx, hb, hml, hown, hU⟩ := id S
  have hl : lv_has ls 3 [(0, .ref (a 1)), (1, .ref (a 2))] := hl
  refine lv_iconst (v := nI 0) hx hb dX4_copyRow_0 (by decide) ?_
  refine lv_istore_n (lv' := [(2, .int (nI 0)), (0, .ref (a 1)), (1, .ref (a 2))]) hx hb dX4_copyRow_1 rfl hl (by decide) rfl (fun ls hl => ?_)
  have L_2 : ∀ (n9 : Nat) (j : Nat) (H : Heap) (locs : List Loc) (ls : Array Slot), 82 - j < n9 → j ≤ 82 → va_P D vwCl (MW cI a f (va_up σ 1 (cpU f (σ 1) j))) H → va_D A (MW cI a f (va_up σ 1 (cpU f (σ 1) j))) → va_S A s.heap H locs → lv_has ls 3 [(0, .ref (a 1)), (1, .ref (a 2)), (2, .int (nI j))] → W p l e (rmd 0) s m ([.ref (a 1), .ref (a 2)] : List Value).toArray below meth c H locs 0 0 (ZW below ([.ref (a 1), .ref (a 2)] : List Value).toArray s D (none) (MW cI a f (va_up σ 1 f)) A) (F0 m 2 ls []) := by
    intro n9
    induction n9 with
    | zero => intro j H locs ls hm; exact absurd hm (Nat.not_lt_zero _)
    | succ n9 ih_2 =>
      intro j H locs ls hm hj hP hD hS hl
      refine lv_iload_n hx hb dX4_copyRow_2 rfl (lv_at hl 2 rfl) ?_
      refine lv_bipush (v := nI 82) hx hb dX4_copyRow_3 (by decide) ?_
      refine q_icmp_geN (tgt := 20) (a := j) (b := 82) hx hb dX4_copyRow_5 (by decide) (by omega) (by omega) (fun c_5 => ?_) (fun c_5 => ?_)
      · have hP := MW_row_kept hP (fun k hk => cpU_in (show k < j by omega))
        exact WR.vret S hr hlk hP hS rfl dX4_copyRow_20
      · refine lv_aload_n hx hb dX4_copyRow_8 rfl (lv_at hl 1 rfl) ?_
        refine lv_iload_n hx hb dX4_copyRow_9 rfl (lv_at hl 2 rfl) ?_
        refine lv_aload_n hx hb dX4_copyRow_10 rfl (lv_at hl 0 rfl) ?_
        refine lv_iload_n hx hb dX4_copyRow_11 rfl (lv_at hl 2 rfl) ?_
        refine l4_s S hK hP (j := j) (by omega) dX4_copyRow_12 ?_
        refine s4_kept S hK hP hD hS (j := j) (by omega) dX4_copyRow_13 (fun H locs hP hD hS => ?_)
        refine lv_iinc (v := nI (j + 1)) (lv' := [(2, .int (nI (j + 1))), (0, .ref (a 1)), (1, .ref (a 2))]) hx hb dX4_copyRow_14 hl (k := 2) rfl (q_inc _) (by decide) rfl (fun ls hl => ?_)
        refine lv_goto (tgt := 2) hx hb dX4_copyRow_17 (by decide) ?_
        exact ih_2 (j + 1) _ _ ls (by omega) (by omega) (by rw [cpU_s f (σ 1) j]; exact hP) (by rw [cpU_s f (σ 1) j]; exact hD) hS (lv_sub hl [1, 2, 0] rfl)
  exact L_2 ((82 - 0) + 1) 0 _ _ ls (Nat.lt_succ_self _) (Nat.zero_le 82) (by rw [cpU_0]; exact (MW_up_kept ▸ hP)) (by rw [cpU_0]; exact (MW_up_kept ▸ hD)) hS (lv_sub hl [1, 2, 0] rfl)
set_option maxRecDepth 100000 in
set_option maxHeartbeats 4000000 in
theorem c_X4_copyRow_kept_s (l : Launch) (D : va_G) (cI cJ : ClassId) (a : Nat → Nat) (f : Nat → Int32) (σ : Nat → Nat → Int32) : WR l yX4_copyRow cX4_copyRow 3 none 0 D cI cJ (MW cI a f σ) [.ref (a 2), .ref (a 1)] (none) (MW cI a (σ 1) σ) := by
  refine WR.of (by decide) (Nat.le_of_ble_eq_true rfl) (fun p e s m below meth c ls A S hr hlk hK hP hD hS hA hl => ?_)
  obtain ⟨hx, hb, hml, hown, hU⟩ := id S
  have hl : lv_has ls 3 [(0, .ref (a 2)), (1, .ref (a 1))] := hl
  refine lv_iconst (v := nI 0) hx hb dX4_copyRow_0 (by decide) ?_
  refine lv_istore_n (lv' := [(2, .int (nI 0)), (0, .ref (a 2)), (1, .ref (a 1))]) hx hb dX4_copyRow_1 rfl hl (by decide) rfl (fun ls hl => ?_)
  have L_2 : ∀ (n9 : Nat) (j : Nat) (H : Heap) (locs : List Loc) (ls : Array Slot), 82 - j < n9 → j ≤ 82 → va_P D vwCl (MW cI a (cpU (σ 1) f j) σ) H → va_D A (MW cI a (cpU (σ 1) f j) σ) → va_S A s.heap H locs → lv_has ls 3 [(0, .ref (a 2)), (1, .ref (a 1)), (2, .int (nI j))] → W p l e (rmd 0) s m ([.ref (a 2), .ref (a 1)] : List Value).toArray below meth c H locs 0 0 (ZW below ([.ref (a 2), .ref (a 1)] : List Value).toArray s D (none) (MW cI a (σ 1) σ) A) (F0 m 2 ls []) := by
    intro n9
    induction n9 with
    | zero => intro j H locs ls hm; exact absurd hm (Nat.not_lt_zero _)
    | succ n9 ih_2 =>
      intro j H locs ls hm hj hP hD hS hl
      refine lv_iload_n hx hb dX4_copyRow_2 rfl (lv_at hl 2 rfl) ?_
      refine lv_bipush (v := nI 82) hx hb dX4_copyRow_3 (by decide) ?_
      refine q_icmp_geN (tgt := 20) (a := j) (b := 82) hx hb dX4_copyRow_5 (by decide) (by omega) (by omega) (fun c_5 => ?_) (fun c_5 => ?_)
      · have hP := MW_row_s hP (fun k hk => cpU_in (show k < j by omega))
        exact WR.vret S hr hlk hP hS rfl dX4_copyRow_20
      · refine lv_aload_n hx hb dX4_copyRow_8 rfl (lv_at hl 1 rfl) ?_
        refine lv_iload_n hx hb dX4_copyRow_9 rfl (lv_at hl 2 rfl) ?_
        refine lv_aload_n hx hb dX4_copyRow_10 rfl (lv_at hl 0 rfl) ?_
        refine lv_iload_n hx hb dX4_copyRow_11 rfl (lv_at hl 2 rfl) ?_
        refine l4_kept S hK hP (j := j) (by omega) dX4_copyRow_12 ?_
        refine s4_s S hK hP hD hS (j := j) (by omega) dX4_copyRow_13 (fun H locs hP hD hS => ?_)
        refine lv_iinc (v := nI (j + 1)) (lv' := [(2, .int (nI (j + 1))), (0, .ref (a 2)), (1, .ref (a 1))]) hx hb dX4_copyRow_14 hl (k := 2) rfl (q_inc _) (by decide) rfl (fun ls hl => ?_)
        refine lv_goto (tgt := 2) hx hb dX4_copyRow_17 (by decide) ?_
        exact ih_2 (j + 1) _ _ ls (by omega) (by omega) (by rw [cpU_s (σ 1) f j]; exact hP) (by rw [cpU_s (σ 1) f j]; exact hD) hS (lv_sub hl [1, 2, 0] rfl)
  exact L_2 ((82 - 0) + 1) 0 _ _ ls (Nat.lt_succ_self _) (Nat.zero_le 82) (by rw [cpU_0]; exact hP) (by rw [cpU_0]; exact hD) hS (lv_sub hl [1, 2, 0] rfl)
set_option maxRecDepth 100000 in
set_option maxHeartbeats 4000000 in
theorem c_X4_copyRow_s_before (l : Launch) (D : va_G) (cI cJ : ClassId) (a : Nat → Nat) (f : Nat → Int32) (σ : Nat → Nat → Int32) : WR l yX4_copyRow cX4_copyRow 3 none 0 D cI cJ (MW cI a f σ) [.ref (a 1), .ref (a 3)] (none) (MW cI a f (va_up σ 2 f)) := by
  refine WR.of (by decide) (Nat.le_of_ble_eq_true rfl) (fun p e s m below meth c ls A S hr hlk hK hP hD hS hA hl => ?_)
  obtain ⟨hx, hb, hml, hown, hU⟩ := id S
  have hl : lv_has ls 3 [(0, .ref (a 1)), (1, .ref (a 3))] := hl
  refine lv_iconst (v := nI 0) hx hb dX4_copyRow_0 (by decide) ?_
  refine lv_istore_n (lv' := [(2, .int (nI 0)), (0, .ref (a 1)), (1, .ref (a 3))]) hx hb dX4_copyRow_1 rfl hl (by decide) rfl (fun ls hl => ?_)
  have L_2 : ∀ (n9 : Nat) (j : Nat) (H : Heap) (locs : List Loc) (ls : Array Slot), 82 - j < n9 → j ≤ 82 → va_P D vwCl (MW cI a f (va_up σ 2 (cpU f (σ 2) j))) H → va_D A (MW cI a f (va_up σ 2 (cpU f (σ 2) j))) → va_S A s.heap H locs → lv_has ls 3 [(0, .ref (a 1)), (1, .ref (a 3)), (2, .int (nI j))] → W p l e (rmd 0) s m ([.ref (a 1), .ref (a 3)] : List Value).toArray below meth c H locs 0 0 (ZW below ([.ref (a 1), .ref (a 3)] : List Value).toArray s D (none) (MW cI a f (va_up σ 2 f)) A) (F0 m 2 ls []) := by
    intro n9
    induction n9 with
    | zero => intro j H locs ls hm; exact absurd hm (Nat.not_lt_zero _)
    | succ n9 ih_2 =>
      intro j H locs ls hm hj hP hD hS hl
      refine lv_iload_n hx hb dX4_copyRow_2 rfl (lv_at hl 2 rfl) ?_
      refine lv_bipush (v := nI 82) hx hb dX4_copyRow_3 (by decide) ?_
      refine q_icmp_geN (tgt := 20) (a := j) (b := 82) hx hb dX4_copyRow_5 (by decide) (by omega) (by omega) (fun c_5 => ?_) (fun c_5 => ?_)
      · have hP := MW_row_before hP (fun k hk => cpU_in (show k < j by omega))
        exact WR.vret S hr hlk hP hS rfl dX4_copyRow_20
      · refine lv_aload_n hx hb dX4_copyRow_8 rfl (lv_at hl 1 rfl) ?_
        refine lv_iload_n hx hb dX4_copyRow_9 rfl (lv_at hl 2 rfl) ?_
        refine lv_aload_n hx hb dX4_copyRow_10 rfl (lv_at hl 0 rfl) ?_
        refine lv_iload_n hx hb dX4_copyRow_11 rfl (lv_at hl 2 rfl) ?_
        refine l4_s S hK hP (j := j) (by omega) dX4_copyRow_12 ?_
        refine s4_before S hK hP hD hS (j := j) (by omega) dX4_copyRow_13 (fun H locs hP hD hS => ?_)
        refine lv_iinc (v := nI (j + 1)) (lv' := [(2, .int (nI (j + 1))), (0, .ref (a 1)), (1, .ref (a 3))]) hx hb dX4_copyRow_14 hl (k := 2) rfl (q_inc _) (by decide) rfl (fun ls hl => ?_)
        refine lv_goto (tgt := 2) hx hb dX4_copyRow_17 (by decide) ?_
        exact ih_2 (j + 1) _ _ ls (by omega) (by omega) (by rw [cpU_s f (σ 2) j]; exact hP) (by rw [cpU_s f (σ 2) j]; exact hD) hS (lv_sub hl [1, 2, 0] rfl)
  exact L_2 ((82 - 0) + 1) 0 _ _ ls (Nat.lt_succ_self _) (Nat.zero_le 82) (by rw [cpU_0]; exact (MW_up_before ▸ hP)) (by rw [cpU_0]; exact (MW_up_before ▸ hD)) hS (lv_sub hl [1, 2, 0] rfl)
set_option maxRecDepth 100000 in
set_option maxHeartbeats 4000000 in
theorem c_X4_copyRow_before_s (l : Launch) (D : va_G) (cI cJ : ClassId) (a : Nat → Nat) (f : Nat → Int32) (σ : Nat → Nat → Int32) : WR l yX4_copyRow cX4_copyRow 3 none 0 D cI cJ (MW cI a f σ) [.ref (a 3), .ref (a 1)] (none) (MW cI a (σ 2) σ) := by
  refine WR.of (by decide) (Nat.le_of_ble_eq_true rfl) (fun p e s m below meth c ls A S hr hlk hK hP hD hS hA hl => ?_)
  obtain ⟨hx, hb, hml, hown, hU⟩ := id S
  have hl : lv_has ls 3 [(0, .ref (a 3)), (1, .ref (a 1))] := hl
  refine lv_iconst (v := nI 0) hx hb dX4_copyRow_0 (by decide) ?_
  refine lv_istore_n (lv' := [(2, .int (nI 0)), (0, .ref (a 3)), (1, .ref (a 1))]) hx hb dX4_copyRow_1 rfl hl (by decide) rfl (fun ls hl => ?_)
  have L_2 : ∀ (n9 : Nat) (j : Nat) (H : Heap) (locs : List Loc) (ls : Array Slot), 82 - j < n9 → j ≤ 82 → va_P D vwCl (MW cI a (cpU (σ 2) f j) σ) H → va_D A (MW cI a (cpU (σ 2) f j) σ) → va_S A s.heap H locs → lv_has ls 3 [(0, .ref (a 3)), (1, .ref (a 1)), (2, .int (nI j))] → W p l e (rmd 0) s m ([.ref (a 3), .ref (a 1)] : List Value).toArray below meth c H locs 0 0 (ZW below ([.ref (a 3), .ref (a 1)] : List Value).toArray s D (none) (MW cI a (σ 2) σ) A) (F0 m 2 ls []) := by
    intro n9
    induction n9 with
    | zero => intro j H locs ls hm; exact absurd hm (Nat.not_lt_zero _)
    | succ n9 ih_2 =>
      intro j H locs ls hm hj hP hD hS hl
      refine lv_iload_n hx hb dX4_copyRow_2 rfl (lv_at hl 2 rfl) ?_
      refine lv_bipush (v := nI 82) hx hb dX4_copyRow_3 (by decide) ?_
      refine q_icmp_geN (tgt := 20) (a := j) (b := 82) hx hb dX4_copyRow_5 (by decide) (by omega) (by omega) (fun c_5 => ?_) (fun c_5 => ?_)
      · have hP := MW_row_s hP (fun k hk => cpU_in (show k < j by omega))
        exact WR.vret S hr hlk hP hS rfl dX4_copyRow_20
      · refine lv_aload_n hx hb dX4_copyRow_8 rfl (lv_at hl 1 rfl) ?_
        refine lv_iload_n hx hb dX4_copyRow_9 rfl (lv_at hl 2 rfl) ?_
        refine lv_aload_n hx hb dX4_copyRow_10 rfl (lv_at hl 0 rfl) ?_
        refine lv_iload_n hx hb dX4_copyRow_11 rfl (lv_at hl 2 rfl) ?_
        refine l4_before S hK hP (j := j) (by omega) dX4_copyRow_12 ?_
        refine s4_s S hK hP hD hS (j := j) (by omega) dX4_copyRow_13 (fun H locs hP hD hS => ?_)
        refine lv_iinc (v := nI (j + 1)) (lv' := [(2, .int (nI (j + 1))), (0, .ref (a 3)), (1, .ref (a 1))]) hx hb dX4_copyRow_14 hl (k := 2) rfl (q_inc _) (by decide) rfl (fun ls hl => ?_)
        refine lv_goto (tgt := 2) hx hb dX4_copyRow_17 (by decide) ?_
        exact ih_2 (j + 1) _ _ ls (by omega) (by omega) (by rw [cpU_s (σ 2) f j]; exact hP) (by rw [cpU_s (σ 2) f j]; exact hD) hS (lv_sub hl [1, 2, 0] rfl)
  exact L_2 ((82 - 0) + 1) 0 _ _ ls (Nat.lt_succ_self _) (Nat.zero_le 82) (by rw [cpU_0]; exact hP) (by rw [cpU_0]; exact hD) hS (lv_sub hl [1, 2, 0] rfl)
set_option maxRecDepth 100000 in
set_option maxHeartbeats 4000000 in
theorem c_X4_there (l : Launch) (D : va_G) (cI cJ : ClassId) (a : Nat → Nat) (f : Nat → Int32) (σ : Nat → Nat → Int32) (x : Int32) (n : Nat) (hw : Wk f n) : RO l yX4_there cX4_there 4 (some .int) 1 D cI cJ (MW cI a f σ) [.ref (a 0), .int x] (.int (nI (sTh f x n))) := by
  have h8 := hw.2.1
  refine RO.of (by decide) (Nat.le_of_ble_eq_true rfl) (fun p e s m below meth c ls S hr hlk hK hP hl => ?_)
  obtain ⟨hx, hb, hml, hown, hU⟩ := id S
  have hl : lv_has ls 4 [(0, .ref (a 0)), (1, .int x)] := hl
  refine lv_iconst (v := nI 0) hx hb dX4_there_0 (by decide) ?_
  refine lv_istore_n (lv' := [(2, .int (nI 0)), (0, .ref (a 0)), (1, .int x)]) hx hb dX4_there_1 rfl hl (by decide) rfl (fun ls hl => ?_)
  refine lv_iconst (v := nI 0) hx hb dX4_there_2 (by decide) ?_
  refine lv_istore_n (lv' := [(3, .int (nI 0)), (2, .int (nI 0)), (0, .ref (a 0)), (1, .int x)]) hx hb dX4_there_3 rfl hl (by decide) rfl (fun ls hl => ?_)
  have L_4 : ∀ (n9 : Nat) (j : Nat) (ls : Array Slot), n - j < n9 → j ≤ n → lv_has ls 4 [(0, .ref (a 0)), (1, .int x), (2, .int (nI (sTh f x j))), (3, .int (nI j))] → W p l e (rmd 1) s m ([.ref (a 0), .int x] : List Value).toArray below meth c s.heap [] 0 0 (ZR below ([.ref (a 0), .int x] : List Value).toArray s (.int (nI (sTh f x n)))) (F0 m 4 ls []) := by
    intro n9
    induction n9 with
    | zero => intro j ls hm; exact absurd hm (Nat.not_lt_zero _)
    | succ n9 ih_4 =>
      intro j ls hm hj hl
      have lt := sTh_lt (f := f) (c := x) (j := j) (by omega)
      have l31 : sTh f x j < 2147483648 := Nat.lt_of_lt_of_le lt (Nat.le_trans (Nat.pow_le_pow_right (by decide) (show j ≤ 8 by omega)) (by decide))
      refine lv_iload_n hx hb dX4_there_4 rfl (lv_at hl 3 rfl) ?_
      refine lv_aload_n hx hb dX4_there_5 rfl (lv_at hl 0 rfl) ?_
      refine g4_s S hK hP dX4_there_6 ?_
      refine lv_iconst (v := nI 0) hx hb dX4_there_9 (by decide) ?_
      refine l4_s S hK hP (j := 0) (by omega) dX4_there_10 ?_
      refine q_eqi (y := nI n) (hw.1) ?_
      refine q_icmp_geN (tgt := 40) (a := j) (b := n) hx hb dX4_there_11 (by decide) (by omega) (by omega) (fun c_11 => ?_) (fun c_11 => ?_)
      · refine lv_iload_n hx hb dX4_there_40 rfl (lv_at hl 2 rfl) ?_
        exact RO.iret S hr hlk (congrArg Value.int (by rw [show j = n by omega])) dX4_there_41
      · refine lv_iload_n hx hb dX4_there_14 rfl (lv_at hl 2 rfl) ?_
        refine lv_aload_n hx hb dX4_there_15 rfl (lv_at hl 0 rfl) ?_
        refine lv_iload_n hx hb dX4_there_16 rfl (lv_at hl 3 rfl) ?_
        refine lv_iconst (v := nI 1) hx hb dX4_there_17 (by decide) ?_
        refine RO.callV S kv_X4_57 (c_X4_its l D cI cJ a f σ j 1 (by omega)) hK hP rfl ⟨Nat.le_of_ble_eq_true rfl, Nat.le_of_ble_eq_true rfl⟩ hl.1 rfl rfl (Nat.le_of_ble_eq_true rfl) (Nat.zero_le _) (Nat.zero_le _) dX4_there_18 ?_
        refine lv_iload_n hx hb dX4_there_21 rfl (lv_at hl 1 rfl) ?_
        refine lv_icmp_ne (tgt := 31) hx hb dX4_there_22 (by decide) (fun c_22 => ?_) (fun c_22 => ?_)
        · refine lv_iconst (v := nI 0) hx hb dX4_there_31 (by decide) ?_
          refine lv_ior hx hb dX4_there_32 ?_
          refine q_eqi (y := nI (sTh f x j ||| 0)) (nI_or (by omega) (by decide)) ?_
          refine lv_istore_n (lv' := [(2, .int (nI (sTh f x j ||| 0))), (0, .ref (a 0)), (1, .int x), (3, .int (nI j))]) hx hb dX4_there_33 rfl hl (by decide) rfl (fun ls hl => ?_)
          refine lv_iinc (v := nI (j + 1)) (lv' := [(3, .int (nI (j + 1))), (2, .int (nI (sTh f x j ||| 0))), (0, .ref (a 0)), (1, .int x)]) hx hb dX4_there_34 hl (k := 3) rfl (q_inc _) (by decide) rfl (fun ls hl => ?_)
          refine lv_goto (tgt := 4) hx hb dX4_there_37 (by decide) ?_
          exact ih_4 (j + 1) ls (by omega) (by omega) (by rw [show nI (sTh f x (j + 1)) = nI (sTh f x j ||| 0) from by rw [sTh, if_neg c_22]; exact congrArg nI (Nat.or_zero _).symm]; exact lv_sub hl [2, 3, 1, 0] rfl)
        · refine lv_iconst (v := nI 1) hx hb dX4_there_25 (by decide) ?_
          refine lv_iload_n hx hb dX4_there_26 rfl (lv_at hl 3 rfl) ?_
          refine lv_ishl hx hb dX4_there_27 ?_
          refine q_eqi (y := nI (2 ^ j)) (nI_shl1 _ (by omega)) ?_
          refine lv_goto (tgt := 32) hx hb dX4_there_28 (by decide) ?_
          refine lv_ior hx hb dX4_there_32 ?_
          refine q_eqi (y := nI (sTh f x j ||| 2 ^ j)) (nI_or (by omega) (by have := Nat.pow_le_pow_right (n := 2) (by decide) (show j ≤ 8 by omega); omega)) ?_
          refine lv_istore_n (lv' := [(2, .int (nI (sTh f x j ||| 2 ^ j))), (0, .ref (a 0)), (1, .int x), (3, .int (nI j))]) hx hb dX4_there_33 rfl hl (by decide) rfl (fun ls hl => ?_)
          refine lv_iinc (v := nI (j + 1)) (lv' := [(3, .int (nI (j + 1))), (2, .int (nI (sTh f x j ||| 2 ^ j))), (0, .ref (a 0)), (1, .int x)]) hx hb dX4_there_34 hl (k := 3) rfl (q_inc _) (by decide) rfl (fun ls hl => ?_)
          refine lv_goto (tgt := 4) hx hb dX4_there_37 (by decide) ?_
          exact ih_4 (j + 1) ls (by omega) (by omega) (by rw [show nI (sTh f x (j + 1)) = nI (sTh f x j ||| 2 ^ j) from by rw [sTh, if_pos c_22]]; exact lv_sub hl [2, 3, 1, 0] rfl)
  exact L_4 ((n - 0) + 1) 0 ls (Nat.lt_succ_self _) (Nat.zero_le n) (lv_sub hl [2, 3, 1, 0] rfl)
set_option maxRecDepth 100000 in
set_option maxHeartbeats 4000000 in
theorem c_X4_emptiest (l : Launch) (D : va_G) (cI cJ : ClassId) (a : Nat → Nat) (f : Nat → Int32) (σ : Nat → Nat → Int32) (x : Int32) (n : Nat) (hw : Wk f n) : RO l yX4_emptiest cX4_emptiest 4 (some .int) 1 D cI cJ (MW cI a f σ) [.ref (a 0), .int x] (.int (oI (sEm f x n))) := by
  have h8 := hw.2.1
  refine RO.of (by decide) (Nat.le_of_ble_eq_true rfl) (fun p e s m below meth c ls S hr hlk hK hP hl => ?_)
  obtain ⟨hx, hb, hml, hown, hU⟩ := id S
  have hl : lv_has ls 4 [(0, .ref (a 0)), (1, .int x)] := hl
  refine lv_iconst (v := (-1)) hx hb dX4_emptiest_0 (by decide) ?_
  refine lv_istore_n (lv' := [(2, .int (-1)), (0, .ref (a 0)), (1, .int x)]) hx hb dX4_emptiest_1 rfl hl (by decide) rfl (fun ls hl => ?_)
  refine lv_iconst (v := nI 0) hx hb dX4_emptiest_2 (by decide) ?_
  refine lv_istore_n (lv' := [(3, .int (nI 0)), (2, .int (-1)), (0, .ref (a 0)), (1, .int x)]) hx hb dX4_emptiest_3 rfl hl (by decide) rfl (fun ls hl => ?_)
  have L_4 : ∀ (n9 : Nat) (j : Nat) (ls : Array Slot), n - j < n9 → j ≤ n → lv_has ls 4 [(0, .ref (a 0)), (1, .int x), (2, .int (oI (sEm f x j))), (3, .int (nI j))] → W p l e (rmd 1) s m ([.ref (a 0), .int x] : List Value).toArray below meth c s.heap [] 0 0 (ZR below ([.ref (a 0), .int x] : List Value).toArray s (.int (oI (sEm f x n)))) (F0 m 4 ls []) := by
    intro n9
    induction n9 with
    | zero => intro j ls hm; exact absurd hm (Nat.not_lt_zero _)
    | succ n9 ih_4 =>
      intro j ls hm hj hl
      cases hE : sEm f x j with
      | none =>
        have hl : lv_has ls 4 [(0, .ref (a 0)), (1, .int x), (2, .int (-1)), (3, .int (nI j))] := by rw [hE] at hl; exact hl
        refine lv_iload_n hx hb dX4_emptiest_4 rfl (lv_at hl 3 rfl) ?_
        refine lv_aload_n hx hb dX4_emptiest_5 rfl (lv_at hl 0 rfl) ?_
        refine g4_s S hK hP dX4_emptiest_6 ?_
        refine lv_iconst (v := nI 0) hx hb dX4_emptiest_9 (by decide) ?_
        refine l4_s S hK hP (j := 0) (by omega) dX4_emptiest_10 ?_
        refine q_eqi (y := nI n) (hw.1) ?_
        refine q_icmp_geN (tgt := 55) (a := j) (b := n) hx hb dX4_emptiest_11 (by decide) (by omega) (by omega) (fun c_11 => ?_) (fun c_11 => ?_)
        · refine lv_iload_n hx hb dX4_emptiest_55 rfl (lv_at hl 2 rfl) ?_
          exact RO.iret S hr hlk (congrArg Value.int (by rw [← show j = n by omega, hE]; rfl)) dX4_emptiest_56
        · refine lv_aload_n hx hb dX4_emptiest_14 rfl (lv_at hl 0 rfl) ?_
          refine lv_iload_n hx hb dX4_emptiest_15 rfl (lv_at hl 3 rfl) ?_
          refine lv_iconst (v := nI 1) hx hb dX4_emptiest_16 (by decide) ?_
          refine RO.callV S kv_X4_57 (c_X4_its l D cI cJ a f σ j 1 (by omega)) hK hP rfl ⟨Nat.le_of_ble_eq_true rfl, Nat.le_of_ble_eq_true rfl⟩ hl.1 rfl rfl (Nat.le_of_ble_eq_true rfl) (Nat.zero_le _) (Nat.zero_le _) dX4_emptiest_17 ?_
          refine lv_iload_n hx hb dX4_emptiest_20 rfl (lv_at hl 1 rfl) ?_
          refine lv_icmp_ne (tgt := 47) hx hb dX4_emptiest_21 (by decide) (fun c_21 => ?_) (fun c_21 => ?_)
          · refine lv_iload_n hx hb dX4_emptiest_47 rfl (lv_at hl 2 rfl) ?_
            refine lv_istore_n (lv' := [(2, .int (-1)), (0, .ref (a 0)), (1, .int x), (3, .int (nI j))]) hx hb dX4_emptiest_48 rfl hl (by decide) rfl (fun ls hl => ?_)
            refine lv_iinc (v := nI (j + 1)) (lv' := [(3, .int (nI (j + 1))), (2, .int (-1)), (0, .ref (a 0)), (1, .int x)]) hx hb dX4_emptiest_49 hl (k := 3) rfl (q_inc _) (by decide) rfl (fun ls hl => ?_)
            refine lv_goto (tgt := 4) hx hb dX4_emptiest_52 (by decide) ?_
            exact ih_4 (j + 1) ls (by omega) (by omega) (by rw [show oI (sEm f x (j + 1)) = (-1) from by rw [sEm_n0 hE c_21]; rfl]; exact lv_sub hl [2, 3, 1, 0] rfl)
          · refine lv_iload_n hx hb dX4_emptiest_24 rfl (lv_at hl 2 rfl) ?_
            refine lv_if_lt (tgt := 43) hx hb dX4_emptiest_25 (by decide) (fun _ => ?_) (fun h => absurd (by decide) h)
            refine lv_iload_n hx hb dX4_emptiest_43 rfl (lv_at hl 3 rfl) ?_
            refine lv_goto (tgt := 48) hx hb dX4_emptiest_44 (by decide) ?_
            refine lv_istore_n (lv' := [(2, .int (nI j)), (0, .ref (a 0)), (1, .int x), (3, .int (nI j))]) hx hb dX4_emptiest_48 rfl hl (by decide) rfl (fun ls hl => ?_)
            refine lv_iinc (v := nI (j + 1)) (lv' := [(3, .int (nI (j + 1))), (2, .int (nI j)), (0, .ref (a 0)), (1, .int x)]) hx hb dX4_emptiest_49 hl (k := 3) rfl (q_inc _) (by decide) rfl (fun ls hl => ?_)
            refine lv_goto (tgt := 4) hx hb dX4_emptiest_52 (by decide) ?_
            exact ih_4 (j + 1) ls (by omega) (by omega) (by rw [show oI (sEm f x (j + 1)) = nI j from by rw [sEm_n1 hE c_21]; rfl]; exact lv_sub hl [2, 3, 1, 0] rfl)
      | some b =>
        have hl : lv_has ls 4 [(0, .ref (a 0)), (1, .int x), (2, .int (nI b)), (3, .int (nI j))] := by rw [hE] at hl; exact hl
        have hbj := sEm_lt hE
        refine lv_iload_n hx hb dX4_emptiest_4 rfl (lv_at hl 3 rfl) ?_
        refine lv_aload_n hx hb dX4_emptiest_5 rfl (lv_at hl 0 rfl) ?_
        refine g4_s S hK hP dX4_emptiest_6 ?_
        refine lv_iconst (v := nI 0) hx hb dX4_emptiest_9 (by decide) ?_
        refine l4_s S hK hP (j := 0) (by omega) dX4_emptiest_10 ?_
        refine q_eqi (y := nI n) (hw.1) ?_
        refine q_icmp_geN (tgt := 55) (a := j) (b := n) hx hb dX4_emptiest_11 (by decide) (by omega) (by omega) (fun c_11 => ?_) (fun c_11 => ?_)
        · refine lv_iload_n hx hb dX4_emptiest_55 rfl (lv_at hl 2 rfl) ?_
          exact RO.iret S hr hlk (congrArg Value.int (by rw [← show j = n by omega, hE]; rfl)) dX4_emptiest_56
        · refine lv_aload_n hx hb dX4_emptiest_14 rfl (lv_at hl 0 rfl) ?_
          refine lv_iload_n hx hb dX4_emptiest_15 rfl (lv_at hl 3 rfl) ?_
          refine lv_iconst (v := nI 1) hx hb dX4_emptiest_16 (by decide) ?_
          refine RO.callV S kv_X4_57 (c_X4_its l D cI cJ a f σ j 1 (by omega)) hK hP rfl ⟨Nat.le_of_ble_eq_true rfl, Nat.le_of_ble_eq_true rfl⟩ hl.1 rfl rfl (Nat.le_of_ble_eq_true rfl) (Nat.zero_le _) (Nat.zero_le _) dX4_emptiest_17 ?_
          refine lv_iload_n hx hb dX4_emptiest_20 rfl (lv_at hl 1 rfl) ?_
          refine lv_icmp_ne (tgt := 47) hx hb dX4_emptiest_21 (by decide) (fun c_21 => ?_) (fun c_21 => ?_)
          · refine lv_iload_n hx hb dX4_emptiest_47 rfl (lv_at hl 2 rfl) ?_
            refine lv_istore_n (lv' := [(2, .int (nI b)), (0, .ref (a 0)), (1, .int x), (3, .int (nI j))]) hx hb dX4_emptiest_48 rfl hl (by decide) rfl (fun ls hl => ?_)
            refine lv_iinc (v := nI (j + 1)) (lv' := [(3, .int (nI (j + 1))), (2, .int (nI b)), (0, .ref (a 0)), (1, .int x)]) hx hb dX4_emptiest_49 hl (k := 3) rfl (q_inc _) (by decide) rfl (fun ls hl => ?_)
            refine lv_goto (tgt := 4) hx hb dX4_emptiest_52 (by decide) ?_
            exact ih_4 (j + 1) ls (by omega) (by omega) (by rw [show oI (sEm f x (j + 1)) = nI b from by rw [sEm_s0 hE (fun q => c_21 q.1)]; rfl]; exact lv_sub hl [2, 3, 1, 0] rfl)
          · refine lv_iload_n hx hb dX4_emptiest_24 rfl (lv_at hl 2 rfl) ?_
            refine q_if_ltN (tgt := 43) (a := b) hx hb dX4_emptiest_25 (by decide) (by omega) ?_
            refine lv_aload_n hx hb dX4_emptiest_28 rfl (lv_at hl 0 rfl) ?_
            refine lv_iload_n hx hb dX4_emptiest_29 rfl (lv_at hl 3 rfl) ?_
            refine lv_iconst (v := nI 2) hx hb dX4_emptiest_30 (by decide) ?_
            refine RO.callV S kv_X4_57 (c_X4_its l D cI cJ a f σ j 2 (by omega)) hK hP rfl ⟨Nat.le_of_ble_eq_true rfl, Nat.le_of_ble_eq_true rfl⟩ hl.1 rfl rfl (Nat.le_of_ble_eq_true rfl) (Nat.zero_le _) (Nat.zero_le _) dX4_emptiest_31 ?_
            refine lv_aload_n hx hb dX4_emptiest_34 rfl (lv_at hl 0 rfl) ?_
            refine lv_iload_n hx hb dX4_emptiest_35 rfl (lv_at hl 2 rfl) ?_
            refine lv_iconst (v := nI 2) hx hb dX4_emptiest_36 (by decide) ?_
            refine RO.callV S kv_X4_57 (c_X4_its l D cI cJ a f σ b 2 (by omega)) hK hP rfl ⟨Nat.le_of_ble_eq_true rfl, Nat.le_of_ble_eq_true rfl⟩ hl.1 rfl rfl (Nat.le_of_ble_eq_true rfl) (Nat.zero_le _) (Nat.zero_le _) dX4_emptiest_37 ?_
            refine lv_icmp_ge (tgt := 47) hx hb dX4_emptiest_40 (by decide) (fun c_40 => ?_) (fun c_40 => ?_)
            · refine lv_iload_n hx hb dX4_emptiest_47 rfl (lv_at hl 2 rfl) ?_
              refine lv_istore_n (lv' := [(2, .int (nI b)), (0, .ref (a 0)), (1, .int x), (3, .int (nI j))]) hx hb dX4_emptiest_48 rfl hl (by decide) rfl (fun ls hl => ?_)
              refine lv_iinc (v := nI (j + 1)) (lv' := [(3, .int (nI (j + 1))), (2, .int (nI b)), (0, .ref (a 0)), (1, .int x)]) hx hb dX4_emptiest_49 hl (k := 3) rfl (q_inc _) (by decide) rfl (fun ls hl => ?_)
              refine lv_goto (tgt := 4) hx hb dX4_emptiest_52 (by decide) ?_
              exact ih_4 (j + 1) ls (by omega) (by omega) (by rw [show oI (sEm f x (j + 1)) = nI b from by rw [sEm_s0 hE (fun q => i32_not_le_of_lt q.2 c_40)]; rfl]; exact lv_sub hl [2, 3, 1, 0] rfl)
            · refine lv_iload_n hx hb dX4_emptiest_43 rfl (lv_at hl 3 rfl) ?_
              refine lv_goto (tgt := 48) hx hb dX4_emptiest_44 (by decide) ?_
              refine lv_istore_n (lv' := [(2, .int (nI j)), (0, .ref (a 0)), (1, .int x), (3, .int (nI j))]) hx hb dX4_emptiest_48 rfl hl (by decide) rfl (fun ls hl => ?_)
              refine lv_iinc (v := nI (j + 1)) (lv' := [(3, .int (nI (j + 1))), (2, .int (nI j)), (0, .ref (a 0)), (1, .int x)]) hx hb dX4_emptiest_49 hl (k := 3) rfl (q_inc _) (by decide) rfl (fun ls hl => ?_)
              refine lv_goto (tgt := 4) hx hb dX4_emptiest_52 (by decide) ?_
              exact ih_4 (j + 1) ls (by omega) (by omega) (by rw [show oI (sEm f x (j + 1)) = nI j from by rw [sEm_s1 hE c_21 (i32_lt_of_not_le c_40)]; rfl]; exact lv_sub hl [2, 3, 1, 0] rfl)
  exact L_4 ((n - 0) + 1) 0 ls (Nat.lt_succ_self _) (Nat.zero_le n) (by rw [show oI (sEm f x 0) = (-1) from rfl]; exact lv_sub hl [2, 3, 1, 0] rfl)
set_option maxRecDepth 100000 in
set_option maxHeartbeats 4000000 in
theorem c_X4_comes (l : Launch) (D : va_G) (cI cJ : ClassId) (a : Nat → Nat) (f : Nat → Int32) (σ : Nat → Nat → Int32) (x : Int32) (y : Int32) (n : Nat) (hw : f 0 = nI n) (h8 : n < 8) : WR l yX4_comes cX4_comes 4 none 1 D cI cJ (MW cI a f σ) [.ref (a 0), .int x, .int y] (none) (MW cI a (sAd f n x y) σ) := by
  refine WR.of (by decide) (Nat.le_of_ble_eq_true rfl) (fun p e s m below meth c ls A S hr hlk hK hP hD hS hA hl => ?_)
  obtain ⟨hx, hb, hml, hown, hU⟩ := id S
  have hl : lv_has ls 4 [(0, .ref (a 0)), (1, .int x), (2, .int y)] := hl
  refine lv_aload_n hx hb dX4_comes_0 rfl (lv_at hl 0 rfl) ?_
  refine g4_s S hK hP dX4_comes_1 ?_
  refine lv_iconst (v := nI 0) hx hb dX4_comes_4 (by decide) ?_
  refine l4_s S hK hP (j := 0) (by omega) dX4_comes_5 ?_
  refine q_eqi (y := nI n) (hw) ?_
  refine lv_istore_n (lv' := [(3, .int (nI n)), (0, .ref (a 0)), (1, .int x), (2, .int y)]) hx hb dX4_comes_6 rfl hl (by decide) rfl (fun ls hl => ?_)
  refine lv_aload_n hx hb dX4_comes_7 rfl (lv_at hl 1 rfl) ?_
  refine g4_s S hK hP dX4_comes_8 ?_
  refine lv_iload_n hx hb dX4_comes_11 rfl (lv_at hl 0 rfl) ?_
  refine lv_iconst (v := nI 0) hx hb dX4_comes_12 (by decide) ?_
  refine RO.callS S ks_X4_70 (c_X4_at l D cI cJ a f σ n 0) hK hP ⟨Nat.le_of_ble_eq_true rfl, Nat.le_of_ble_eq_true rfl⟩ hl.1 rfl rfl (Nat.le_of_ble_eq_true rfl) (Nat.zero_le _) (Nat.zero_le _) dX4_comes_13 ?_
  refine lv_iload_n hx hb dX4_comes_16 rfl (lv_at hl 2 rfl) ?_
  refine s4_s S hK hP hD hS (j := 16 + 7 * n + 0) (by omega) dX4_comes_17 (fun H locs hP hD hS => ?_)
  refine lv_aload_n hx hb dX4_comes_18 rfl (lv_at hl 1 rfl) ?_
  refine g4_s S hK hP dX4_comes_19 ?_
  refine lv_iload_n hx hb dX4_comes_22 rfl (lv_at hl 0 rfl) ?_
  refine lv_iconst (v := nI 1) hx hb dX4_comes_23 (by decide) ?_
  refine RO.callS S ks_X4_70 (c_X4_at l D cI cJ a (fu f n 0 x) σ n 1) hK hP ⟨Nat.le_of_ble_eq_true rfl, Nat.le_of_ble_eq_true rfl⟩ hl.1 rfl rfl (Nat.le_of_ble_eq_true rfl) (Nat.zero_le _) (Nat.zero_le _) dX4_comes_24 ?_
  refine lv_iload_n hx hb dX4_comes_27 rfl (lv_at hl 3 rfl) ?_
  refine s4_s S hK hP hD hS (j := 16 + 7 * n + 1) (by omega) dX4_comes_28 (fun H locs hP hD hS => ?_)
  refine lv_aload_n hx hb dX4_comes_29 rfl (lv_at hl 1 rfl) ?_
  refine g4_s S hK hP dX4_comes_30 ?_
  refine lv_iload_n hx hb dX4_comes_33 rfl (lv_at hl 0 rfl) ?_
  refine lv_iconst (v := nI 2) hx hb dX4_comes_34 (by decide) ?_
  refine RO.callS S ks_X4_70 (c_X4_at l D cI cJ a (fu (fu f n 0 x) n 1 y) σ n 2) hK hP ⟨Nat.le_of_ble_eq_true rfl, Nat.le_of_ble_eq_true rfl⟩ hl.1 rfl rfl (Nat.le_of_ble_eq_true rfl) (Nat.zero_le _) (Nat.zero_le _) dX4_comes_35 ?_
  refine lv_iconst (v := nI 0) hx hb dX4_comes_38 (by decide) ?_
  refine s4_s S hK hP hD hS (j := 16 + 7 * n + 2) (by omega) dX4_comes_39 (fun H locs hP hD hS => ?_)
  refine lv_aload_n hx hb dX4_comes_40 rfl (lv_at hl 1 rfl) ?_
  refine g4_s S hK hP dX4_comes_41 ?_
  refine lv_iload_n hx hb dX4_comes_44 rfl (lv_at hl 0 rfl) ?_
  refine lv_iconst (v := nI 3) hx hb dX4_comes_45 (by decide) ?_
  refine RO.callS S ks_X4_70 (c_X4_at l D cI cJ a (fu (fu (fu f n 0 x) n 1 y) n 2 (nI 0)) σ n 3) hK hP ⟨Nat.le_of_ble_eq_true rfl, Nat.le_of_ble_eq_true rfl⟩ hl.1 rfl rfl (Nat.le_of_ble_eq_true rfl) (Nat.zero_le _) (Nat.zero_le _) dX4_comes_46 ?_
  refine lv_iconst (v := nI 0) hx hb dX4_comes_49 (by decide) ?_
  refine s4_s S hK hP hD hS (j := 16 + 7 * n + 3) (by omega) dX4_comes_50 (fun H locs hP hD hS => ?_)
  refine lv_aload_n hx hb dX4_comes_51 rfl (lv_at hl 1 rfl) ?_
  refine g4_s S hK hP dX4_comes_52 ?_
  refine lv_iload_n hx hb dX4_comes_55 rfl (lv_at hl 0 rfl) ?_
  refine lv_iconst (v := nI 4) hx hb dX4_comes_56 (by decide) ?_
  refine RO.callS S ks_X4_70 (c_X4_at l D cI cJ a (fu (fu (fu (fu f n 0 x) n 1 y) n 2 (nI 0)) n 3 (nI 0)) σ n 4) hK hP ⟨Nat.le_of_ble_eq_true rfl, Nat.le_of_ble_eq_true rfl⟩ hl.1 rfl rfl (Nat.le_of_ble_eq_true rfl) (Nat.zero_le _) (Nat.zero_le _) dX4_comes_57 ?_
  refine lv_bipush (v := nI 100) hx hb dX4_comes_60 (by decide) ?_
  refine s4_s S hK hP hD hS (j := 16 + 7 * n + 4) (by omega) dX4_comes_62 (fun H locs hP hD hS => ?_)
  refine lv_aload_n hx hb dX4_comes_63 rfl (lv_at hl 1 rfl) ?_
  refine g4_s S hK hP dX4_comes_64 ?_
  refine lv_iload_n hx hb dX4_comes_67 rfl (lv_at hl 0 rfl) ?_
  refine lv_iconst (v := nI 5) hx hb dX4_comes_68 (by decide) ?_
  refine RO.callS S ks_X4_70 (c_X4_at l D cI cJ a (fu (fu (fu (fu (fu f n 0 x) n 1 y) n 2 (nI 0)) n 3 (nI 0)) n 4 (nI 100)) σ n 5) hK hP ⟨Nat.le_of_ble_eq_true rfl, Nat.le_of_ble_eq_true rfl⟩ hl.1 rfl rfl (Nat.le_of_ble_eq_true rfl) (Nat.zero_le _) (Nat.zero_le _) dX4_comes_69 ?_
  refine lv_iconst (v := nI 0) hx hb dX4_comes_72 (by decide) ?_
  refine s4_s S hK hP hD hS (j := 16 + 7 * n + 5) (by omega) dX4_comes_73 (fun H locs hP hD hS => ?_)
  refine lv_aload_n hx hb dX4_comes_74 rfl (lv_at hl 1 rfl) ?_
  refine g4_s S hK hP dX4_comes_75 ?_
  refine lv_iload_n hx hb dX4_comes_78 rfl (lv_at hl 0 rfl) ?_
  refine lv_bipush (v := nI 6) hx hb dX4_comes_79 (by decide) ?_
  refine RO.callS S ks_X4_70 (c_X4_at l D cI cJ a (fu (fu (fu (fu (fu (fu f n 0 x) n 1 y) n 2 (nI 0)) n 3 (nI 0)) n 4 (nI 100)) n 5 (nI 0)) σ n 6) hK hP ⟨Nat.le_of_ble_eq_true rfl, Nat.le_of_ble_eq_true rfl⟩ hl.1 rfl rfl (Nat.le_of_ble_eq_true rfl) (Nat.zero_le _) (Nat.zero_le _) dX4_comes_81 ?_
  refine lv_iconst (v := nI 0) hx hb dX4_comes_84 (by decide) ?_
  refine s4_s S hK hP hD hS (j := 16 + 7 * n + 6) (by omega) dX4_comes_85 (fun H locs hP hD hS => ?_)
  refine lv_aload_n hx hb dX4_comes_86 rfl (lv_at hl 1 rfl) ?_
  refine g4_s S hK hP dX4_comes_87 ?_
  refine lv_iconst (v := nI 0) hx hb dX4_comes_90 (by decide) ?_
  refine lv_dup2_11 hx hb dX4_comes_91 rfl rfl ?_
  refine l4_s S hK hP (j := 0) (by omega) dX4_comes_92 ?_
  refine q_eqi (y := nI n) (show sA7 f n x y 0 = nI n from sA7_0 hw) ?_
  refine lv_iconst (v := nI 1) hx hb dX4_comes_93 (by decide) ?_
  refine q_iaddN (a := n) (b := 1) hx hb dX4_comes_94 ?_
  refine s4_s S hK hP hD hS (j := 0) (by omega) dX4_comes_95 (fun H locs hP hD hS => ?_)
  exact WR.vret S hr hlk hP hS (rfl) dX4_comes_96
set_option maxRecDepth 100000 in
set_option maxHeartbeats 4000000 in
theorem c_X4_loud (l : Launch) (D : va_G) (cI cJ : ClassId) (a : Nat → Nat) (f : Nat → Int32) (σ : Nat → Nat → Int32) (k : Nat) (n : Nat) (hw : Wk f n) (hk : k < n) : RO l yX4_loud cX4_loud 5 (some .int) 2 D cI cJ (MW cI a f σ) [.ref (a 0), .int (nI k)] (.int (sLd f n k)) := by
  have h8 := hw.2.1
  refine RO.of (by decide) (Nat.le_of_ble_eq_true rfl) (fun p e s m below meth c ls S hr hlk hK hP hl => ?_)
  obtain ⟨hx, hb, hml, hown, hU⟩ := id S
  have hl : lv_has ls 5 [(0, .ref (a 0)), (1, .int (nI k))] := hl
  refine lv_aload_n hx hb dX4_loud_0 rfl (lv_at hl 0 rfl) ?_
  refine lv_iload_n hx hb dX4_loud_1 rfl (lv_at hl 1 rfl) ?_
  refine lv_iconst (v := nI 2) hx hb dX4_loud_2 (by decide) ?_
  refine RO.callV S kv_X4_57 (c_X4_its l D cI cJ a f σ k 2 (by omega)) hK hP rfl ⟨Nat.le_of_ble_eq_true rfl, Nat.le_of_ble_eq_true rfl⟩ hl.1 rfl rfl (Nat.le_of_ble_eq_true rfl) (Nat.zero_le _) (Nat.zero_le _) dX4_loud_3 ?_
  refine lv_istore_n (lv' := [(2, .int (fi f k 2)), (0, .ref (a 0)), (1, .int (nI k))]) hx hb dX4_loud_6 rfl hl (by decide) rfl (fun ls hl => ?_)
  refine lv_iconst (v := nI 0) hx hb dX4_loud_7 (by decide) ?_
  refine lv_iconst (v := nI 2) hx hb dX4_loud_8 (by decide) ?_
  refine lv_iload_n hx hb dX4_loud_9 rfl (lv_at hl 0 rfl) ?_
  refine lv_imul hx hb dX4_loud_10 ?_
  refine lv_aload_n hx hb dX4_loud_11 rfl (lv_at hl 1 rfl) ?_
  refine lv_iload_n hx hb dX4_loud_12 rfl (lv_at hl 2 rfl) ?_
  refine lv_iconst (v := nI 5) hx hb dX4_loud_13 (by decide) ?_
  refine RO.callV S kv_X4_57 (c_X4_its l D cI cJ a f σ k 5 (by omega)) hK hP rfl ⟨Nat.le_of_ble_eq_true rfl, Nat.le_of_ble_eq_true rfl⟩ hl.1 rfl rfl (Nat.le_of_ble_eq_true rfl) (Nat.zero_le _) (Nat.zero_le _) dX4_loud_14 ?_
  refine lv_isub hx hb dX4_loud_17 ?_
  refine RO.callS S ks_X4_80 (c_X4_greatest l D cI cJ a f σ (nI 0) (((nI 2) * (fi f k 2)) - (fi f k 5))) hK hP ⟨Nat.le_of_ble_eq_true rfl, Nat.le_of_ble_eq_true rfl⟩ hl.1 rfl rfl (Nat.le_of_ble_eq_true rfl) (Nat.zero_le _) (Nat.zero_le _) dX4_loud_18 ?_
  refine lv_istore_n (lv' := [(3, .int (iMax (nI 0) (((nI 2) * (fi f k 2)) - (fi f k 5)))), (2, .int (fi f k 2)), (0, .ref (a 0)), (1, .int (nI k))]) hx hb dX4_loud_21 rfl hl (by decide) rfl (fun ls hl => ?_)
  refine lv_iload_n hx hb dX4_loud_22 rfl (lv_at hl 1 rfl) ?_
  refine lv_iload_n hx hb dX4_loud_23 rfl (lv_at hl 1 rfl) ?_
  refine lv_iconst (v := nI 4) hx hb dX4_loud_24 (by decide) ?_
  refine lv_idiv hx hb dX4_loud_25 (by decide) ?_
  refine lv_isub hx hb dX4_loud_26 ?_
  refine lv_aload_n hx hb dX4_loud_27 rfl (lv_at hl 2 rfl) ?_
  refine lv_iload_n hx hb dX4_loud_28 rfl (lv_at hl 3 rfl) ?_
  refine lv_iconst (v := nI 5) hx hb dX4_loud_29 (by decide) ?_
  refine RO.callV S kv_X4_57 (c_X4_its l D cI cJ a f σ k 5 (by omega)) hK hP rfl ⟨Nat.le_of_ble_eq_true rfl, Nat.le_of_ble_eq_true rfl⟩ hl.1 rfl rfl (Nat.le_of_ble_eq_true rfl) (Nat.zero_le _) (Nat.zero_le _) dX4_loud_30 ?_
  refine lv_iadd hx hb dX4_loud_33 ?_
  refine lv_istore (lv' := [(4, .int (((fi f k 2) - ((fi f k 2) / (nI 4))) + (fi f k 5))), (3, .int (iMax (nI 0) (((nI 2) * (fi f k 2)) - (fi f k 5)))), (2, .int (fi f k 2)), (0, .ref (a 0)), (1, .int (nI k))]) hx hb dX4_loud_34 hl (by decide) rfl (fun ls hl => ?_)
  refine lv_aload_n hx hb dX4_loud_36 rfl (lv_at hl 3 rfl) ?_
  refine lv_iload_n hx hb dX4_loud_37 rfl (lv_at hl 4 rfl) ?_
  refine lv_iconst (v := nI 0) hx hb dX4_loud_38 (by decide) ?_
  refine RO.callV S kv_X4_57 (c_X4_its l D cI cJ a f σ k 0 (by omega)) hK hP rfl ⟨Nat.le_of_ble_eq_true rfl, Nat.le_of_ble_eq_true rfl⟩ hl.1 rfl rfl (Nat.le_of_ble_eq_true rfl) (Nat.zero_le _) (Nat.zero_le _) dX4_loud_39 ?_
  by_cases k_42_1 : fi f k 0 = nI 1
  · refine q_eqi k_42_1 ?_
    refine lv_tableIn (tgt := 80) hx hb dX4_loud_42 (by decide) (by decide) rfl (by decide) ?_
    refine lv_iload_n hx hb dX4_loud_80 rfl (lv_at hl 1 rfl) ?_
    exact RO.iret S hr hlk (congrArg Value.int (Eq.trans (b := sCr f k) (by rw [sLd, if_pos k_42_1]) rfl)) dX4_loud_81
  by_cases k_42_2 : fi f k 0 = nI 2
  · refine q_eqi k_42_2 ?_
    refine lv_tableIn (tgt := 82) hx hb dX4_loud_42 (by decide) (by decide) rfl (by decide) ?_
    refine lv_iload hx hb dX4_loud_82 (lv_at hl 0 rfl) ?_
    exact RO.iret S hr hlk (congrArg Value.int (Eq.trans (b := sRo f k) (by rw [sLd, if_neg k_42_1, if_pos k_42_2]) rfl)) dX4_loud_84
  by_cases k_42_3 : fi f k 0 = nI 3
  · refine q_eqi k_42_3 ?_
    refine lv_tableIn (tgt := 85) hx hb dX4_loud_42 (by decide) (by decide) rfl (by decide) ?_
    refine lv_iload hx hb dX4_loud_85 (lv_at hl 0 rfl) ?_
    refine lv_iconst (v := nI 2) hx hb dX4_loud_87 (by decide) ?_
    refine lv_idiv hx hb dX4_loud_88 (by decide) ?_
    exact RO.iret S hr hlk (congrArg Value.int (Eq.trans (b := sRo f k / nI 2) (by rw [sLd, if_neg k_42_1, if_neg k_42_2, if_pos k_42_3]) rfl)) dX4_loud_89
  by_cases k_42_4 : fi f k 0 = nI 4
  · refine q_eqi k_42_4 ?_
    refine lv_tableIn (tgt := 90) hx hb dX4_loud_42 (by decide) (by decide) rfl (by decide) ?_
    refine lv_iload hx hb dX4_loud_90 (lv_at hl 0 rfl) ?_
    refine lv_iconst (v := nI 2) hx hb dX4_loud_92 (by decide) ?_
    refine lv_idiv hx hb dX4_loud_93 (by decide) ?_
    refine lv_iconst (v := nI 5) hx hb dX4_loud_94 (by decide) ?_
    refine lv_aload_n hx hb dX4_loud_95 rfl (lv_at hl 3 rfl) ?_
    refine lv_aload_n hx hb dX4_loud_96 rfl (lv_at hl 3 rfl) ?_
    refine lv_iload_n hx hb dX4_loud_97 rfl (lv_at hl 4 rfl) ?_
    refine lv_iconst (v := nI 1) hx hb dX4_loud_98 (by decide) ?_
    refine RO.callV S kv_X4_57 (c_X4_its l D cI cJ a f σ k 1 (by omega)) hK hP rfl ⟨Nat.le_of_ble_eq_true rfl, Nat.le_of_ble_eq_true rfl⟩ hl.1 rfl rfl (Nat.le_of_ble_eq_true rfl) (Nat.zero_le _) (Nat.zero_le _) dX4_loud_99 ?_
    refine RO.callV S kv_X4_62 (c_X4_there l D cI cJ a f σ (fi f k 1) n (hw)) hK hP rfl ⟨Nat.le_of_ble_eq_true rfl, Nat.le_of_ble_eq_true rfl⟩ hl.1 rfl rfl (Nat.le_of_ble_eq_true rfl) (Nat.zero_le _) (Nat.zero_le _) dX4_loud_102 ?_
    refine RO.callS S ks_X4_83 (c_X4_many l D cI cJ a f σ (sTh f (fi f k 1) n) (Nat.lt_of_lt_of_le (sTh_lt h8) (Nat.pow_le_pow_right (n := 2) (by decide) h8))) hK hP ⟨Nat.le_of_ble_eq_true rfl, Nat.le_of_ble_eq_true rfl⟩ hl.1 rfl rfl (Nat.le_of_ble_eq_true rfl) (Nat.zero_le _) (Nat.zero_le _) dX4_loud_105 ?_
    refine lv_iconst (v := nI 1) hx hb dX4_loud_108 (by decide) ?_
    refine lv_isub hx hb dX4_loud_109 ?_
    refine q_eqi (y := nI (sOt f k n)) (by rw [sTh_popc h8, if_pos hk]; exact nI_pred _) ?_
    refine q_imulN (a := 5) (b := sOt f k n) hx hb dX4_loud_110 ?_
    refine lv_iadd hx hb dX4_loud_111 ?_
    exact RO.iret S hr hlk (congrArg Value.int (Eq.trans (b := sRo f k / nI 2 + nI (5 * sOt f k n)) (by rw [sLd, if_neg k_42_1, if_neg k_42_2, if_neg k_42_3, if_pos k_42_4]) rfl)) dX4_loud_112
  by_cases k_42_5 : fi f k 0 = nI 5
  · refine q_eqi k_42_5 ?_
    refine lv_tableIn (tgt := 113) hx hb dX4_loud_42 (by decide) (by decide) rfl (by decide) ?_
    refine lv_iconst (v := nI 0) hx hb dX4_loud_113 (by decide) ?_
    exact RO.iret S hr hlk (congrArg Value.int (Eq.trans (b := nI 0) (by rw [sLd, if_neg k_42_1, if_neg k_42_2, if_neg k_42_3, if_neg k_42_4, if_pos k_42_5]) rfl)) dX4_loud_114
  by_cases k_42_6 : fi f k 0 = nI 6
  · refine q_eqi k_42_6 ?_
    refine lv_tableIn (tgt := 115) hx hb dX4_loud_42 (by decide) (by decide) rfl (by decide) ?_
    refine lv_aload_n hx hb dX4_loud_115 rfl (lv_at hl 3 rfl) ?_
    refine lv_iload_n hx hb dX4_loud_116 rfl (lv_at hl 4 rfl) ?_
    refine lv_iconst (v := nI 5) hx hb dX4_loud_117 (by decide) ?_
    refine RO.callV S kv_X4_57 (c_X4_its l D cI cJ a f σ k 5 (by omega)) hK hP rfl ⟨Nat.le_of_ble_eq_true rfl, Nat.le_of_ble_eq_true rfl⟩ hl.1 rfl rfl (Nat.le_of_ble_eq_true rfl) (Nat.zero_le _) (Nat.zero_le _) dX4_loud_118 ?_
    refine lv_bipush (v := nI 10) hx hb dX4_loud_121 (by decide) ?_
    refine lv_icmp_lt (tgt := 130) hx hb dX4_loud_123 (by decide) (fun c_123 => ?_) (fun c_123 => ?_)
    · refine lv_iload_n hx hb dX4_loud_130 rfl (lv_at hl 1 rfl) ?_
      exact RO.iret S hr hlk (congrArg Value.int (Eq.trans (b := sCr f k) (by rw [sLd, if_neg k_42_1, if_neg k_42_2, if_neg k_42_3, if_neg k_42_4, if_neg k_42_5, if_pos k_42_6, if_pos c_123]) rfl)) dX4_loud_131
    · refine lv_iconst (v := nI 0) hx hb dX4_loud_126 (by decide) ?_
      refine lv_goto (tgt := 131) hx hb dX4_loud_127 (by decide) ?_
      exact RO.iret S hr hlk (congrArg Value.int (Eq.trans (b := nI 0) (by rw [sLd, if_neg k_42_1, if_neg k_42_2, if_neg k_42_3, if_neg k_42_4, if_neg k_42_5, if_pos k_42_6, if_neg c_123]) rfl)) dX4_loud_131
  refine lv_tableOut (tgt := 132) hx hb dX4_loud_42 (tsw_out (fun i h1 h2 => by
    rcases (show i = 1 ∨ i = 2 ∨ i = 3 ∨ i = 4 ∨ i = 5 ∨ i = 6 by omega) with rfl | rfl | rfl | rfl | rfl | rfl
    · exact k_42_1
    · exact k_42_2
    · exact k_42_3
    · exact k_42_4
    · exact k_42_5
    · exact k_42_6
    )) (by decide) ?_
  refine lv_iload_n hx hb dX4_loud_132 rfl (lv_at hl 2 rfl) ?_
  exact RO.iret S hr hlk (congrArg Value.int (Eq.trans (b := fi f k 2) (by rw [sLd, if_neg k_42_1, if_neg k_42_2, if_neg k_42_3, if_neg k_42_4, if_neg k_42_5, if_neg k_42_6]) rfl)) dX4_loud_133
set_option maxRecDepth 100000 in
set_option maxHeartbeats 4000000 in
theorem c_X4_leaks (l : Launch) (D : va_G) (cI cJ : ClassId) (a : Nat → Nat) (f : Nat → Int32) (σ : Nat → Nat → Int32) (k : Nat) (hk : k < 8) : RO l yX4_leaks cX4_leaks 2 (some .int) 1 D cI cJ (MW cI a f σ) [.ref (a 0), .int (nI k)] (.int (sLk f k)) := by
  refine RO.of (by decide) (Nat.le_of_ble_eq_true rfl) (fun p e s m below meth c ls S hr hlk hK hP hl => ?_)
  obtain ⟨hx, hb, hml, hown, hU⟩ := id S
  have hl : lv_has ls 2 [(0, .ref (a 0)), (1, .int (nI k))] := hl
  refine lv_aload_n hx hb dX4_leaks_0 rfl (lv_at hl 0 rfl) ?_
  refine lv_iload_n hx hb dX4_leaks_1 rfl (lv_at hl 1 rfl) ?_
  refine lv_iconst (v := nI 0) hx hb dX4_leaks_2 (by decide) ?_
  refine RO.callV S kv_X4_57 (c_X4_its l D cI cJ a f σ k 0 (by omega)) hK hP rfl ⟨Nat.le_of_ble_eq_true rfl, Nat.le_of_ble_eq_true rfl⟩ hl.1 rfl rfl (Nat.le_of_ble_eq_true rfl) (Nat.zero_le _) (Nat.zero_le _) dX4_leaks_3 ?_
  by_cases k_6_1 : fi f k 0 = nI 1
  · refine q_eqi k_6_1 ?_
    refine lv_tableIn (tgt := 44) hx hb dX4_leaks_6 (by decide) (by decide) rfl (by decide) ?_
    refine lv_iconst (v := nI 3) hx hb dX4_leaks_44 (by decide) ?_
    exact RO.iret S hr hlk (congrArg Value.int (by rw [sLk, if_pos k_6_1])) dX4_leaks_45
  by_cases k_6_2 : fi f k 0 = nI 2
  · refine q_eqi k_6_2 ?_
    refine lv_tableIn (tgt := 50) hx hb dX4_leaks_6 (by decide) (by decide) rfl (by decide) ?_
    refine lv_iconst (v := nI 1) hx hb dX4_leaks_50 (by decide) ?_
    exact RO.iret S hr hlk (congrArg Value.int (by rw [sLk, if_neg k_6_1, if_pos k_6_2])) dX4_leaks_51
  by_cases k_6_3 : fi f k 0 = nI 3
  · refine q_eqi k_6_3 ?_
    refine lv_tableIn (tgt := 46) hx hb dX4_leaks_6 (by decide) (by decide) rfl (by decide) ?_
    refine lv_iconst (v := nI 0) hx hb dX4_leaks_46 (by decide) ?_
    exact RO.iret S hr hlk (congrArg Value.int (by rw [sLk, if_neg k_6_1, if_neg k_6_2, if_pos k_6_3])) dX4_leaks_47
  by_cases k_6_4 : fi f k 0 = nI 4
  · refine q_eqi k_6_4 ?_
    refine lv_tableIn (tgt := 46) hx hb dX4_leaks_6 (by decide) (by decide) rfl (by decide) ?_
    refine lv_iconst (v := nI 0) hx hb dX4_leaks_46 (by decide) ?_
    exact RO.iret S hr hlk (congrArg Value.int (by rw [sLk, if_neg k_6_1, if_neg k_6_2, if_neg k_6_3, if_pos k_6_4])) dX4_leaks_47
  by_cases k_6_5 : fi f k 0 = nI 5
  · refine q_eqi k_6_5 ?_
    refine lv_tableIn (tgt := 48) hx hb dX4_leaks_6 (by decide) (by decide) rfl (by decide) ?_
    refine lv_iconst (v := nI 5) hx hb dX4_leaks_48 (by decide) ?_
    exact RO.iret S hr hlk (congrArg Value.int (by rw [sLk, if_neg k_6_1, if_neg k_6_2, if_neg k_6_3, if_neg k_6_4, if_pos k_6_5])) dX4_leaks_49
  by_cases k_6_6 : fi f k 0 = nI 6
  · refine q_eqi k_6_6 ?_
    refine lv_tableIn (tgt := 48) hx hb dX4_leaks_6 (by decide) (by decide) rfl (by decide) ?_
    refine lv_iconst (v := nI 5) hx hb dX4_leaks_48 (by decide) ?_
    exact RO.iret S hr hlk (congrArg Value.int (by rw [sLk, if_neg k_6_1, if_neg k_6_2, if_neg k_6_3, if_neg k_6_4, if_neg k_6_5, if_pos k_6_6])) dX4_leaks_49
  refine lv_tableOut (tgt := 50) hx hb dX4_leaks_6 (tsw_out (fun i h1 h2 => by
    rcases (show i = 1 ∨ i = 2 ∨ i = 3 ∨ i = 4 ∨ i = 5 ∨ i = 6 by omega) with rfl | rfl | rfl | rfl | rfl | rfl
    · exact k_6_1
    · exact k_6_2
    · exact k_6_3
    · exact k_6_4
    · exact k_6_5
    · exact k_6_6
    )) (by decide) ?_
  refine lv_iconst (v := nI 1) hx hb dX4_leaks_50 (by decide) ?_
  exact RO.iret S hr hlk (congrArg Value.int (by rw [sLk, if_neg k_6_1, if_neg k_6_2, if_neg k_6_3, if_neg k_6_4, if_neg k_6_5, if_neg k_6_6])) dX4_leaks_51
set_option maxRecDepth 100000 in
set_option maxHeartbeats 4000000 in
theorem c_X4_bears (l : Launch) (D : va_G) (cI cJ : ClassId) (a : Nat → Nat) (f : Nat → Int32) (σ : Nat → Nat → Int32) (k : Nat) (n : Nat) (hw : Wk f n) (hk : k < n) : RO l yX4_bears cX4_bears 3 (some .int) 1 D cI cJ (MW cI a f σ) [.ref (a 0), .int (nI k)] (.int (sBr f k)) := by
  have h8 := hw.2.1
  obtain ⟨h, h6, hh⟩ := hw.2.2 k hk
  refine RO.of (by decide) (Nat.le_of_ble_eq_true rfl) (fun p e s m below meth c ls S hr hlk hK hP hl => ?_)
  obtain ⟨hx, hb, hml, hown, hU⟩ := id S
  have hl : lv_has ls 3 [(0, .ref (a 0)), (1, .int (nI k))] := hl
  refine lv_iconst (v := nI 0) hx hb dX4_bears_0 (by decide) ?_
  refine lv_aload_n hx hb dX4_bears_1 rfl (lv_at hl 0 rfl) ?_
  refine lv_iload_n hx hb dX4_bears_2 rfl (lv_at hl 1 rfl) ?_
  refine lv_iconst (v := nI 4) hx hb dX4_bears_3 (by decide) ?_
  refine RO.callV S kv_X4_57 (c_X4_its l D cI cJ a f σ k 4 (by omega)) hK hP rfl ⟨Nat.le_of_ble_eq_true rfl, Nat.le_of_ble_eq_true rfl⟩ hl.1 rfl rfl (Nat.le_of_ble_eq_true rfl) (Nat.zero_le _) (Nat.zero_le _) dX4_bears_4 ?_
  refine lv_iconst (v := nI 5) hx hb dX4_bears_7 (by decide) ?_
  refine lv_aload_n hx hb dX4_bears_8 rfl (lv_at hl 0 rfl) ?_
  refine g4_s S hK hP dX4_bears_9 ?_
  refine lv_iconst (v := nI 4) hx hb dX4_bears_12 (by decide) ?_
  refine lv_aload_n hx hb dX4_bears_13 rfl (lv_at hl 0 rfl) ?_
  refine lv_iload_n hx hb dX4_bears_14 rfl (lv_at hl 1 rfl) ?_
  refine lv_iconst (v := nI 1) hx hb dX4_bears_15 (by decide) ?_
  refine RO.callV S kv_X4_57 (c_X4_its l D cI cJ a f σ k 1 (by omega)) hK hP rfl ⟨Nat.le_of_ble_eq_true rfl, Nat.le_of_ble_eq_true rfl⟩ hl.1 rfl rfl (Nat.le_of_ble_eq_true rfl) (Nat.zero_le _) (Nat.zero_le _) dX4_bears_16 ?_
  refine q_eqi (y := nI h) (hh) ?_
  refine q_iaddN (a := 4) (b := h) hx hb dX4_bears_19 ?_
  refine l4_s S hK hP (j := 4 + h) (by omega) dX4_bears_20 ?_
  refine lv_imul hx hb dX4_bears_21 ?_
  refine lv_isub hx hb dX4_bears_22 ?_
  refine RO.callS S ks_X4_80 (c_X4_greatest l D cI cJ a f σ (nI 0) ((fi f k 4) - ((nI 5) * (f (4 + h))))) hK hP ⟨Nat.le_of_ble_eq_true rfl, Nat.le_of_ble_eq_true rfl⟩ hl.1 rfl rfl (Nat.le_of_ble_eq_true rfl) (Nat.zero_le _) (Nat.zero_le _) dX4_bears_23 ?_
  refine q_eqi (y := sPl f k) ((sPl_h hh h6).symm) ?_
  refine lv_istore_n (lv' := [(2, .int (sPl f k)), (0, .ref (a 0)), (1, .int (nI k))]) hx hb dX4_bears_26 rfl hl (by decide) rfl (fun ls hl => ?_)
  refine lv_aload_n hx hb dX4_bears_27 rfl (lv_at hl 1 rfl) ?_
  refine lv_iload_n hx hb dX4_bears_28 rfl (lv_at hl 2 rfl) ?_
  refine lv_iconst (v := nI 0) hx hb dX4_bears_29 (by decide) ?_
  refine RO.callV S kv_X4_57 (c_X4_its l D cI cJ a f σ k 0 (by omega)) hK hP rfl ⟨Nat.le_of_ble_eq_true rfl, Nat.le_of_ble_eq_true rfl⟩ hl.1 rfl rfl (Nat.le_of_ble_eq_true rfl) (Nat.zero_le _) (Nat.zero_le _) dX4_bears_30 ?_
  by_cases k_33_1 : fi f k 0 = nI 1
  · refine q_eqi k_33_1 ?_
    refine lv_tableIn (tgt := 72) hx hb dX4_bears_33 (by decide) (by decide) rfl (by decide) ?_
    refine lv_iload_n hx hb dX4_bears_72 rfl (lv_at hl 0 rfl) ?_
    refine lv_iconst (v := nI 2) hx hb dX4_bears_73 (by decide) ?_
    refine lv_idiv hx hb dX4_bears_74 (by decide) ?_
    exact RO.iret S hr hlk (congrArg Value.int (by rw [sBr, if_pos k_33_1])) dX4_bears_75
  by_cases k_33_2 : fi f k 0 = nI 2
  · refine q_eqi k_33_2 ?_
    refine lv_tableIn (tgt := 76) hx hb dX4_bears_33 (by decide) (by decide) rfl (by decide) ?_
    refine lv_iload_n hx hb dX4_bears_76 rfl (lv_at hl 0 rfl) ?_
    refine lv_bipush (v := nI 10) hx hb dX4_bears_77 (by decide) ?_
    refine lv_iadd hx hb dX4_bears_79 ?_
    exact RO.iret S hr hlk (congrArg Value.int (by rw [sBr, if_neg k_33_1, if_pos k_33_2])) dX4_bears_80
  by_cases k_33_3 : fi f k 0 = nI 3
  · refine q_eqi k_33_3 ?_
    refine lv_tableIn (tgt := 76) hx hb dX4_bears_33 (by decide) (by decide) rfl (by decide) ?_
    refine lv_iload_n hx hb dX4_bears_76 rfl (lv_at hl 0 rfl) ?_
    refine lv_bipush (v := nI 10) hx hb dX4_bears_77 (by decide) ?_
    refine lv_iadd hx hb dX4_bears_79 ?_
    exact RO.iret S hr hlk (congrArg Value.int (by rw [sBr, if_neg k_33_1, if_neg k_33_2, if_pos k_33_3])) dX4_bears_80
  by_cases k_33_4 : fi f k 0 = nI 4
  · refine q_eqi k_33_4 ?_
    refine lv_tableIn (tgt := 76) hx hb dX4_bears_33 (by decide) (by decide) rfl (by decide) ?_
    refine lv_iload_n hx hb dX4_bears_76 rfl (lv_at hl 0 rfl) ?_
    refine lv_bipush (v := nI 10) hx hb dX4_bears_77 (by decide) ?_
    refine lv_iadd hx hb dX4_bears_79 ?_
    exact RO.iret S hr hlk (congrArg Value.int (by rw [sBr, if_neg k_33_1, if_neg k_33_2, if_neg k_33_3, if_pos k_33_4])) dX4_bears_80
  by_cases k_33_5 : fi f k 0 = nI 5
  · refine q_eqi k_33_5 ?_
    refine lv_tableIn (tgt := 81) hx hb dX4_bears_33 (by decide) (by decide) rfl (by decide) ?_
    refine lv_iload_n hx hb dX4_bears_81 rfl (lv_at hl 0 rfl) ?_
    exact RO.iret S hr hlk (congrArg Value.int (by rw [sBr, if_neg k_33_1, if_neg k_33_2, if_neg k_33_3, if_neg k_33_4, if_pos k_33_5])) dX4_bears_82
  by_cases k_33_6 : fi f k 0 = nI 6
  · refine q_eqi k_33_6 ?_
    refine lv_tableIn (tgt := 72) hx hb dX4_bears_33 (by decide) (by decide) rfl (by decide) ?_
    refine lv_iload_n hx hb dX4_bears_72 rfl (lv_at hl 0 rfl) ?_
    refine lv_iconst (v := nI 2) hx hb dX4_bears_73 (by decide) ?_
    refine lv_idiv hx hb dX4_bears_74 (by decide) ?_
    exact RO.iret S hr hlk (congrArg Value.int (by rw [sBr, if_neg k_33_1, if_neg k_33_2, if_neg k_33_3, if_neg k_33_4, if_neg k_33_5, if_pos k_33_6])) dX4_bears_75
  refine lv_tableOut (tgt := 81) hx hb dX4_bears_33 (tsw_out (fun i h1 h2 => by
    rcases (show i = 1 ∨ i = 2 ∨ i = 3 ∨ i = 4 ∨ i = 5 ∨ i = 6 by omega) with rfl | rfl | rfl | rfl | rfl | rfl
    · exact k_33_1
    · exact k_33_2
    · exact k_33_3
    · exact k_33_4
    · exact k_33_5
    · exact k_33_6
    )) (by decide) ?_
  refine lv_iload_n hx hb dX4_bears_81 rfl (lv_at hl 0 rfl) ?_
  exact RO.iret S hr hlk (congrArg Value.int (by rw [sBr, if_neg k_33_1, if_neg k_33_2, if_neg k_33_3, if_neg k_33_4, if_neg k_33_5, if_neg k_33_6])) dX4_bears_82
set_option maxRecDepth 100000 in
set_option maxHeartbeats 4000000 in
theorem c_X4_more (l : Launch) (D : va_G) (cI cJ : ClassId) (a : Nat → Nat) (f : Nat → Int32) (σ : Nat → Nat → Int32) (k : Nat) (x : Int32) (hk : k < 8) : WR l yX4_more cX4_more 3 none 1 D cI cJ (MW cI a f σ) [.ref (a 0), .int (nI k), .int x] (none) (MW cI a (sMo f k x) σ) := by
  refine WR.of (by decide) (Nat.le_of_ble_eq_true rfl) (fun p e s m below meth c ls A S hr hlk hK hP hD hS hA hl => ?_)
  obtain ⟨hx, hb, hml, hown, hU⟩ := id S
  have hl : lv_has ls 3 [(0, .ref (a 0)), (1, .int (nI k)), (2, .int x)] := hl
  refine lv_aload_n hx hb dX4_more_0 rfl (lv_at hl 0 rfl) ?_
  refine g4_s S hK hP dX4_more_1 ?_
  refine lv_iload_n hx hb dX4_more_4 rfl (lv_at hl 1 rfl) ?_
  refine lv_iconst (v := nI 2) hx hb dX4_more_5 (by decide) ?_
  refine RO.callS S ks_X4_70 (c_X4_at l D cI cJ a f σ k 2) hK hP ⟨Nat.le_of_ble_eq_true rfl, Nat.le_of_ble_eq_true rfl⟩ hl.1 rfl rfl (Nat.le_of_ble_eq_true rfl) (Nat.zero_le _) (Nat.zero_le _) dX4_more_6 ?_
  refine lv_sipush (v := nI 999) hx hb dX4_more_9 (by decide) ?_
  refine lv_aload_n hx hb dX4_more_12 rfl (lv_at hl 0 rfl) ?_
  refine lv_iload_n hx hb dX4_more_13 rfl (lv_at hl 1 rfl) ?_
  refine lv_iconst (v := nI 2) hx hb dX4_more_14 (by decide) ?_
  refine RO.callV S kv_X4_57 (c_X4_its l D cI cJ a f σ k 2 (by omega)) hK hP rfl ⟨Nat.le_of_ble_eq_true rfl, Nat.le_of_ble_eq_true rfl⟩ hl.1 rfl rfl (Nat.le_of_ble_eq_true rfl) (Nat.zero_le _) (Nat.zero_le _) dX4_more_15 ?_
  refine lv_iload_n hx hb dX4_more_18 rfl (lv_at hl 2 rfl) ?_
  refine lv_iadd hx hb dX4_more_19 ?_
  refine RO.callS S ks_X4_101 (c_X4_least l D cI cJ a f σ (nI 999) ((fi f k 2) + x)) hK hP ⟨Nat.le_of_ble_eq_true rfl, Nat.le_of_ble_eq_true rfl⟩ hl.1 rfl rfl (Nat.le_of_ble_eq_true rfl) (Nat.zero_le _) (Nat.zero_le _) dX4_more_20 ?_
  refine s4_s S hK hP hD hS (j := 16 + 7 * k + 2) (by omega) dX4_more_23 (fun H locs hP hD hS => ?_)
  exact WR.vret S hr hlk hP hS (rfl) dX4_more_24
set_option maxRecDepth 100000 in
set_option maxHeartbeats 4000000 in
theorem c_X4_cancel (l : Launch) (D : va_G) (cI cJ : ClassId) (a : Nat → Nat) (f : Nat → Int32) (σ : Nat → Nat → Int32) (x : Nat) (y : Nat) (hx1 : x < 8) (hy1 : y < 8) : WR l yX4_cancel cX4_cancel 4 none 1 D cI cJ (MW cI a f σ) [.ref (a 0), .int (nI x), .int (nI y)] (none) (MW cI a (sCa f x y) σ) := by
  refine WR.of (by decide) (Nat.le_of_ble_eq_true rfl) (fun p e s m below meth c ls A S hr hlk hK hP hD hS hA hl => ?_)
  obtain ⟨hx, hb, hml, hown, hU⟩ := id S
  have hl : lv_has ls 4 [(0, .ref (a 0)), (1, .int (nI x)), (2, .int (nI y))] := hl
  refine lv_aload_n hx hb dX4_cancel_0 rfl (lv_at hl 0 rfl) ?_
  refine lv_iload_n hx hb dX4_cancel_1 rfl (lv_at hl 1 rfl) ?_
  refine lv_iconst (v := nI 1) hx hb dX4_cancel_2 (by decide) ?_
  refine RO.callV S kv_X4_57 (c_X4_its l D cI cJ a f σ x 1 (by omega)) hK hP rfl ⟨Nat.le_of_ble_eq_true rfl, Nat.le_of_ble_eq_true rfl⟩ hl.1 rfl rfl (Nat.le_of_ble_eq_true rfl) (Nat.zero_le _) (Nat.zero_le _) dX4_cancel_3 ?_
  refine lv_aload_n hx hb dX4_cancel_6 rfl (lv_at hl 0 rfl) ?_
  refine lv_iload_n hx hb dX4_cancel_7 rfl (lv_at hl 2 rfl) ?_
  refine lv_iconst (v := nI 1) hx hb dX4_cancel_8 (by decide) ?_
  refine RO.callV S kv_X4_57 (c_X4_its l D cI cJ a f σ y 1 (by omega)) hK hP rfl ⟨Nat.le_of_ble_eq_true rfl, Nat.le_of_ble_eq_true rfl⟩ hl.1 rfl rfl (Nat.le_of_ble_eq_true rfl) (Nat.zero_le _) (Nat.zero_le _) dX4_cancel_9 ?_
  refine lv_icmp_ne (tgt := 74) hx hb dX4_cancel_12 (by decide) (fun c_12 => ?_) (fun c_12 => ?_)
  · exact WR.vret S hr hlk hP hS (by rw [sCa, if_neg (fun q => c_12 q.1)]) dX4_cancel_74
  · refine lv_aload_n hx hb dX4_cancel_15 rfl (lv_at hl 0 rfl) ?_
    refine lv_iload_n hx hb dX4_cancel_16 rfl (lv_at hl 1 rfl) ?_
    refine lv_iconst (v := nI 3) hx hb dX4_cancel_17 (by decide) ?_
    refine RO.callV S kv_X4_57 (c_X4_its l D cI cJ a f σ x 3 (by omega)) hK hP rfl ⟨Nat.le_of_ble_eq_true rfl, Nat.le_of_ble_eq_true rfl⟩ hl.1 rfl rfl (Nat.le_of_ble_eq_true rfl) (Nat.zero_le _) (Nat.zero_le _) dX4_cancel_18 ?_
    refine lv_aload_n hx hb dX4_cancel_21 rfl (lv_at hl 0 rfl) ?_
    refine lv_iload_n hx hb dX4_cancel_22 rfl (lv_at hl 2 rfl) ?_
    refine lv_iconst (v := nI 3) hx hb dX4_cancel_23 (by decide) ?_
    refine RO.callV S kv_X4_57 (c_X4_its l D cI cJ a f σ y 3 (by omega)) hK hP rfl ⟨Nat.le_of_ble_eq_true rfl, Nat.le_of_ble_eq_true rfl⟩ hl.1 rfl rfl (Nat.le_of_ble_eq_true rfl) (Nat.zero_le _) (Nat.zero_le _) dX4_cancel_24 ?_
    refine lv_icmp_ne (tgt := 74) hx hb dX4_cancel_27 (by decide) (fun c_27 => ?_) (fun c_27 => ?_)
    · exact WR.vret S hr hlk hP hS (by rw [sCa, if_neg (fun q => c_27 q.2)]) dX4_cancel_74
    · refine lv_aload_n hx hb dX4_cancel_30 rfl (lv_at hl 0 rfl) ?_
      refine lv_iload_n hx hb dX4_cancel_31 rfl (lv_at hl 1 rfl) ?_
      refine lv_iconst (v := nI 2) hx hb dX4_cancel_32 (by decide) ?_
      refine RO.callV S kv_X4_57 (c_X4_its l D cI cJ a f σ x 2 (by omega)) hK hP rfl ⟨Nat.le_of_ble_eq_true rfl, Nat.le_of_ble_eq_true rfl⟩ hl.1 rfl rfl (Nat.le_of_ble_eq_true rfl) (Nat.zero_le _) (Nat.zero_le _) dX4_cancel_33 ?_
      refine lv_aload_n hx hb dX4_cancel_36 rfl (lv_at hl 0 rfl) ?_
      refine lv_iload_n hx hb dX4_cancel_37 rfl (lv_at hl 2 rfl) ?_
      refine lv_iconst (v := nI 2) hx hb dX4_cancel_38 (by decide) ?_
      refine RO.callV S kv_X4_57 (c_X4_its l D cI cJ a f σ y 2 (by omega)) hK hP rfl ⟨Nat.le_of_ble_eq_true rfl, Nat.le_of_ble_eq_true rfl⟩ hl.1 rfl rfl (Nat.le_of_ble_eq_true rfl) (Nat.zero_le _) (Nat.zero_le _) dX4_cancel_39 ?_
      refine RO.callS S ks_X4_101 (c_X4_least l D cI cJ a f σ (fi f x 2) (fi f y 2)) hK hP ⟨Nat.le_of_ble_eq_true rfl, Nat.le_of_ble_eq_true rfl⟩ hl.1 rfl rfl (Nat.le_of_ble_eq_true rfl) (Nat.zero_le _) (Nat.zero_le _) dX4_cancel_42 ?_
      refine lv_istore_n (lv' := [(3, .int (iMin (fi f x 2) (fi f y 2))), (0, .ref (a 0)), (1, .int (nI x)), (2, .int (nI y))]) hx hb dX4_cancel_45 rfl hl (by decide) rfl (fun ls hl => ?_)
      refine lv_aload_n hx hb dX4_cancel_46 rfl (lv_at hl 1 rfl) ?_
      refine g4_s S hK hP dX4_cancel_47 ?_
      refine lv_iload_n hx hb dX4_cancel_50 rfl (lv_at hl 2 rfl) ?_
      refine lv_iconst (v := nI 2) hx hb dX4_cancel_51 (by decide) ?_
      refine RO.callS S ks_X4_70 (c_X4_at l D cI cJ a f σ x 2) hK hP ⟨Nat.le_of_ble_eq_true rfl, Nat.le_of_ble_eq_true rfl⟩ hl.1 rfl rfl (Nat.le_of_ble_eq_true rfl) (Nat.zero_le _) (Nat.zero_le _) dX4_cancel_52 ?_
      refine lv_dup2_11 hx hb dX4_cancel_55 rfl rfl ?_
      refine l4_s S hK hP (j := 16 + 7 * x + 2) (by omega) dX4_cancel_56 ?_
      refine lv_iload_n hx hb dX4_cancel_57 rfl (lv_at hl 0 rfl) ?_
      refine lv_isub hx hb dX4_cancel_58 ?_
      refine s4_s S hK hP hD hS (j := 16 + 7 * x + 2) (by omega) dX4_cancel_59 (fun H locs hP hD hS => ?_)
      refine lv_aload_n hx hb dX4_cancel_60 rfl (lv_at hl 1 rfl) ?_
      refine g4_s S hK hP dX4_cancel_61 ?_
      refine lv_iload_n hx hb dX4_cancel_64 rfl (lv_at hl 3 rfl) ?_
      refine lv_iconst (v := nI 2) hx hb dX4_cancel_65 (by decide) ?_
      refine RO.callS S ks_X4_70 (c_X4_at l D cI cJ a (fu f x 2 ((f (16 + 7 * x + 2)) - (iMin (fi f x 2) (fi f y 2)))) σ y 2) hK hP ⟨Nat.le_of_ble_eq_true rfl, Nat.le_of_ble_eq_true rfl⟩ hl.1 rfl rfl (Nat.le_of_ble_eq_true rfl) (Nat.zero_le _) (Nat.zero_le _) dX4_cancel_66 ?_
      refine lv_dup2_11 hx hb dX4_cancel_69 rfl rfl ?_
      refine l4_s S hK hP (j := 16 + 7 * y + 2) (by omega) dX4_cancel_70 ?_
      refine lv_iload_n hx hb dX4_cancel_71 rfl (lv_at hl 0 rfl) ?_
      refine lv_isub hx hb dX4_cancel_72 ?_
      refine s4_s S hK hP hD hS (j := 16 + 7 * y + 2) (by omega) dX4_cancel_73 (fun H locs hP hD hS => ?_)
      exact WR.vret S hr hlk hP hS (by rw [sCa, if_pos ⟨c_12, c_27⟩]; rfl) dX4_cancel_74
set_option maxRecDepth 100000 in
set_option maxHeartbeats 4000000 in
theorem c_X4_strained (l : Launch) (D : va_G) (cI cJ : ClassId) (a : Nat → Nat) (f : Nat → Int32) (σ : Nat → Nat → Int32) (n : Nat) (hw : Wk f n) : RO l yX4_strained cX4_strained 2 (some .int) 3 D cI cJ (MW cI a f σ) [.ref (a 0)] (.int (oI (sFt f n n 0))) := by
  have h8 := hw.2.1
  refine RO.of (by decide) (Nat.le_of_ble_eq_true rfl) (fun p e s m below meth c ls S hr hlk hK hP hl => ?_)
  obtain ⟨hx, hb, hml, hown, hU⟩ := id S
  have hl : lv_has ls 2 [(0, .ref (a 0))] := hl
  refine lv_iconst (v := nI 0) hx hb dX4_strained_0 (by decide) ?_
  refine lv_istore_n (lv' := [(1, .int (nI 0)), (0, .ref (a 0))]) hx hb dX4_strained_1 rfl hl (by decide) rfl (fun ls hl => ?_)
  have L_2 : ∀ (n9 : Nat) (j : Nat) (ls : Array Slot), n - j < n9 → j ≤ n → sFt f n (n - j) j = sFt f n n 0 → lv_has ls 2 [(0, .ref (a 0)), (1, .int (nI j))] → W p l e (rmd 3) s m ([.ref (a 0)] : List Value).toArray below meth c s.heap [] 0 0 (ZR below ([.ref (a 0)] : List Value).toArray s (.int (oI (sFt f n n 0)))) (F0 m 2 ls []) := by
    intro n9
    induction n9 with
    | zero => intro j ls hm; exact absurd hm (Nat.not_lt_zero _)
    | succ n9 ih_2 =>
      intro j ls hm hj hR hl
      refine lv_iload_n hx hb dX4_strained_2 rfl (lv_at hl 1 rfl) ?_
      refine lv_aload_n hx hb dX4_strained_3 rfl (lv_at hl 0 rfl) ?_
      refine g4_s S hK hP dX4_strained_4 ?_
      refine lv_iconst (v := nI 0) hx hb dX4_strained_7 (by decide) ?_
      refine l4_s S hK hP (j := 0) (by omega) dX4_strained_8 ?_
      refine q_eqi (y := nI n) (hw.1) ?_
      refine q_icmp_geN (tgt := 31) (a := j) (b := n) hx hb dX4_strained_9 (by decide) (by omega) (by omega) (fun c_9 => ?_) (fun c_9 => ?_)
      · refine lv_iload_n hx hb dX4_strained_31 rfl (lv_at hl 1 rfl) ?_
        refine lv_aload_n hx hb dX4_strained_32 rfl (lv_at hl 0 rfl) ?_
        refine g4_s S hK hP dX4_strained_33 ?_
        refine lv_iconst (v := nI 0) hx hb dX4_strained_36 (by decide) ?_
        refine l4_s S hK hP (j := 0) (by omega) dX4_strained_37 ?_
        refine q_eqi (y := nI n) (hw.1) ?_
        refine q_icmp_geN (tgt := 45) (a := j) (b := n) hx hb dX4_strained_38 (by decide) (by omega) (by omega) (fun c_38 => ?_) (fun c_38 => ?_)
        · refine lv_iconst (v := (-1)) hx hb dX4_strained_45 (by decide) ?_
          exact RO.iret S hr hlk (congrArg Value.int (by rw [← hR, show n - j = 0 by omega]; rfl)) dX4_strained_46
        · exact absurd c_38 (by omega)
      · refine lv_aload_n hx hb dX4_strained_12 rfl (lv_at hl 0 rfl) ?_
        refine lv_iload_n hx hb dX4_strained_13 rfl (lv_at hl 1 rfl) ?_
        refine RO.callV S kv_X4_89 (c_X4_loud l D cI cJ a f σ j n (hw) (by omega)) hK hP rfl ⟨Nat.le_of_ble_eq_true rfl, Nat.le_of_ble_eq_true rfl⟩ hl.1 rfl rfl (Nat.le_of_ble_eq_true rfl) (Nat.zero_le _) (Nat.zero_le _) dX4_strained_14 ?_
        refine lv_aload_n hx hb dX4_strained_17 rfl (lv_at hl 0 rfl) ?_
        refine lv_iload_n hx hb dX4_strained_18 rfl (lv_at hl 1 rfl) ?_
        refine RO.callV S kv_X4_95 (c_X4_bears l D cI cJ a f σ j n (hw) (by omega)) hK hP rfl ⟨Nat.le_of_ble_eq_true rfl, Nat.le_of_ble_eq_true rfl⟩ hl.1 rfl rfl (Nat.le_of_ble_eq_true rfl) (Nat.zero_le _) (Nat.zero_le _) dX4_strained_19 ?_
        refine lv_icmp_gt (tgt := 31) hx hb dX4_strained_22 (by decide) (fun c_22 => ?_) (fun c_22 => ?_)
        · refine lv_iload_n hx hb dX4_strained_31 rfl (lv_at hl 1 rfl) ?_
          refine lv_aload_n hx hb dX4_strained_32 rfl (lv_at hl 0 rfl) ?_
          refine g4_s S hK hP dX4_strained_33 ?_
          refine lv_iconst (v := nI 0) hx hb dX4_strained_36 (by decide) ?_
          refine l4_s S hK hP (j := 0) (by omega) dX4_strained_37 ?_
          refine q_eqi (y := nI n) (hw.1) ?_
          refine q_icmp_geN (tgt := 45) (a := j) (b := n) hx hb dX4_strained_38 (by decide) (by omega) (by omega) (fun c_38 => ?_) (fun c_38 => ?_)
          · exact absurd c_38 (by omega)
          · refine lv_iload_n hx hb dX4_strained_41 rfl (lv_at hl 1 rfl) ?_
            refine lv_goto (tgt := 46) hx hb dX4_strained_42 (by decide) ?_
            exact RO.iret S hr hlk (congrArg Value.int (by rw [← hR, show n - j = (n - (j + 1)) + 1 by omega, sFt_hit (i32_not_le_of_lt c_22)]; rfl)) dX4_strained_46
        · refine lv_iinc (v := nI (j + 1)) (lv' := [(1, .int (nI (j + 1))), (0, .ref (a 0))]) hx hb dX4_strained_25 hl (k := 1) rfl (q_inc _) (by decide) rfl (fun ls hl => ?_)
          refine lv_goto (tgt := 2) hx hb dX4_strained_28 (by decide) ?_
          exact ih_2 (j + 1) ls (by omega) (by omega) (by rw [← hR, show n - j = (n - (j + 1)) + 1 by omega, sFt_go (i32_le_of_not_lt c_22)]) (lv_sub hl [1, 0] rfl)
  exact L_2 ((n - 0) + 1) 0 ls (Nat.lt_succ_self _) (Nat.zero_le n) (rfl) (lv_sub hl [1, 0] rfl)
set_option maxRecDepth 100000 in
set_option maxHeartbeats 4000000 in
theorem c_X4_burst (l : Launch) (D : va_G) (cI cJ : ClassId) (a : Nat → Nat) (f : Nat → Int32) (σ : Nat → Nat → Int32) (k : Nat) (n : Nat) (hw : Wk f n) (hk : k < n) : WR l yX4_burst cX4_burst 4 none 2 D cI cJ (MW cI a f σ) [.ref (a 0), .int (nI k)] (none) (MW cI a (sBu f n k) σ) := by
  have h8 := hw.2.1
  have hw0 := hw
  refine WR.of (by decide) (Nat.le_of_ble_eq_true rfl) (fun p e s m below meth c ls A S hr hlk hK hP hD hS hA hl => ?_)
  obtain ⟨hx, hb, hml, hown, hU⟩ := id S
  have hl : lv_has ls 4 [(0, .ref (a 0)), (1, .int (nI k))] := hl
  refine lv_aload_n hx hb dX4_burst_0 rfl (lv_at hl 0 rfl) ?_
  refine lv_iload_n hx hb dX4_burst_1 rfl (lv_at hl 1 rfl) ?_
  refine lv_iconst (v := nI 2) hx hb dX4_burst_2 (by decide) ?_
  refine RO.callV S kv_X4_57 (c_X4_its l D cI cJ a f σ k 2 (by omega)) hK hP rfl ⟨Nat.le_of_ble_eq_true rfl, Nat.le_of_ble_eq_true rfl⟩ hl.1 rfl rfl (Nat.le_of_ble_eq_true rfl) (Nat.zero_le _) (Nat.zero_le _) dX4_burst_3 ?_
  refine lv_iconst (v := nI 2) hx hb dX4_burst_6 (by decide) ?_
  refine lv_idiv hx hb dX4_burst_7 (by decide) ?_
  refine lv_istore_n (lv' := [(2, .int ((fi f k 2) / (nI 2))), (0, .ref (a 0)), (1, .int (nI k))]) hx hb dX4_burst_8 rfl hl (by decide) rfl (fun ls hl => ?_)
  refine lv_iconst (v := nI 0) hx hb dX4_burst_9 (by decide) ?_
  refine lv_istore_n (lv' := [(3, .int (nI 0)), (2, .int ((fi f k 2) / (nI 2))), (0, .ref (a 0)), (1, .int (nI k))]) hx hb dX4_burst_10 rfl hl (by decide) rfl (fun ls hl => ?_)
  have L_11 : ∀ (n9 : Nat) (j : Nat) (H : Heap) (locs : List Loc) (ls : Array Slot), n - j < n9 → j ≤ n → Wk (sBl f k (fi f k 2 / nI 2) j) n → va_P D vwCl (MW cI a (sBl f k (fi f k 2 / nI 2) j) σ) H → va_D A (MW cI a (sBl f k (fi f k 2 / nI 2) j) σ) → va_S A s.heap H locs → lv_has ls 4 [(0, .ref (a 0)), (1, .int (nI k)), (2, .int (fi f k 2 / nI 2)), (3, .int (nI j))] → W p l e (rmd 2) s m ([.ref (a 0), .int (nI k)] : List Value).toArray below meth c H locs 0 0 (ZW below ([.ref (a 0), .int (nI k)] : List Value).toArray s D (none) (MW cI a (sBu f n k) σ) A) (F0 m 11 ls []) := by
    intro n9
    induction n9 with
    | zero => intro j H locs ls hm; exact absurd hm (Nat.not_lt_zero _)
    | succ n9 ih_11 =>
      intro j H locs ls hm hj hw hP hD hS hl
      refine lv_iload_n hx hb dX4_burst_11 rfl (lv_at hl 3 rfl) ?_
      refine lv_aload_n hx hb dX4_burst_12 rfl (lv_at hl 0 rfl) ?_
      refine g4_s S hK hP dX4_burst_13 ?_
      refine lv_iconst (v := nI 0) hx hb dX4_burst_16 (by decide) ?_
      refine l4_s S hK hP (j := 0) (by omega) dX4_burst_17 ?_
      refine q_eqi (y := nI n) (hw.1) ?_
      refine q_icmp_geN (tgt := 53) (a := j) (b := n) hx hb dX4_burst_18 (by decide) (by omega) (by omega) (fun c_18 => ?_) (fun c_18 => ?_)
      · refine lv_aload_n hx hb dX4_burst_53 rfl (lv_at hl 0 rfl) ?_
        refine g4_s S hK hP dX4_burst_54 ?_
        refine lv_iload_n hx hb dX4_burst_57 rfl (lv_at hl 1 rfl) ?_
        refine lv_iconst (v := nI 2) hx hb dX4_burst_58 (by decide) ?_
        refine RO.callS S ks_X4_70 (c_X4_at l D cI cJ a (sBl f k (fi f k 2 / nI 2) j) σ k 2) hK hP ⟨Nat.le_of_ble_eq_true rfl, Nat.le_of_ble_eq_true rfl⟩ hl.1 rfl rfl (Nat.le_of_ble_eq_true rfl) (Nat.zero_le _) (Nat.zero_le _) dX4_burst_59 ?_
        refine lv_iconst (v := nI 0) hx hb dX4_burst_62 (by decide) ?_
        refine s4_s S hK hP hD hS (j := 16 + 7 * k + 2) (by omega) dX4_burst_63 (fun H locs hP hD hS => ?_)
        refine lv_aload_n hx hb dX4_burst_64 rfl (lv_at hl 0 rfl) ?_
        refine g4_s S hK hP dX4_burst_65 ?_
        refine lv_iload_n hx hb dX4_burst_68 rfl (lv_at hl 1 rfl) ?_
        refine lv_iconst (v := nI 5) hx hb dX4_burst_69 (by decide) ?_
        refine RO.callS S ks_X4_70 (c_X4_at l D cI cJ a (fu (sBl f k (fi f k 2 / nI 2) j) k 2 (nI 0)) σ k 5) hK hP ⟨Nat.le_of_ble_eq_true rfl, Nat.le_of_ble_eq_true rfl⟩ hl.1 rfl rfl (Nat.le_of_ble_eq_true rfl) (Nat.zero_le _) (Nat.zero_le _) dX4_burst_70 ?_
        refine lv_iconst (v := nI 0) hx hb dX4_burst_73 (by decide) ?_
        refine s4_s S hK hP hD hS (j := 16 + 7 * k + 5) (by omega) dX4_burst_74 (fun H locs hP hD hS => ?_)
        refine lv_aload_n hx hb dX4_burst_75 rfl (lv_at hl 0 rfl) ?_
        refine g4_s S hK hP dX4_burst_76 ?_
        refine lv_iload_n hx hb dX4_burst_79 rfl (lv_at hl 1 rfl) ?_
        refine lv_bipush (v := nI 6) hx hb dX4_burst_80 (by decide) ?_
        refine RO.callS S ks_X4_70 (c_X4_at l D cI cJ a (fu (fu (sBl f k (fi f k 2 / nI 2) j) k 2 (nI 0)) k 5 (nI 0)) σ k 6) hK hP ⟨Nat.le_of_ble_eq_true rfl, Nat.le_of_ble_eq_true rfl⟩ hl.1 rfl rfl (Nat.le_of_ble_eq_true rfl) (Nat.zero_le _) (Nat.zero_le _) dX4_burst_82 ?_
        refine lv_sipush (v := nI 999) hx hb dX4_burst_85 (by decide) ?_
        refine lv_aload_n hx hb dX4_burst_88 rfl (lv_at hl 0 rfl) ?_
        refine lv_iload_n hx hb dX4_burst_89 rfl (lv_at hl 1 rfl) ?_
        refine lv_bipush (v := nI 6) hx hb dX4_burst_90 (by decide) ?_
        refine RO.callV S kv_X4_57 (c_X4_its l D cI cJ a (fu (fu (sBl f k (fi f k 2 / nI 2) j) k 2 (nI 0)) k 5 (nI 0)) σ k 6 (by omega)) hK hP rfl ⟨Nat.le_of_ble_eq_true rfl, Nat.le_of_ble_eq_true rfl⟩ hl.1 rfl rfl (Nat.le_of_ble_eq_true rfl) (Nat.zero_le _) (Nat.zero_le _) dX4_burst_92 ?_
        refine lv_iconst (v := nI 1) hx hb dX4_burst_95 (by decide) ?_
        refine lv_iadd hx hb dX4_burst_96 ?_
        refine RO.callS S ks_X4_101 (c_X4_least l D cI cJ a (fu (fu (sBl f k (fi f k 2 / nI 2) j) k 2 (nI 0)) k 5 (nI 0)) σ (nI 999) ((fi (fu (fu (sBl f k (fi f k 2 / nI 2) j) k 2 (nI 0)) k 5 (nI 0)) k 6) + (nI 1))) hK hP ⟨Nat.le_of_ble_eq_true rfl, Nat.le_of_ble_eq_true rfl⟩ hl.1 rfl rfl (Nat.le_of_ble_eq_true rfl) (Nat.zero_le _) (Nat.zero_le _) dX4_burst_97 ?_
        refine s4_s S hK hP hD hS (j := 16 + 7 * k + 6) (by omega) dX4_burst_100 (fun H locs hP hD hS => ?_)
        refine lv_aload_n hx hb dX4_burst_101 rfl (lv_at hl 0 rfl) ?_
        refine g4_s S hK hP dX4_burst_102 ?_
        refine lv_iconst (v := nI 3) hx hb dX4_burst_105 (by decide) ?_
        refine lv_ldc (v := nI 99999) hx hb hown (hU _ mK_X4_107) dX4_burst_106 ?_
        refine lv_aload_n hx hb dX4_burst_108 rfl (lv_at hl 0 rfl) ?_
        refine g4_s S hK hP dX4_burst_109 ?_
        refine lv_iconst (v := nI 3) hx hb dX4_burst_112 (by decide) ?_
        refine l4_s S hK hP (j := 3) (by omega) dX4_burst_113 ?_
        refine lv_iconst (v := nI 1) hx hb dX4_burst_114 (by decide) ?_
        refine lv_iadd hx hb dX4_burst_115 ?_
        refine RO.callS S ks_X4_101 (c_X4_least l D cI cJ a (fu (fu (fu (sBl f k (fi f k 2 / nI 2) j) k 2 (nI 0)) k 5 (nI 0)) k 6 (iMin (nI 999) ((fi (fu (fu (sBl f k (fi f k 2 / nI 2) j) k 2 (nI 0)) k 5 (nI 0)) k 6) + (nI 1)))) σ (nI 99999) (((fu (fu (fu (sBl f k (fi f k 2 / nI 2) j) k 2 (nI 0)) k 5 (nI 0)) k 6 (iMin (nI 999) ((fi (fu (fu (sBl f k (fi f k 2 / nI 2) j) k 2 (nI 0)) k 5 (nI 0)) k 6) + (nI 1)))) 3) + (nI 1))) hK hP ⟨Nat.le_of_ble_eq_true rfl, Nat.le_of_ble_eq_true rfl⟩ hl.1 rfl rfl (Nat.le_of_ble_eq_true rfl) (Nat.zero_le _) (Nat.zero_le _) dX4_burst_116 ?_
        refine s4_s S hK hP hD hS (j := 3) (by omega) dX4_burst_119 (fun H locs hP hD hS => ?_)
        exact WR.vret S hr hlk hP hS (by rw [show j = n by omega]; rfl) dX4_burst_120
      · refine lv_iload_n hx hb dX4_burst_21 rfl (lv_at hl 3 rfl) ?_
        refine lv_iload_n hx hb dX4_burst_22 rfl (lv_at hl 1 rfl) ?_
        refine q_icmp_eqN (tgt := 47) (a := j) (b := k) hx hb dX4_burst_23 (by decide) (by omega) (by omega) (fun c_23 => ?_) (fun c_23 => ?_)
        · refine lv_iinc (v := nI (j + 1)) (lv' := [(3, .int (nI (j + 1))), (0, .ref (a 0)), (1, .int (nI k)), (2, .int (fi f k 2 / nI 2))]) hx hb dX4_burst_47 hl (k := 3) rfl (q_inc _) (by decide) rfl (fun ls hl => ?_)
          refine lv_goto (tgt := 11) hx hb dX4_burst_50 (by decide) ?_
          exact ih_11 (j + 1) _ _ ls (by omega) (by omega) (hw0.kp (sBl_kp (by omega))) (by rw [sBl_0 (fun q => q.1 c_23)]; exact hP) (by rw [sBl_0 (fun q => q.1 c_23)]; exact hD) hS (lv_sub hl [1, 2, 3, 0] rfl)
        · refine lv_aload_n hx hb dX4_burst_26 rfl (lv_at hl 0 rfl) ?_
          refine lv_iload_n hx hb dX4_burst_27 rfl (lv_at hl 3 rfl) ?_
          refine lv_iconst (v := nI 1) hx hb dX4_burst_28 (by decide) ?_
          refine RO.callV S kv_X4_57 (c_X4_its l D cI cJ a (sBl f k (fi f k 2 / nI 2) j) σ j 1 (by omega)) hK hP rfl ⟨Nat.le_of_ble_eq_true rfl, Nat.le_of_ble_eq_true rfl⟩ hl.1 rfl rfl (Nat.le_of_ble_eq_true rfl) (Nat.zero_le _) (Nat.zero_le _) dX4_burst_29 ?_
          refine lv_aload_n hx hb dX4_burst_32 rfl (lv_at hl 0 rfl) ?_
          refine lv_iload_n hx hb dX4_burst_33 rfl (lv_at hl 1 rfl) ?_
          refine lv_iconst (v := nI 1) hx hb dX4_burst_34 (by decide) ?_
          refine RO.callV S kv_X4_57 (c_X4_its l D cI cJ a (sBl f k (fi f k 2 / nI 2) j) σ k 1 (by omega)) hK hP rfl ⟨Nat.le_of_ble_eq_true rfl, Nat.le_of_ble_eq_true rfl⟩ hl.1 rfl rfl (Nat.le_of_ble_eq_true rfl) (Nat.zero_le _) (Nat.zero_le _) dX4_burst_35 ?_
          refine lv_icmp_ne (tgt := 47) hx hb dX4_burst_38 (by decide) (fun c_38 => ?_) (fun c_38 => ?_)
          · refine lv_iinc (v := nI (j + 1)) (lv' := [(3, .int (nI (j + 1))), (0, .ref (a 0)), (1, .int (nI k)), (2, .int (fi f k 2 / nI 2))]) hx hb dX4_burst_47 hl (k := 3) rfl (q_inc _) (by decide) rfl (fun ls hl => ?_)
            refine lv_goto (tgt := 11) hx hb dX4_burst_50 (by decide) ?_
            exact ih_11 (j + 1) _ _ ls (by omega) (by omega) (hw0.kp (sBl_kp (by omega))) (by rw [sBl_0 (fun q => c_38 q.2)]; exact hP) (by rw [sBl_0 (fun q => c_38 q.2)]; exact hD) hS (lv_sub hl [1, 2, 3, 0] rfl)
          · refine lv_aload_n hx hb dX4_burst_41 rfl (lv_at hl 0 rfl) ?_
            refine lv_iload_n hx hb dX4_burst_42 rfl (lv_at hl 3 rfl) ?_
            refine lv_iload_n hx hb dX4_burst_43 rfl (lv_at hl 2 rfl) ?_
            refine WR.callV (w1 := MW cI a (sMo (sBl f k (fi f k 2 / nI 2) j) j (fi f k 2 / nI 2)) σ) S kv_X4_104 (c_X4_more l D cI cJ a (sBl f k (fi f k 2 / nI 2) j) σ j (fi f k 2 / nI 2) (by omega)) hK hP hD hS hA ([]) ([]) rfl rfl rfl rfl ⟨Nat.le_of_ble_eq_true rfl, Nat.le_of_ble_eq_true rfl⟩ hl.1 rfl rfl (Nat.le_of_ble_eq_true rfl) (Nat.zero_le _) (Nat.zero_le _) dX4_burst_44 (fun H locs hP hD hS => ?_)
            refine W.eq (g2 := F0 m 47 ls []) rfl ?_
            refine lv_iinc (v := nI (j + 1)) (lv' := [(3, .int (nI (j + 1))), (0, .ref (a 0)), (1, .int (nI k)), (2, .int (fi f k 2 / nI 2))]) hx hb dX4_burst_47 hl (k := 3) rfl (q_inc _) (by decide) rfl (fun ls hl => ?_)
            refine lv_goto (tgt := 11) hx hb dX4_burst_50 (by decide) ?_
            exact ih_11 (j + 1) _ _ ls (by omega) (by omega) (hw0.kp (sBl_kp (by omega))) (by rw [sBl_1 ⟨c_23, c_38⟩]; exact hP) (by rw [sBl_1 ⟨c_23, c_38⟩]; exact hD) hS (lv_sub hl [1, 2, 3, 0] rfl)
  exact L_11 ((n - 0) + 1) 0 _ _ ls (Nat.lt_succ_self _) (Nat.zero_le n) (hw) hP hD hS (lv_sub hl [2, 3, 1, 0] rfl)
set_option maxRecDepth 100000 in
set_option maxHeartbeats 4000000 in
theorem c_X4_day (l : Launch) (D : va_G) (cI cJ : ClassId) (a : Nat → Nat) (f : Nat → Int32) (σ : Nat → Nat → Int32) (n : Nat) (hw : Wk f n) (d : Nat) (hd : f 1 = nI d) (hd2 : d < 2147483647) : WR l yX4_day cX4_day 5 none 4 D cI cJ (MW cI a f σ) [.ref (a 0)] (none) (MW cI a (sDy f n) σ) := by
  have h8 := hw.2.1
  have hw0 := hw
  refine WR.of (by decide) (Nat.le_of_ble_eq_true rfl) (fun p e s m below meth c ls A S hr hlk hK hP hD hS hA hl => ?_)
  obtain ⟨hx, hb, hml, hown, hU⟩ := id S
  have hl : lv_has ls 5 [(0, .ref (a 0))] := hl
  refine lv_aload_n hx hb dX4_day_0 rfl (lv_at hl 0 rfl) ?_
  refine g4_s S hK hP dX4_day_1 ?_
  refine lv_iconst (v := nI 1) hx hb dX4_day_4 (by decide) ?_
  refine l4_s S hK hP (j := 1) (by omega) dX4_day_5 ?_
  refine q_eqi (y := nI d) (hd) ?_
  refine lv_bipush (v := nI 6) hx hb dX4_day_6 (by decide) ?_
  refine q_iremN (a := d) (b := 6) hx hb dX4_day_8 (by omega) (by omega) (by omega) ?_
  refine lv_istore_n (lv' := [(1, .int (nI (d % 6))), (0, .ref (a 0))]) hx hb dX4_day_9 rfl hl (by decide) rfl (fun ls hl => ?_)
  refine lv_aload_n hx hb dX4_day_10 rfl (lv_at hl 1 rfl) ?_
  refine lv_iload_n hx hb dX4_day_11 rfl (lv_at hl 0 rfl) ?_
  refine RO.callV S kv_X4_65 (c_X4_emptiest l D cI cJ a f σ (nI (d % 6)) n (hw)) hK hP rfl ⟨Nat.le_of_ble_eq_true rfl, Nat.le_of_ble_eq_true rfl⟩ hl.1 rfl rfl (Nat.le_of_ble_eq_true rfl) (Nat.zero_le _) (Nat.zero_le _) dX4_day_12 ?_
  have J_34 : ∀  (H : Heap) (locs : List Loc) (ls : Array Slot), va_P D vwCl (MW cI a (sSo f n) σ) H → va_D A (MW cI a (sSo f n) σ) → va_S A s.heap H locs → lv_has ls 5 [(0, .ref (a 0))] → W p l e (rmd 4) s m ([.ref (a 0)] : List Value).toArray below meth c H locs 0 0 (ZW below ([.ref (a 0)] : List Value).toArray s D (none) (MW cI a (sDy f n) σ) A) (F0 m 34 ls []) := by
    intro  H locs ls  hP hD hS hl
    refine lv_iconst (v := nI 0) hx hb dX4_day_34 (by decide) ?_
    refine lv_istore_n (lv' := [(3, .int (nI 0)), (0, .ref (a 0))]) hx hb dX4_day_35 rfl hl (by decide) rfl (fun ls hl => ?_)
    have L_36 : ∀ (n9 : Nat) (j : Nat) (H : Heap) (locs : List Loc) (ls : Array Slot), n - j < n9 → j ≤ n → Wk (sLl (sSo f n) j) n → va_P D vwCl (MW cI a (sLl (sSo f n) j) σ) H → va_D A (MW cI a (sLl (sSo f n) j) σ) → va_S A s.heap H locs → lv_has ls 5 [(0, .ref (a 0)), (3, .int (nI j))] → W p l e (rmd 4) s m ([.ref (a 0)] : List Value).toArray below meth c H locs 0 0 (ZW below ([.ref (a 0)] : List Value).toArray s D (none) (MW cI a (sDy f n) σ) A) (F0 m 36 ls []) := by
      intro n9
      induction n9 with
      | zero => intro j H locs ls hm; exact absurd hm (Nat.not_lt_zero _)
      | succ n9 ih_36 =>
        intro j H locs ls hm hj hw hP hD hS hl
        refine lv_iload_n hx hb dX4_day_36 rfl (lv_at hl 1 rfl) ?_
        refine lv_aload_n hx hb dX4_day_37 rfl (lv_at hl 0 rfl) ?_
        refine g4_s S hK hP dX4_day_38 ?_
        refine lv_iconst (v := nI 0) hx hb dX4_day_41 (by decide) ?_
        refine l4_s S hK hP (j := 0) (by omega) dX4_day_42 ?_
        refine q_eqi (y := nI n) (hw.1) ?_
        refine q_icmp_geN (tgt := 102) (a := j) (b := n) hx hb dX4_day_43 (by decide) (by omega) (by omega) (fun c_43 => ?_) (fun c_43 => ?_)
        · refine lv_iconst (v := nI 0) hx hb dX4_day_102 (by decide) ?_
          refine lv_istore_n (lv' := [(3, .int (nI 0)), (0, .ref (a 0))]) hx hb dX4_day_103 rfl hl (by decide) rfl (fun ls hl => ?_)
          have L_104 : ∀ (n9 : Nat) (x : Nat) (H : Heap) (locs : List Loc) (ls : Array Slot), n - x < n9 → x ≤ n → Wk (sCo (sLl (sSo f n) n) n x) n → va_P D vwCl (MW cI a (sCo (sLl (sSo f n) n) n x) σ) H → va_D A (MW cI a (sCo (sLl (sSo f n) n) n x) σ) → va_S A s.heap H locs → lv_has ls 5 [(0, .ref (a 0)), (3, .int (nI x))] → W p l e (rmd 4) s m ([.ref (a 0)] : List Value).toArray below meth c H locs 0 0 (ZW below ([.ref (a 0)] : List Value).toArray s D (none) (MW cI a (sDy f n) σ) A) (F0 m 104 ls []) := by
            intro n9
            induction n9 with
            | zero => intro x H locs ls hm; exact absurd hm (Nat.not_lt_zero _)
            | succ n9 ih_104 =>
              intro x H locs ls hm hx1 hw hP hD hS hl
              refine lv_iload_n hx hb dX4_day_104 rfl (lv_at hl 1 rfl) ?_
              refine lv_aload_n hx hb dX4_day_105 rfl (lv_at hl 0 rfl) ?_
              refine g4_s S hK hP dX4_day_106 ?_
              refine lv_iconst (v := nI 0) hx hb dX4_day_109 (by decide) ?_
              refine l4_s S hK hP (j := 0) (by omega) dX4_day_110 ?_
              refine q_eqi (y := nI n) (hw.1) ?_
              refine q_icmp_geN (tgt := 149) (a := x) (b := n) hx hb dX4_day_111 (by decide) (by omega) (by omega) (fun c_111 => ?_) (fun c_111 => ?_)
              · refine lv_aload_n hx hb dX4_day_149 rfl (lv_at hl 0 rfl) ?_
                refine RO.callV S kv_X4_111 (c_X4_strained l D cI cJ a (sCo (sLl (sSo f n) n) n x) σ n (hw)) hK hP rfl ⟨Nat.le_of_ble_eq_true rfl, Nat.le_of_ble_eq_true rfl⟩ hl.1 rfl rfl (Nat.le_of_ble_eq_true rfl) (Nat.zero_le _) (Nat.zero_le _) dX4_day_150 ?_
                refine lv_istore_n (lv' := [(3, .int (oI (sFt (sCo (sLl (sSo f n) n) n x) n n 0))), (0, .ref (a 0))]) hx hb dX4_day_153 rfl hl (by decide) rfl (fun ls hl => ?_)
                refine lv_iconst (v := nI 0) hx hb dX4_day_154 (by decide) ?_
                refine lv_istore (lv' := [(4, .int (nI 0)), (3, .int (oI (sFt (sCo (sLl (sSo f n) n) n x) n n 0))), (0, .ref (a 0))]) hx hb dX4_day_155 hl (by decide) rfl (fun ls hl => ?_)
                have L_157 : ∀ (n9 : Nat) (k : Nat) (g : Nat → Int32) (H : Heap) (locs : List Loc) (ls : Array Slot), 8 - k < n9 → k ≤ 8 → Wk g n → sBs n (8 - k) g = sDa f n → va_P D vwCl (MW cI a g σ) H → va_D A (MW cI a g σ) → va_S A s.heap H locs → lv_has ls 5 [(0, .ref (a 0)), (3, .int (oI (sFt g n n 0))), (4, .int (nI k))] → W p l e (rmd 4) s m ([.ref (a 0)] : List Value).toArray below meth c H locs 0 0 (ZW below ([.ref (a 0)] : List Value).toArray s D (none) (MW cI a (sDy f n) σ) A) (F0 m 157 ls []) := by
                  intro n9
                  induction n9 with
                  | zero => intro k g H locs ls hm; exact absurd hm (Nat.not_lt_zero _)
                  | succ n9 ih_157 =>
                    intro k g H locs ls hm hk8 hw hF hP hD hS hl
                    refine lv_iload hx hb dX4_day_157 (lv_at hl 2 rfl) ?_
                    refine lv_bipush (v := nI 8) hx hb dX4_day_159 (by decide) ?_
                    refine q_icmp_geN (tgt := 184) (a := k) (b := 8) hx hb dX4_day_161 (by decide) (by omega) (by omega) (fun c_161 => ?_) (fun c_161 => ?_)
                    · have hg : g = sDa f n := by rw [← hF, show 8 - k = 0 by omega]; rfl
                      refine lv_aload_n hx hb dX4_day_184 rfl (lv_at hl 0 rfl) ?_
                      refine g4_s S hK hP dX4_day_185 ?_
                      refine lv_iconst (v := nI 1) hx hb dX4_day_188 (by decide) ?_
                      refine lv_dup2_11 hx hb dX4_day_189 rfl rfl ?_
                      refine l4_s S hK hP (j := 1) (by omega) dX4_day_190 ?_
                      refine lv_iconst (v := nI 1) hx hb dX4_day_191 (by decide) ?_
                      refine lv_iadd hx hb dX4_day_192 ?_
                      refine s4_s S hK hP hD hS (j := 1) (by omega) dX4_day_193 (fun H locs hP hD hS => ?_)
                      exact WR.vret S hr hlk hP hS (by rw [hg]; rfl) dX4_day_194
                    · cases hE : sFt g n n 0 with
                      | none =>
                        have hl : lv_has ls 5 [(0, .ref (a 0)), (3, .int (-1)), (4, .int (nI k))] := by rw [hE] at hl; exact hl
                        refine lv_iload_n hx hb dX4_day_164 rfl (lv_at hl 1 rfl) ?_
                        refine lv_if_lt (tgt := 184) hx hb dX4_day_165 (by decide) (fun _ => ?_) (fun h => absurd (by decide) h)
                        have hg : g = sDa f n := by rw [← hF, show 8 - k = (8 - (k + 1)) + 1 by omega, sBs_n hE]
                        refine lv_aload_n hx hb dX4_day_184 rfl (lv_at hl 0 rfl) ?_
                        refine g4_s S hK hP dX4_day_185 ?_
                        refine lv_iconst (v := nI 1) hx hb dX4_day_188 (by decide) ?_
                        refine lv_dup2_11 hx hb dX4_day_189 rfl rfl ?_
                        refine l4_s S hK hP (j := 1) (by omega) dX4_day_190 ?_
                        refine lv_iconst (v := nI 1) hx hb dX4_day_191 (by decide) ?_
                        refine lv_iadd hx hb dX4_day_192 ?_
                        refine s4_s S hK hP hD hS (j := 1) (by omega) dX4_day_193 (fun H locs hP hD hS => ?_)
                        exact WR.vret S hr hlk hP hS (by rw [hg]; rfl) dX4_day_194
                      | some b =>
                        have hl : lv_has ls 5 [(0, .ref (a 0)), (3, .int (nI b)), (4, .int (nI k))] := by rw [hE] at hl; exact hl
                        have hbn := (sFt_lt hE).1
                        refine lv_iload_n hx hb dX4_day_164 rfl (lv_at hl 1 rfl) ?_
                        refine q_if_ltN (tgt := 184) (a := b) hx hb dX4_day_165 (by decide) (by omega) ?_
                        refine lv_aload_n hx hb dX4_day_168 rfl (lv_at hl 0 rfl) ?_
                        refine lv_iload_n hx hb dX4_day_169 rfl (lv_at hl 1 rfl) ?_
                        refine WR.callV (w1 := MW cI a (sBu g n b) σ) S kv_X4_115 (c_X4_burst l D cI cJ a g σ b n (hw) (by omega)) hK hP hD hS hA ([]) ([]) rfl rfl rfl rfl ⟨Nat.le_of_ble_eq_true rfl, Nat.le_of_ble_eq_true rfl⟩ hl.1 rfl rfl (Nat.le_of_ble_eq_true rfl) (Nat.zero_le _) (Nat.zero_le _) dX4_day_170 (fun H locs hP hD hS => ?_)
                        refine W.eq (g2 := F0 m 173 ls []) rfl ?_
                        refine lv_aload_n hx hb dX4_day_173 rfl (lv_at hl 0 rfl) ?_
                        refine RO.callV S kv_X4_111 (c_X4_strained l D cI cJ a (sBu g n b) σ n (hw.kp (sBu_kp h8 (by omega)))) hK hP rfl ⟨Nat.le_of_ble_eq_true rfl, Nat.le_of_ble_eq_true rfl⟩ hl.1 rfl rfl (Nat.le_of_ble_eq_true rfl) (Nat.zero_le _) (Nat.zero_le _) dX4_day_174 ?_
                        refine lv_istore_n (lv' := [(3, .int (oI (sFt (sBu g n b) n n 0))), (0, .ref (a 0)), (4, .int (nI k))]) hx hb dX4_day_177 rfl hl (by decide) rfl (fun ls hl => ?_)
                        refine lv_iinc (v := nI (k + 1)) (lv' := [(4, .int (nI (k + 1))), (3, .int (oI (sFt (sBu g n b) n n 0))), (0, .ref (a 0))]) hx hb dX4_day_178 hl (k := 2) rfl (q_inc _) (by decide) rfl (fun ls hl => ?_)
                        refine lv_goto (tgt := 157) hx hb dX4_day_181 (by decide) ?_
                        exact ih_157 (k + 1) (sBu g n b) _ _ ls (by omega) (by omega) (hw.kp (sBu_kp h8 (by omega))) (by rw [← hF, show 8 - k = (8 - (k + 1)) + 1 by omega, sBs_s hE]) hP hD hS (lv_sub hl [2, 1, 0] rfl)
                exact L_157 ((8 - 0) + 1) 0 (sCo (sLl (sSo f n) n) n n) _ _ ls (Nat.lt_succ_self _) (by omega) (hw0.kp (((sSo_kp h8).tr (sLl_kp h8)).tr (sCo_kp h8 (Nat.le_refl n)))) (rfl) (by rw [show x = n by omega] at hP; exact hP) (by rw [show x = n by omega] at hD; exact hD) hS (by rw [show oI (sFt (sCo (sLl (sSo f n) n) n n) n n 0) = oI (sFt (sCo (sLl (sSo f n) n) n x) n n 0) from by rw [show x = n by omega]]; exact lv_sub hl [2, 1, 0] rfl)
              · refine lv_iload_n hx hb dX4_day_114 rfl (lv_at hl 1 rfl) ?_
                refine lv_iconst (v := nI 1) hx hb dX4_day_115 (by decide) ?_
                refine q_iaddN (a := x) (b := 1) hx hb dX4_day_116 ?_
                refine lv_istore (lv' := [(4, .int (nI (x + 1))), (0, .ref (a 0)), (3, .int (nI x))]) hx hb dX4_day_117 hl (by decide) rfl (fun ls hl => ?_)
                have L_119 : ∀ (n9 : Nat) (i : Nat) (H : Heap) (locs : List Loc) (ls : Array Slot), n - (x + 1 + i) < n9 → x + 1 + i ≤ n → Wk (sCi (sCo (sLl (sSo f n) n) n x) x i) n → va_P D vwCl (MW cI a (sCi (sCo (sLl (sSo f n) n) n x) x i) σ) H → va_D A (MW cI a (sCi (sCo (sLl (sSo f n) n) n x) x i) σ) → va_S A s.heap H locs → lv_has ls 5 [(0, .ref (a 0)), (3, .int (nI x)), (4, .int (nI (x + 1 + i)))] → W p l e (rmd 4) s m ([.ref (a 0)] : List Value).toArray below meth c H locs 0 0 (ZW below ([.ref (a 0)] : List Value).toArray s D (none) (MW cI a (sDy f n) σ) A) (F0 m 119 ls []) := by
                  intro n9
                  induction n9 with
                  | zero => intro i H locs ls hm; exact absurd hm (Nat.not_lt_zero _)
                  | succ n9 ih_119 =>
                    intro i H locs ls hm hi1 hw hP hD hS hl
                    refine lv_iload hx hb dX4_day_119 (lv_at hl 2 rfl) ?_
                    refine lv_aload_n hx hb dX4_day_121 rfl (lv_at hl 0 rfl) ?_
                    refine g4_s S hK hP dX4_day_122 ?_
                    refine lv_iconst (v := nI 0) hx hb dX4_day_125 (by decide) ?_
                    refine l4_s S hK hP (j := 0) (by omega) dX4_day_126 ?_
                    refine q_eqi (y := nI n) (hw.1) ?_
                    refine q_icmp_geN (tgt := 143) (a := x + 1 + i) (b := n) hx hb dX4_day_127 (by decide) (by omega) (by omega) (fun c_127 => ?_) (fun c_127 => ?_)
                    · refine lv_iinc (v := nI (x + 1)) (lv' := [(3, .int (nI (x + 1))), (0, .ref (a 0)), (4, .int (nI (x + 1 + i)))]) hx hb dX4_day_143 hl (k := 1) rfl (q_inc _) (by decide) rfl (fun ls hl => ?_)
                      refine lv_goto (tgt := 104) hx hb dX4_day_146 (by decide) ?_
                      exact ih_104 (x + 1) _ _ ls (by omega) (by omega) (hw0.kp (((sSo_kp h8).tr (sLl_kp h8)).tr (sCo_kp h8 (by omega)))) (by rw [show i = n - (x + 1) by omega] at hP; exact hP) (by rw [show i = n - (x + 1) by omega] at hD; exact hD) hS (lv_sub hl [1, 0] rfl)
                    · refine lv_aload_n hx hb dX4_day_130 rfl (lv_at hl 0 rfl) ?_
                      refine lv_iload_n hx hb dX4_day_131 rfl (lv_at hl 1 rfl) ?_
                      refine lv_iload hx hb dX4_day_132 (lv_at hl 2 rfl) ?_
                      refine WR.callV (w1 := MW cI a (sCa (sCi (sCo (sLl (sSo f n) n) n x) x i) x (x + 1 + i)) σ) S kv_X4_108 (c_X4_cancel l D cI cJ a (sCi (sCo (sLl (sSo f n) n) n x) x i) σ x (x + 1 + i) (by omega) (by omega)) hK hP hD hS hA ([]) ([]) rfl rfl rfl rfl ⟨Nat.le_of_ble_eq_true rfl, Nat.le_of_ble_eq_true rfl⟩ hl.1 rfl rfl (Nat.le_of_ble_eq_true rfl) (Nat.zero_le _) (Nat.zero_le _) dX4_day_134 (fun H locs hP hD hS => ?_)
                      refine W.eq (g2 := F0 m 137 ls []) rfl ?_
                      refine lv_iinc (v := nI (x + 1 + i + 1)) (lv' := [(4, .int (nI (x + 1 + i + 1))), (0, .ref (a 0)), (3, .int (nI x))]) hx hb dX4_day_137 hl (k := 2) rfl (q_inc _) (by decide) rfl (fun ls hl => ?_)
                      refine lv_goto (tgt := 119) hx hb dX4_day_140 (by decide) ?_
                      exact ih_119 (i + 1) _ _ ls (by omega) (by omega) (hw0.kp ((((sSo_kp h8).tr (sLl_kp h8)).tr (sCo_kp h8 (by omega))).tr (sCi_kp (by omega)))) hP hD hS (lv_sub hl [1, 2, 0] rfl)
                exact L_119 ((n - (x + 1 + 0)) + 1) 0 _ _ ls (Nat.lt_succ_self _) (by omega) (hw) hP hD hS (lv_sub hl [1, 2, 0] rfl)
          exact L_104 ((n - 0) + 1) 0 _ _ ls (Nat.lt_succ_self _) (Nat.zero_le n) (hw0.kp ((sSo_kp h8).tr (sLl_kp h8))) (by rw [show j = n by omega] at hP; exact hP) (by rw [show j = n by omega] at hD; exact hD) hS (lv_sub hl [1, 0] rfl)
        · refine lv_aload_n hx hb dX4_day_46 rfl (lv_at hl 0 rfl) ?_
          refine g4_s S hK hP dX4_day_47 ?_
          refine lv_iload_n hx hb dX4_day_50 rfl (lv_at hl 1 rfl) ?_
          refine lv_iconst (v := nI 2) hx hb dX4_day_51 (by decide) ?_
          refine RO.callS S ks_X4_70 (c_X4_at l D cI cJ a (sLl (sSo f n) j) σ j 2) hK hP ⟨Nat.le_of_ble_eq_true rfl, Nat.le_of_ble_eq_true rfl⟩ hl.1 rfl rfl (Nat.le_of_ble_eq_true rfl) (Nat.zero_le _) (Nat.zero_le _) dX4_day_52 ?_
          refine lv_iconst (v := nI 0) hx hb dX4_day_55 (by decide) ?_
          refine lv_aload_n hx hb dX4_day_56 rfl (lv_at hl 0 rfl) ?_
          refine lv_iload_n hx hb dX4_day_57 rfl (lv_at hl 1 rfl) ?_
          refine lv_iconst (v := nI 2) hx hb dX4_day_58 (by decide) ?_
          refine RO.callV S kv_X4_57 (c_X4_its l D cI cJ a (sLl (sSo f n) j) σ j 2 (by omega)) hK hP rfl ⟨Nat.le_of_ble_eq_true rfl, Nat.le_of_ble_eq_true rfl⟩ hl.1 rfl rfl (Nat.le_of_ble_eq_true rfl) (Nat.zero_le _) (Nat.zero_le _) dX4_day_59 ?_
          refine lv_aload_n hx hb dX4_day_62 rfl (lv_at hl 0 rfl) ?_
          refine lv_iload_n hx hb dX4_day_63 rfl (lv_at hl 1 rfl) ?_
          refine RO.callV S kv_X4_92 (c_X4_leaks l D cI cJ a (sLl (sSo f n) j) σ j (by omega)) hK hP rfl ⟨Nat.le_of_ble_eq_true rfl, Nat.le_of_ble_eq_true rfl⟩ hl.1 rfl rfl (Nat.le_of_ble_eq_true rfl) (Nat.zero_le _) (Nat.zero_le _) dX4_day_64 ?_
          refine lv_isub hx hb dX4_day_67 ?_
          refine RO.callS S ks_X4_80 (c_X4_greatest l D cI cJ a (sLl (sSo f n) j) σ (nI 0) ((fi (sLl (sSo f n) j) j 2) - (sLk (sLl (sSo f n) j) j))) hK hP ⟨Nat.le_of_ble_eq_true rfl, Nat.le_of_ble_eq_true rfl⟩ hl.1 rfl rfl (Nat.le_of_ble_eq_true rfl) (Nat.zero_le _) (Nat.zero_le _) dX4_day_68 ?_
          refine s4_s S hK hP hD hS (j := 16 + 7 * j + 2) (by omega) dX4_day_71 (fun H locs hP hD hS => ?_)
          refine lv_aload_n hx hb dX4_day_72 rfl (lv_at hl 0 rfl) ?_
          refine g4_s S hK hP dX4_day_73 ?_
          refine lv_iload_n hx hb dX4_day_76 rfl (lv_at hl 1 rfl) ?_
          refine lv_iconst (v := nI 5) hx hb dX4_day_77 (by decide) ?_
          refine RO.callS S ks_X4_70 (c_X4_at l D cI cJ a (fu (sLl (sSo f n) j) j 2 (iMax (nI 0) ((fi (sLl (sSo f n) j) j 2) - (sLk (sLl (sSo f n) j) j)))) σ j 5) hK hP ⟨Nat.le_of_ble_eq_true rfl, Nat.le_of_ble_eq_true rfl⟩ hl.1 rfl rfl (Nat.le_of_ble_eq_true rfl) (Nat.zero_le _) (Nat.zero_le _) dX4_day_78 ?_
          refine lv_sipush (v := nI 999) hx hb dX4_day_81 (by decide) ?_
          refine lv_aload_n hx hb dX4_day_84 rfl (lv_at hl 0 rfl) ?_
          refine lv_iload_n hx hb dX4_day_85 rfl (lv_at hl 1 rfl) ?_
          refine lv_iconst (v := nI 5) hx hb dX4_day_86 (by decide) ?_
          refine RO.callV S kv_X4_57 (c_X4_its l D cI cJ a (fu (sLl (sSo f n) j) j 2 (iMax (nI 0) ((fi (sLl (sSo f n) j) j 2) - (sLk (sLl (sSo f n) j) j)))) σ j 5 (by omega)) hK hP rfl ⟨Nat.le_of_ble_eq_true rfl, Nat.le_of_ble_eq_true rfl⟩ hl.1 rfl rfl (Nat.le_of_ble_eq_true rfl) (Nat.zero_le _) (Nat.zero_le _) dX4_day_87 ?_
          refine lv_iconst (v := nI 1) hx hb dX4_day_90 (by decide) ?_
          refine lv_iadd hx hb dX4_day_91 ?_
          refine RO.callS S ks_X4_101 (c_X4_least l D cI cJ a (fu (sLl (sSo f n) j) j 2 (iMax (nI 0) ((fi (sLl (sSo f n) j) j 2) - (sLk (sLl (sSo f n) j) j)))) σ (nI 999) ((fi (fu (sLl (sSo f n) j) j 2 (iMax (nI 0) ((fi (sLl (sSo f n) j) j 2) - (sLk (sLl (sSo f n) j) j)))) j 5) + (nI 1))) hK hP ⟨Nat.le_of_ble_eq_true rfl, Nat.le_of_ble_eq_true rfl⟩ hl.1 rfl rfl (Nat.le_of_ble_eq_true rfl) (Nat.zero_le _) (Nat.zero_le _) dX4_day_92 ?_
          refine s4_s S hK hP hD hS (j := 16 + 7 * j + 5) (by omega) dX4_day_95 (fun H locs hP hD hS => ?_)
          refine lv_iinc (v := nI (j + 1)) (lv' := [(3, .int (nI (j + 1))), (0, .ref (a 0))]) hx hb dX4_day_96 hl (k := 1) rfl (q_inc _) (by decide) rfl (fun ls hl => ?_)
          refine lv_goto (tgt := 36) hx hb dX4_day_99 (by decide) ?_
          exact ih_36 (j + 1) _ _ ls (by omega) (by omega) (hw0.kp ((sSo_kp h8).tr (sLl_kp (by omega)))) hP hD hS (lv_sub hl [1, 0] rfl)
    exact L_36 ((n - 0) + 1) 0 _ _ ls (Nat.lt_succ_self _) (Nat.zero_le n) (hw0.kp (sSo_kp h8)) hP hD hS (lv_sub hl [1, 0] rfl)
  cases hE : sEm f (nI (d % 6)) n with
  | none =>
    refine q_eqi (y := (-1)) rfl ?_
    refine lv_istore_n (lv' := [(2, .int (-1)), (1, .int (nI (d % 6))), (0, .ref (a 0))]) hx hb dX4_day_15 rfl hl (by decide) rfl (fun ls hl => ?_)
    refine lv_iload_n hx hb dX4_day_16 rfl (lv_at hl 0 rfl) ?_
    refine lv_if_lt (tgt := 34) hx hb dX4_day_17 (by decide) (fun _ => ?_) (fun h => absurd (by decide) h)
    exact J_34 _ _ ls (by rw [sSo_n hd (by omega) hE]; exact hP) (by rw [sSo_n hd (by omega) hE]; exact hD) hS (lv_sub hl [2] rfl)
  | some b =>
    refine q_eqi (y := nI b) rfl ?_
    have hbj := sEm_lt hE
    refine lv_istore_n (lv' := [(2, .int (nI b)), (1, .int (nI (d % 6))), (0, .ref (a 0))]) hx hb dX4_day_15 rfl hl (by decide) rfl (fun ls hl => ?_)
    refine lv_iload_n hx hb dX4_day_16 rfl (lv_at hl 0 rfl) ?_
    refine q_if_ltN (tgt := 34) (a := b) hx hb dX4_day_17 (by decide) (by omega) ?_
    refine lv_aload_n hx hb dX4_day_20 rfl (lv_at hl 2 rfl) ?_
    refine lv_iload_n hx hb dX4_day_21 rfl (lv_at hl 0 rfl) ?_
    refine lv_aload_n hx hb dX4_day_22 rfl (lv_at hl 2 rfl) ?_
    refine g4_s S hK hP dX4_day_23 ?_
    refine lv_bipush (v := nI 10) hx hb dX4_day_26 (by decide) ?_
    refine lv_iload_n hx hb dX4_day_28 rfl (lv_at hl 1 rfl) ?_
    refine q_iaddN (a := 10) (b := d % 6) hx hb dX4_day_29 ?_
    refine l4_s S hK hP (j := 10 + (d % 6)) (by omega) dX4_day_30 ?_
    refine WR.callV (w1 := MW cI a (sMo f b (f (10 + (d % 6)))) σ) S kv_X4_104 (c_X4_more l D cI cJ a f σ b (f (10 + (d % 6))) (by omega)) hK hP hD hS hA ([]) ([]) rfl rfl rfl rfl ⟨Nat.le_of_ble_eq_true rfl, Nat.le_of_ble_eq_true rfl⟩ hl.1 rfl rfl (Nat.le_of_ble_eq_true rfl) (Nat.zero_le _) (Nat.zero_le _) dX4_day_31 (fun H locs hP hD hS => ?_)
    refine W.eq (g2 := F0 m 34 ls []) rfl ?_
    exact J_34 _ _ ls (by rw [sSo_s hd (by omega) hE]; exact hP) (by rw [sSo_s hd (by omega) hE]; exact hD) hS (lv_sub hl [2] rfl)
set_option maxRecDepth 100000 in
set_option maxHeartbeats 4000000 in
theorem c_X4_goes (l : Launch) (D : va_G) (cI cJ : ClassId) (a : Nat → Nat) (f : Nat → Int32) (σ : Nat → Nat → Int32) (t : Nat) (n : Nat) (hw : Wk f n) (d : Nat) (hd : f 1 = nI d) (hd2 : d + t < 2147483647) : WR l yX4_goes cX4_goes 3 none 5 D cI cJ (MW cI a f σ) [.ref (a 0), .int (nI t)] (none) (MW cI a (sGo f n t) σ) := by
  have h8 := hw.2.1
  have hw0 := hw
  have hd0 := hd
  refine WR.of (by decide) (Nat.le_of_ble_eq_true rfl) (fun p e s m below meth c ls A S hr hlk hK hP hD hS hA hl => ?_)
  obtain ⟨hx, hb, hml, hown, hU⟩ := id S
  have hl : lv_has ls 3 [(0, .ref (a 0)), (1, .int (nI t))] := hl
  refine lv_iconst (v := nI 0) hx hb dX4_goes_0 (by decide) ?_
  refine lv_istore_n (lv' := [(2, .int (nI 0)), (0, .ref (a 0)), (1, .int (nI t))]) hx hb dX4_goes_1 rfl hl (by decide) rfl (fun ls hl => ?_)
  have L_2 : ∀ (n9 : Nat) (j : Nat) (H : Heap) (locs : List Loc) (ls : Array Slot), t - j < n9 → j ≤ t → Wk (sGo f n j) n → sGo f n j 1 = nI (d + j) → va_P D vwCl (MW cI a (sGo f n j) σ) H → va_D A (MW cI a (sGo f n j) σ) → va_S A s.heap H locs → lv_has ls 3 [(0, .ref (a 0)), (1, .int (nI t)), (2, .int (nI j))] → W p l e (rmd 5) s m ([.ref (a 0), .int (nI t)] : List Value).toArray below meth c H locs 0 0 (ZW below ([.ref (a 0), .int (nI t)] : List Value).toArray s D (none) (MW cI a (sGo f n t) σ) A) (F0 m 2 ls []) := by
    intro n9
    induction n9 with
    | zero => intro j H locs ls hm; exact absurd hm (Nat.not_lt_zero _)
    | succ n9 ih_2 =>
      intro j H locs ls hm hj hw hd hP hD hS hl
      refine lv_iload_n hx hb dX4_goes_2 rfl (lv_at hl 2 rfl) ?_
      refine lv_iload_n hx hb dX4_goes_3 rfl (lv_at hl 1 rfl) ?_
      refine q_icmp_geN (tgt := 17) (a := j) (b := t) hx hb dX4_goes_4 (by decide) (by omega) (by omega) (fun c_4 => ?_) (fun c_4 => ?_)
      · exact WR.vret S hr hlk hP hS (by rw [show j = t by omega]) dX4_goes_17
      · refine lv_aload_n hx hb dX4_goes_7 rfl (lv_at hl 0 rfl) ?_
        refine WR.callV (w1 := MW cI a (sDy (sGo f n j) n) σ) S kv_X4_119 (c_X4_day l D cI cJ a (sGo f n j) σ n (hw) (d + j) (hd) (by omega)) hK hP hD hS hA ([]) ([]) rfl rfl rfl rfl ⟨Nat.le_of_ble_eq_true rfl, Nat.le_of_ble_eq_true rfl⟩ hl.1 rfl rfl (Nat.le_of_ble_eq_true rfl) (Nat.zero_le _) (Nat.zero_le _) dX4_goes_8 (fun H locs hP hD hS => ?_)
        refine W.eq (g2 := F0 m 11 ls []) rfl ?_
        refine lv_iinc (v := nI (j + 1)) (lv' := [(2, .int (nI (j + 1))), (0, .ref (a 0)), (1, .int (nI t))]) hx hb dX4_goes_11 hl (k := 2) rfl (q_inc _) (by decide) rfl (fun ls hl => ?_)
        refine lv_goto (tgt := 2) hx hb dX4_goes_14 (by decide) ?_
        exact ih_2 (j + 1) _ _ ls (by omega) (by omega) (hw0.kl (sGo_kl h8)) (sGo_1 h8 hd0) hP hD hS (lv_sub hl [1, 2, 0] rfl)
  exact L_2 ((t - 0) + 1) 0 _ _ ls (Nat.lt_succ_self _) (Nat.zero_le t) (hw) (hd) hP hD hS (lv_sub hl [1, 2, 0] rfl)

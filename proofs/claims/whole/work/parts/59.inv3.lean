/-! texts keep it too, and their tokens go on -/
theorem nx_ge {b : Nat → Int32} {L s : Nat} (h : s ≤ L) : s ≤ nx b L s := by
  have h1 := tE_le (b := b) h
  have h2 := sS_le (b := b) (L := L) (e := tE b L s) h1.2
  unfold nx
  omega
theorem nx_gt {b : Nat → Int32} {L s : Nat} (h : s ≤ L) (h3 : tK b L s = 3) : s + 1 ≤ nx b L s := by
  have h1 := tE_le (b := b) h
  have h2 := sS_le (b := b) (L := L) (e := tE b L s) h1.2
  have e : tE b L s = s + 1 := by
    unfold tE
    rw [h3]
    rfl
  unfold nx
  omega
theorem pN_ge {b : Nat → Int32} {L : Nat} {f : Nat → Int32} {S pl mo : Nat} (h : S ≤ L) : S ≤ (pN b L f S pl mo).2.2 := by
  have h1 := nx_ge (b := b) h
  have h2 := nx_ge (b := b) (nx_le (b := b) h)
  unfold pN
  split
  · show S ≤ nx b L (nx b L S)
    omega
  · exact h1
theorem pP_ge {b : Nat → Int32} {L : Nat} {x : Bool × (Nat → Int32) × Nat} {pl mo : Nat} {ws : List Nat} (h : x.2.2 ≤ L) : x.2.2 ≤ (pP b L x ws pl mo).2.2 := by
  unfold pP
  split
  · exact pN_ge h
  · exact Nat.le_refl _
theorem iR_ge {b : Nat → Int32} {L : Nat} {f : Nat → Int32} {S row mo : Nat} (h : S ≤ L) : S ≤ (iR b L f S row mo).2.2 := by
  have h1 := nx_ge (b := b) h
  unfold iR
  split
  · exact Nat.le_trans h1 (pN_ge (nx_le h))
  · exact h1
theorem iC_ge {b : Nat → Int32} {L : Nat} {f : Nat → Int32} {S n k : Nat} (h : S ≤ L) : S ≤ (iC b L f S n k).2.2 := by
  have h1 := nx_ge (b := b) h
  unfold iC
  split
  · exact Nat.le_refl _
  · have hl := nx_le (b := b) h
    exact Nat.le_trans h1 (Nat.le_trans (pP_ge (x := (true, _, nx b L S)) hl) (Nat.le_trans (pP_ge (pP_le hl)) (Nat.le_trans (pP_ge (pP_le (pP_le hl))) (pP_ge (pP_le (pP_le (pP_le hl)))))))
theorem iT_ge {b : Nat → Int32} {L : Nat} {f : Nat → Int32} {S n : Nat} (h : S ≤ L) : S ≤ (iT b L f S n).2.2 := by
  unfold iT
  split
  · exact iC_ge h
  · split
    · exact iR_ge h
    · split
      · exact iR_ge h
      · exact Nat.le_refl _
theorem pN_iv {b : Nat → Int32} {L : Nat} {f : Nat → Int32} {S pl mo n : Nat} (h : Iv f n) (hu : ∀ g v, Iv g n → v ≤ mo → Iv (upd g pl (nI v)) n) : Iv (pN b L f S pl mo).2.1 n := by
  unfold pN
  split
  · rename_i c
    exact hu f _ h c.2
  · exact h
theorem pP_iv {b : Nat → Int32} {L : Nat} {x : Bool × (Nat → Int32) × Nat} {pl mo n : Nat} {ws : List Nat} (h : Iv x.2.1 n) (hu : ∀ g v, Iv g n → v ≤ mo → Iv (upd g pl (nI v)) n) : Iv (pP b L x ws pl mo).2.1 n := by
  unfold pP
  split
  · exact pN_iv h hu
  · exact h
theorem iC_iv {b : Nat → Int32} {L : Nat} {f : Nat → Int32} {S n k : Nat} (h : Iv f n) (hk : k ≤ 6) : ∃ n', Iv (iC b L f S n k).2.1 n' := by
  have h8 := h.wk.2.1
  unfold iC
  split
  · exact ⟨n, h⟩
  · rename_i c
    have h1 : Iv (sAd f n (nI k) (nI 0)) (n + 1) := h.cask (by omega) hk (by omega)
    refine ⟨n + 1, pP_iv (pP_iv (pP_iv (pP_iv h1 ?_) ?_) ?_) ?_⟩
    · exact fun g v hg hv => hg.change (w := 1) (by omega) (by decide) (by omega) (by omega) (by omega)
    · exact fun g v hg hv => hg.change (w := 2) (by omega) (by decide) (by omega) (by omega) (by omega)
    · exact fun g v hg hv => hg.change (w := 3) (by omega) (by decide) (by omega) (by omega) (by omega)
    · exact fun g v hg hv => hg.change (w := 4) (by omega) (by decide) (by omega) (by omega) (by omega)
theorem iR_iv {b : Nat → Int32} {L : Nat} {f : Nat → Int32} {S row mo n : Nat} (h : Iv f n) (hu : ∀ c g v, c ≤ 5 → Iv g n → v ≤ mo → Iv (upd g (row + c) (nI v)) n) : Iv (iR b L f S row mo).2.1 n := by
  unfold iR
  split
  · rename_i c
    exact pN_iv h (fun g v hg hv => hu _ g v c.2 hg hv)
  · exact h
theorem iT_iv {b : Nat → Int32} {L : Nat} {f : Nat → Int32} {S n : Nat} (h : Iv f n) : ∃ n', Iv (iT b L f S n).2.1 n' := by
  unfold iT
  split
  · rename_i k hk
    have := fst1_lt hk
    exact iC_iv h (by omega)
  · split
    · exact ⟨n, iR_iv h (fun c g v hc hg hv => hg.storm (by omega) hv)⟩
    · split
      · exact ⟨n, iR_iv h (fun c g v hc hg _ => hg.frost (by omega))⟩
      · exact ⟨n, h⟩
/-- how many casks a row tells -/
def nO (f : Nat → Int32) : Nat := (f 0).toNatClampNeg
theorem Iv.nO {f : Nat → Int32} {n : Nat} (h : Iv f n) : Jvm.Pilot.@@N@@.nO f = n := by
  unfold Jvm.Pilot.@@N@@.nO
  rw [h.wk.1]
  exact nI_clamp (by have := h.wk.2.1; omega)
/-- items one after another, while a sign stands between them -/
def txL (b : Nat → Int32) (L : Nat) : Nat → Bool × (Nat → Int32) × Nat → Nat → (Bool × (Nat → Int32) × Nat) × Nat
  | 0, x, c => (x, c)
  | m + 1, x, c => if x.1 = true ∧ tK b L x.2.2 = 3 then txL b L m (iT b L x.2.1 (nx b L x.2.2) (nO x.2.1)) (c + 1) else (x, c)
theorem txL_1 {b : Nat → Int32} {L m c : Nat} {x : Bool × (Nat → Int32) × Nat} (h : x.1 = true ∧ tK b L x.2.2 = 3) : txL b L (m + 1) x c = txL b L m (iT b L x.2.1 (nx b L x.2.2) (nO x.2.1)) (c + 1) := if_pos h
theorem txL_0 {b : Nat → Int32} {L m c : Nat} {x : Bool × (Nat → Int32) × Nat} (h : ¬ (x.1 = true ∧ tK b L x.2.2 = 3)) : txL b L m x c = (x, c) := by
  cases m
  · rfl
  · exact if_neg h
/-- the whole tape -/
def txA (b : Nat → Int32) (L : Nat) (f : Nat → Int32) : (Bool × (Nat → Int32) × Nat) × Nat := txL b L 120 (iT b L f (sS b L 0) (nO f)) 1
/-- it holds: the last item holds, and nothing stands behind it -/
def txG (b : Nat → Int32) (L : Nat) (f : Nat → Int32) : Prop := (txA b L f).1.1 = true ∧ tK b L (txA b L f).1.2.2 = 0

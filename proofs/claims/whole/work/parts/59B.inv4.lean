theorem pN_1d {b : Nat → Int32} {L : Nat} {f : Nat → Int32} {S pl mo : Nat} (h : 2 ≤ pl) : (pN b L f S pl mo).2.1 1 = f 1 := by
  unfold pN
  split
  · exact upd_ne (by omega)
  · rfl
theorem pP_1d {b : Nat → Int32} {L : Nat} {x : Bool × (Nat → Int32) × Nat} {pl mo : Nat} {ws : List Nat} (h : 2 ≤ pl) : (pP b L x ws pl mo).2.1 1 = x.2.1 1 := by
  unfold pP
  split
  · exact pN_1d h
  · rfl
theorem iC_1d {b : Nat → Int32} {L : Nat} {f : Nat → Int32} {S n k : Nat} : (iC b L f S n k).2.1 1 = f 1 := by
  unfold iC
  split
  · rfl
  · exact (pP_1d (by omega)).trans ((pP_1d (by omega)).trans ((pP_1d (by omega)).trans ((pP_1d (by omega)).trans (sAd_o (f := f) (n := n) (i := 1) (x := nI k) (y := nI 0) (by decide) (by omega)))))
theorem iR_1d {b : Nat → Int32} {L : Nat} {f : Nat → Int32} {S row mo : Nat} (h : 2 ≤ row) : (iR b L f S row mo).2.1 1 = f 1 := by
  unfold iR
  split
  · exact pN_1d (by omega)
  · rfl
theorem iT_1d {b : Nat → Int32} {L : Nat} {f : Nat → Int32} {S n : Nat} : (iT b L f S n).2.1 1 = f 1 := by
  unfold iT
  split
  · exact iC_1d
  · split
    · exact iR_1d (by decide)
    · split
      · exact iR_1d (by decide)
      · rfl
theorem txL_iv {b : Nat → Int32} {L : Nat} : ∀ {m c : Nat} {x : Bool × (Nat → Int32) × Nat}, (∃ n, Iv x.2.1 n) → ∃ n, Iv (txL b L m x c).1.2.1 n
  | 0, _, _, h => h
  | m + 1, c, x, h => by
    by_cases q : x.1 = true ∧ tK b L x.2.2 = 3
    · rw [txL_1 q]
      obtain ⟨n, hn⟩ := h
      rw [hn.nO]
      exact txL_iv (iT_iv hn)
    · rw [txL_0 q]
      exact h
theorem txL_1d {b : Nat → Int32} {L : Nat} : ∀ {m c : Nat} {x : Bool × (Nat → Int32) × Nat}, (txL b L m x c).1.2.1 1 = x.2.1 1
  | 0, _, _ => rfl
  | m + 1, c, x => by
    by_cases q : x.1 = true ∧ tK b L x.2.2 = 3
    · rw [txL_1 q]
      exact txL_1d.trans iT_1d
    · rw [txL_0 q]
theorem txA_iv {b : Nat → Int32} {L : Nat} {f : Nat → Int32} {n : Nat} (h : Iv f n) : ∃ n', Iv (txA b L f).1.2.1 n' := by
  unfold txA
  rw [h.nO]
  exact txL_iv (iT_iv h)
theorem txA_1d {b : Nat → Int32} {L : Nat} {f : Nat → Int32} : (txA b L f).1.2.1 1 = f 1 := txL_1d.trans iT_1d
/-- the row of a new object on either side -/
theorem Iv.new {f : Nat → Int32} (h0 : f 0 = nI 0) (h3 : f 3 = nI 0) (hs : ∀ c, c < 6 → f (10 + c) = nI 10) (ho : ∀ i, i < 10 → f (72 + i) = -1) : Iv f 0 :=
  ⟨⟨h0, by decide, fun k hk => absurd hk (Nat.not_lt_zero k)⟩, fun k hk => absurd hk (Nat.not_lt_zero k), fun c hc => ⟨10, by decide, hs c hc⟩, fun k hk => absurd hk (Nat.not_lt_zero k), ⟨fun k hk => absurd hk (Nat.not_lt_zero k), ⟨0, 0, h3, h3, by decide, by decide⟩⟩, fun k hk => absurd hk (Nat.not_lt_zero k), fun i hi => Or.inl (ho i hi)⟩
/-- findings: the sum follows -/
theorem rsum_upd {r : Nat → Int32} {k : Nat} {v : Int32} : ∀ {j : Nat}, j ≤ k → rsum (upd r k v) j = rsum r j
  | 0, _ => rfl
  | j + 1, h => by
    show rsum (upd r k v) j + upd r k v j = rsum r j + r j
    rw [rsum_upd (by omega), upd_ne (by omega)]
theorem rsum_cFi {r : Nat → Int32} {k : Nat} : ∀ {j : Nat}, k < j → rsum (cFi r k) j = rsum r j + nI 1
  | 0, h => absurd h (Nat.not_lt_zero k)
  | j + 1, h => by
    show rsum (upd r k (r k + nI 1)) j + upd r k (r k + nI 1) j = rsum r j + r j + nI 1
    by_cases e : k = j
    · subst e
      rw [rsum_upd (Nat.le_refl _), upd_at, Int32.add_assoc]
    · have ih : rsum (upd r k (r k + nI 1)) j = rsum r j + nI 1 := rsum_cFi (by omega)
      rw [ih, upd_ne (by omega), Int32.add_assoc, Int32.add_comm (nI 1) (r j), Int32.add_assoc]

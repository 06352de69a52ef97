/-! findings on both sides -/
def Fk (r s4 : Nat → Int32) : Prop := (∀ k, k < 7 → r k = s4 (k + 1)) ∧ s4 0 = rsum r 7
theorem Fk.fi {r s4 : Nat → Int32} {k : Nat} (h : Fk r s4) (hk : k < 7) : Fk (cFi r k) (mFi s4 k) := by
  refine ⟨fun j hj => ?_, ?_⟩
  · unfold cFi mFi
    by_cases e : j = k
    · subst e
      rw [upd_at, upd_at, upd_ne (by omega), h.1 j hj]
    · rw [upd_ne e, upd_ne (by omega), upd_ne (by omega)]
      exact h.1 j hj
  · rw [rsum_cFi hk, ← h.2]
    unfold mFi
    rw [upd_ne (by omega), upd_at]
theorem Fk.none {τ σ : Nat → Nat → Int32} {o : Option Nat} (h : Fk (τ 9) (σ 4)) : Fk (tgN τ o 9) (sgN σ o 4) := by
  cases o with
  | none => exact h.fi (by decide)
  | some b => exact h

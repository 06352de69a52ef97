/-! items of a text: whether it holds, the row behind it, where the token starts -/
def pN (b : Nat → Int32) (L : Nat) (f : Nat → Int32) (S pl mo : Nat) : Bool × (Nat → Int32) × Nat := if tK b L (nx b L S) = 2 ∧ tV b L (nx b L S) ≤ mo then (true, upd f pl (nI (tV b L (nx b L S))), nx b L (nx b L S)) else (false, f, nx b L S)
def pP (b : Nat → Int32) (L : Nat) (x : Bool × (Nat → Int32) × Nat) (ws : List Nat) (pl mo : Nat) : Bool × (Nat → Int32) × Nat := if x.1 = true ∧ wd b L x.2.2 ws = true then pN b L x.2.1 x.2.2 pl mo else x
def iR (b : Nat → Int32) (L : Nat) (f : Nat → Int32) (S row mo : Nat) : Bool × (Nat → Int32) × Nat := if tK b L (nx b L S) = 2 ∧ tV b L (nx b L S) ≤ 5 then pN b L f (nx b L S) (row + tV b L (nx b L S)) mo else (false, f, nx b L S)
def iC (b : Nat → Int32) (L : Nat) (f : Nat → Int32) (S n k : Nat) : Bool × (Nat → Int32) × Nat := if n = 8 then (false, f, S) else pP b L (pP b L (pP b L (pP b L (true, sAd f n (nI k) (nI 0), nx b L S) [105, 110] (16 + 7 * n + 1) 5) [112, 101, 97, 108] (16 + 7 * n + 2) 999) [112, 105, 116, 99, 104] (16 + 7 * n + 3) 11) [104, 111, 111, 112, 115] (16 + 7 * n + 4) 999
def iT (b : Nat → Int32) (L : Nat) (f : Nat → Int32) (S n : Nat) : Bool × (Nat → Int32) × Nat := match kdO b L S with
  | some k => iC b L f S n k
  | none => if wd b L S [115, 116, 111, 114, 109] = true then iR b L f S 10 99 else if wd b L S [102, 114, 111, 115, 116] = true then iR b L f S 4 9 else (false, f, S)
theorem pN_t {b : Nat → Int32} {L : Nat} {f : Nat → Int32} {S pl mo : Nat} (h : tK b L (nx b L S) = 2 ∧ tV b L (nx b L S) ≤ mo) : pN b L f S pl mo = (true, upd f pl (nI (tV b L (nx b L S))), nx b L (nx b L S)) := if_pos h
theorem pN_f {b : Nat → Int32} {L : Nat} {f : Nat → Int32} {S pl mo : Nat} (h : ¬ (tK b L (nx b L S) = 2 ∧ tV b L (nx b L S) ≤ mo)) : pN b L f S pl mo = (false, f, nx b L S) := if_neg h
theorem pP_w {b : Nat → Int32} {L : Nat} {f : Nat → Int32} {S pl mo : Nat} {ws : List Nat} (h : wd b L S ws = true) : pP b L (true, f, S) ws pl mo = pN b L f S pl mo := if_pos ⟨rfl, h⟩
theorem pP_n {b : Nat → Int32} {L : Nat} {f : Nat → Int32} {S pl mo : Nat} {ws : List Nat} (h : ¬ wd b L S ws = true) : pP b L (true, f, S) ws pl mo = (true, f, S) := if_neg (fun q => h q.2)
theorem pP_f {b : Nat → Int32} {L : Nat} {x : Bool × (Nat → Int32) × Nat} {pl mo : Nat} {ws : List Nat} (h : ¬ x.1 = true) : pP b L x ws pl mo = x := if_neg (fun q => h q.1)
theorem pN_le {b : Nat → Int32} {L : Nat} {f : Nat → Int32} {S pl mo : Nat} (h : S ≤ L) : (pN b L f S pl mo).2.2 ≤ L := by
  unfold pN
  split
  · exact nx_le (nx_le h)
  · exact nx_le h
theorem pP_le {b : Nat → Int32} {L : Nat} {x : Bool × (Nat → Int32) × Nat} {pl mo : Nat} {ws : List Nat} (h : x.2.2 ≤ L) : (pP b L x ws pl mo).2.2 ≤ L := by
  unfold pP
  split
  · exact pN_le h
  · exact h
theorem iR_le {b : Nat → Int32} {L : Nat} {f : Nat → Int32} {S row mo : Nat} (h : S ≤ L) : (iR b L f S row mo).2.2 ≤ L := by
  unfold iR
  split
  · exact pN_le (nx_le h)
  · exact nx_le h
theorem iC_le {b : Nat → Int32} {L : Nat} {f : Nat → Int32} {S n k : Nat} (h : S ≤ L) : (iC b L f S n k).2.2 ≤ L := by
  unfold iC
  split
  · exact h
  · exact pP_le (pP_le (pP_le (pP_le (nx_le h))))
theorem iT_le {b : Nat → Int32} {L : Nat} {f : Nat → Int32} {S n : Nat} (h : S ≤ L) : (iT b L f S n).2.2 ≤ L := by
  unfold iT
  split
  · exact iC_le h
  · split
    · exact iR_le h
    · split
      · exact iR_le h
      · exact h
/-- the reference behind such a step: where it fails, the fault is kept -/
def XS (σ : Nat → Nat → Int32) (L : Nat) (x : Bool × (Nat → Int32) × Nat) : Nat → Nat → Int32 := if x.1 = true then TS σ L x.2.2 else m9 (TS σ L x.2.2) 8 (nI x.2.2)
theorem XS_t {σ : Nat → Nat → Int32} {L : Nat} {x : Bool × (Nat → Int32) × Nat} (h : x.1 = true) : XS σ L x = TS σ L x.2.2 := if_pos h
theorem XS_f {σ : Nat → Nat → Int32} {L : Nat} {x : Bool × (Nat → Int32) × Nat} (h : ¬ x.1 = true) : XS σ L x = m9 (TS σ L x.2.2) 8 (nI x.2.2) := if_neg h

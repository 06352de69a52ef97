/-! words, and where the parser stands -/
def mtW (b : Nat → Int32) : Nat → List Nat → Bool
  | _, [] => true
  | i, c :: cs => decide (b i = nI c) && mtW b (i + 1) cs
def wd (b : Nat → Int32) (L s : Nat) (cs : List Nat) : Bool := decide (tK b L s = 1) && (decide (tE b L s = s + cs.length) && mtW b s cs)
def nx (b : Nat → Int32) (L s : Nat) : Nat := sS b L (tE b L s)
theorem nx_le {b : Nat → Int32} {L s : Nat} (h : s ≤ L) : nx b L s ≤ L := (sS_le (tE_le h).2).2
theorem tV_lt {b : Nat → Int32} {L s : Nat} : tV b L s ≤ 9999 := by
  unfold tV
  split
  · exact vlD_lt (by omega)
  · omega
theorem wd2_iff {b : Nat → Int32} {L s c0 c1 : Nat} : wd b L s [c0, c1] = true ↔ tK b L s = 1 ∧ tE b L s = s + 2 ∧ b s = nI c0 ∧ b (s + 1) = nI c1 := by simp [wd, mtW]
theorem wd4_iff {b : Nat → Int32} {L s c0 c1 c2 c3 : Nat} : wd b L s [c0, c1, c2, c3] = true ↔ tK b L s = 1 ∧ tE b L s = s + 4 ∧ b s = nI c0 ∧ b (s + 1) = nI c1 ∧ b (s + 2) = nI c2 ∧ b (s + 3) = nI c3 := by simp [wd, mtW]
theorem wd5_iff {b : Nat → Int32} {L s c0 c1 c2 c3 c4 : Nat} : wd b L s [c0, c1, c2, c3, c4] = true ↔ tK b L s = 1 ∧ tE b L s = s + 5 ∧ b s = nI c0 ∧ b (s + 1) = nI c1 ∧ b (s + 2) = nI c2 ∧ b (s + 3) = nI c3 ∧ b (s + 4) = nI c4 := by simp [wd, mtW]
theorem wd6_iff {b : Nat → Int32} {L s c0 c1 c2 c3 c4 c5 : Nat} : wd b L s [c0, c1, c2, c3, c4, c5] = true ↔ tK b L s = 1 ∧ tE b L s = s + 6 ∧ b s = nI c0 ∧ b (s + 1) = nI c1 ∧ b (s + 2) = nI c2 ∧ b (s + 3) = nI c3 ∧ b (s + 4) = nI c4 ∧ b (s + 5) = nI c5 := by simp [wd, mtW]
/-- the names of the kinds -/
def wK : Nat → List Nat
  | 0 => [99, 97, 115, 107]
  | 1 => [99, 114, 97, 99, 107]
  | 2 => [114, 111, 108, 108]
  | 3 => [109, 101, 108, 108, 111, 119]
  | 4 => [101, 99, 104, 111]
  | 5 => [104, 101, 97, 116]
  | _ => [102, 111, 114, 103, 101, 100]
def kdO (b : Nat → Int32) (L s : Nat) : Option Nat := fst1 (fun k => wd b L s (wK k)) 7 0
/-- the reference, with the token that starts at S -/
def TS (σ : Nat → Nat → Int32) (L S : Nat) : Nat → Nat → Int32 := TK σ (nI (tK (σ 5) L S)) (nI S) (nI (tE (σ 5) L S)) (nI (tV (σ 5) L S))

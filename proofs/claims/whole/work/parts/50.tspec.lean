/-! texts: tokens, told by where they start -/
abbrev isL (c : Int32) : Prop := nI 97 ≤ c ∧ c ≤ nI 122
abbrev isD (c : Int32) : Prop := nI 48 ≤ c ∧ c ≤ nI 57
def skp (b : Nat → Int32) : Nat → Nat → Nat
  | 0, i => i
  | m + 1, i => if b i = nI 32 then skp b m (i + 1) else i
def rnL (b : Nat → Int32) : Nat → Nat → Nat
  | 0, i => i
  | m + 1, i => if isL (b i) then rnL b m (i + 1) else i
def rnD (b : Nat → Int32) : Nat → Nat → Nat
  | 0, i => i
  | m + 1, i => if isD (b i) then rnD b m (i + 1) else i
def dgt (c : Int32) : Nat := c.toNatClampNeg - 48
/-- the value, held where it is above 999 -/
def vlD (b : Nat → Int32) : Nat → Nat → Nat → Nat
  | 0, _, v => v
  | m + 1, i, v => if isD (b i) then vlD b m (i + 1) (if 999 < v then v else 10 * v + dgt (b i)) else v
def sS (b : Nat → Int32) (L e : Nat) : Nat := skp b (L - e) e
def tK (b : Nat → Int32) (L s : Nat) : Nat := if L ≤ s then 0 else if isL (b s) then 1 else if isD (b s) then 2 else if b s = nI 59 then 3 else 4
def tE (b : Nat → Int32) (L s : Nat) : Nat := if tK b L s = 0 then s else if tK b L s = 1 then rnL b (L - s) s else if tK b L s = 2 then rnD b (L - s) s else s + 1
def tV (b : Nat → Int32) (L s : Nat) : Nat := if tK b L s = 2 then vlD b (L - s) s 0 else 0
def By (b : Nat → Int32) (L : Nat) : Prop := ∀ i, i < L → ∃ x, x ≤ 255 ∧ b i = nI x
theorem skp_1 {b : Nat → Int32} {m i : Nat} (h : b i = nI 32) : skp b (m + 1) i = skp b m (i + 1) := if_pos h
theorem skp_0 {b : Nat → Int32} {m i : Nat} (h : ¬ b i = nI 32) : skp b (m + 1) i = i := if_neg h
theorem rnL_1 {b : Nat → Int32} {m i : Nat} (h : isL (b i)) : rnL b (m + 1) i = rnL b m (i + 1) := if_pos h
theorem rnL_0 {b : Nat → Int32} {m i : Nat} (h : ¬ isL (b i)) : rnL b (m + 1) i = i := if_neg h
theorem rnD_1 {b : Nat → Int32} {m i : Nat} (h : isD (b i)) : rnD b (m + 1) i = rnD b m (i + 1) := if_pos h
theorem rnD_0 {b : Nat → Int32} {m i : Nat} (h : ¬ isD (b i)) : rnD b (m + 1) i = i := if_neg h
theorem vlD_1 {b : Nat → Int32} {m i v : Nat} (h : isD (b i)) : vlD b (m + 1) i v = vlD b m (i + 1) (if 999 < v then v else 10 * v + dgt (b i)) := if_pos h
theorem vlD_0 {b : Nat → Int32} {m i v : Nat} (h : ¬ isD (b i)) : vlD b (m + 1) i v = v := if_neg h
theorem skp_le {b : Nat → Int32} : ∀ {m i : Nat}, i ≤ skp b m i ∧ skp b m i ≤ i + m
  | 0, i => ⟨Nat.le_refl i, Nat.le_refl i⟩
  | m + 1, i => by
    by_cases c : b i = nI 32
    · rw [skp_1 c]
      have := skp_le (b := b) (m := m) (i := i + 1)
      omega
    · rw [skp_0 c]
      omega
theorem rnL_le {b : Nat → Int32} : ∀ {m i : Nat}, i ≤ rnL b m i ∧ rnL b m i ≤ i + m
  | 0, i => ⟨Nat.le_refl i, Nat.le_refl i⟩
  | m + 1, i => by
    by_cases c : isL (b i)
    · rw [rnL_1 c]
      have := rnL_le (b := b) (m := m) (i := i + 1)
      omega
    · rw [rnL_0 c]
      omega
theorem rnD_le {b : Nat → Int32} : ∀ {m i : Nat}, i ≤ rnD b m i ∧ rnD b m i ≤ i + m
  | 0, i => ⟨Nat.le_refl i, Nat.le_refl i⟩
  | m + 1, i => by
    by_cases c : isD (b i)
    · rw [rnD_1 c]
      have := rnD_le (b := b) (m := m) (i := i + 1)
      omega
    · rw [rnD_0 c]
      omega
theorem sS_le {b : Nat → Int32} {L e : Nat} (h : e ≤ L) : e ≤ sS b L e ∧ sS b L e ≤ L := by
  have := skp_le (b := b) (m := L - e) (i := e)
  unfold sS
  omega
theorem tE_le {b : Nat → Int32} {L s : Nat} (h : s ≤ L) : s ≤ tE b L s ∧ tE b L s ≤ L := by
  have h1 := rnL_le (b := b) (m := L - s) (i := s)
  have h2 := rnD_le (b := b) (m := L - s) (i := s)
  unfold tE
  split
  · omega
  · split
    · omega
    · split
      · omega
      · have : ¬ L ≤ s := fun q => by
          have e : tK b L s = 0 := if_pos q
          omega
        omega
theorem dgt_eq {c : Int32} (h : isD c) : ∃ x, x ≤ 9 ∧ c = nI (48 + x) ∧ dgt c = x := by
  obtain ⟨h1, h2⟩ := h
  obtain ⟨j, hj, rfl⟩ := rg_nat (a := 57) ⟨by
    rw [Int32.le_iff_toInt_le, nI_toInt (by omega)] at h1
    rw [Int32.le_iff_toInt_le, nI_toInt (by omega)]
    omega, h2⟩ (by decide)
  have := (nI_leI (by omega) (by omega)).mp h1
  refine ⟨j - 48, by omega, by rw [show 48 + (j - 48) = j by omega], ?_⟩
  unfold dgt
  rw [nI_clamp (by omega)]
theorem vlD_lt {b : Nat → Int32} : ∀ {m i v : Nat}, v ≤ 9999 → vlD b m i v ≤ 9999
  | 0, _, _, h => h
  | m + 1, i, v, h => by
    by_cases c : isD (b i)
    · rw [vlD_1 c]
      obtain ⟨x, hx, -, e⟩ := dgt_eq c
      refine vlD_lt ?_
      split
      · exact h
      · omega
    · rw [vlD_0 c]
      exact h
/-- the reference's token fields -/
def tkR (r : Nat → Int32) (k s e v : Int32) : Nat → Int32 := fun i => if i = 4 then k else if i = 5 then s else if i = 6 then e else if i = 7 then v else r i
def TK (σ : Nat → Nat → Int32) (k s e v : Int32) : Nat → Nat → Int32 := va_up σ 9 (tkR (σ 9) k s e v)
theorem m9_tk {σ : Nat → Nat → Int32} {r r2 : Nat → Int32} {i : Nat} {x : Int32} (h : upd r i x = r2) : m9 (va_up σ 9 r) i x = va_up σ 9 r2 := by
  subst h
  exact bx_uu _ _ _ _
theorem TK_4 {σ : Nat → Nat → Int32} {k s e v x : Int32} : m9 (TK σ k s e v) 4 x = TK σ x s e v := m9_tk (by
  funext i
  unfold upd tkR
  by_cases h : i = 4
  · rw [if_pos h, if_pos h]
  · rw [if_neg h, if_neg h, if_neg h])
theorem TK_5 {σ : Nat → Nat → Int32} {k s e v x : Int32} : m9 (TK σ k s e v) 5 x = TK σ k x e v := m9_tk (by
  funext i
  unfold upd tkR
  by_cases h : i = 5
  · subst h; rfl
  · rw [if_neg h, if_neg h, if_neg h])
theorem TK_6 {σ : Nat → Nat → Int32} {k s e v x : Int32} : m9 (TK σ k s e v) 6 x = TK σ k s x v := m9_tk (by
  funext i
  unfold upd tkR
  by_cases h : i = 6
  · subst h; rfl
  · rw [if_neg h, if_neg h, if_neg h])
theorem TK_7 {σ : Nat → Nat → Int32} {k s e v x : Int32} : m9 (TK σ k s e v) 7 x = TK σ k s e x := m9_tk (by
  funext i
  unfold upd tkR
  by_cases h : i = 7
  · subst h; rfl
  · rw [if_neg h, if_neg h, if_neg h])
theorem tK_lt {b : Nat → Int32} {L s : Nat} : tK b L s ≤ 4 := by
  unfold tK
  split
  · omega
  · split
    · omega
    · split
      · omega
      · split <;> omega

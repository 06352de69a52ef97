/-! numbers that stay within their bounds -/
def Pk (f : Nat → Int32) (n : Nat) : Prop := ∀ k, k < n → ∃ p, p ≤ 999 ∧ fi f k 2 = nI p
def Sk (f : Nat → Int32) : Prop := ∀ c, c < 6 → ∃ x, x ≤ 99 ∧ f (10 + c) = nI x
theorem Sk.kl {f g : Nat → Int32} (h : Sk f) (k : Kl f g) : Sk g := fun c hc => by
  obtain ⟨x, h1, h2⟩ := h c hc
  exact ⟨x, h1, (k.lo (by omega) (by omega)).trans h2⟩
theorem fi_fu_same {f : Nat → Int32} {k w : Nat} {v : Int32} : fi (fu f k w v) k w = v := upd_at
theorem fi_fu_ne {f : Nat → Int32} {k w k2 w2 : Nat} {v : Int32} (hw : w < 7) (hw2 : w2 < 7) (h : ¬ (k2 = k ∧ w2 = w)) : fi (fu f k w v) k2 w2 = fi f k2 w2 := upd_ne (by
  intro e
  exact h (by omega))
theorem iMin_nI {a b : Nat} (ha : a < 2147483648) (hb : b < 2147483648) : iMin (nI a) (nI b) = nI (min a b) := by
  unfold iMin
  by_cases h : b < a
  · rw [if_pos ((nI_ltI hb ha).mpr h), Nat.min_eq_right (by omega)]
  · rw [if_neg (fun q => h ((nI_ltI hb ha).mp q)), Nat.min_eq_left (by omega)]
theorem iMax0_sub : ∀ p l : Nat, p ≤ 999 → l ≤ 5 → iMax (nI 0) (nI p - nI l) = nI (p - l) := fun p l hp hl => by
  by_cases h : l ≤ p
  · rw [pk_sub h]
    unfold iMax
    by_cases h2 : 0 < p - l
    · rw [if_pos ((nI_ltI (by decide) (by omega)).mpr h2)]
    · rw [if_neg (fun q => h2 ((nI_ltI (by decide) (by omega)).mp q)), show p - l = 0 by omega]
  · have h3 : nI p - nI l < nI 0 := pk_sneg (by omega) (by omega)
    unfold iMax
    rw [if_neg (fun q => by
      rw [Int32.lt_iff_toInt_lt] at q h3
      omega), show p - l = 0 by omega]
theorem sLk_le (f : Nat → Int32) (k : Nat) : ∃ l, l ≤ 5 ∧ sLk f k = nI l := by
  unfold sLk
  split
  · exact ⟨3, by decide, rfl⟩
  split
  · exact ⟨1, by decide, rfl⟩
  split
  · exact ⟨0, by decide, rfl⟩
  split
  · exact ⟨0, by decide, rfl⟩
  split
  · exact ⟨5, by decide, rfl⟩
  split
  · exact ⟨5, by decide, rfl⟩
  · exact ⟨1, by decide, rfl⟩
theorem Pk.fu {f : Nat → Int32} {n k : Nat} {v : Int32} (h : Pk f n) (hv : ∃ p, p ≤ 999 ∧ v = nI p) : Pk (Jvm.Pilot.@@N@@.fu f k 2 v) n := fun j hj => by
  by_cases e : j = k
  · subst e
    obtain ⟨p, h1, h2⟩ := hv
    exact ⟨p, h1, fi_fu_same.trans h2⟩
  · obtain ⟨p, h1, h2⟩ := h j hj
    exact ⟨p, h1, (fi_fu_ne (by decide) (by decide) (by omega)).trans h2⟩
theorem Pk.fw {f : Nat → Int32} {n k w : Nat} {v : Int32} (h : Pk f n) (hw : w < 7) (h2 : w ≠ 2) : Pk (Jvm.Pilot.@@N@@.fu f k w v) n := fun j hj => by
  obtain ⟨p, h1, h3⟩ := h j hj
  exact ⟨p, h1, (fi_fu_ne hw (by decide) (by omega)).trans h3⟩
theorem Pk.up {f : Nat → Int32} {n i : Nat} {v : Int32} (h : Pk f n) (hi : i < 16) : Pk (upd f i v) n := fun j hj => by
  obtain ⟨p, h1, h3⟩ := h j hj
  exact ⟨p, h1, (upd_ne (by omega)).trans h3⟩
theorem Pk.mo {f : Nat → Int32} {n k : Nat} {x : Nat} (h : Pk f n) (hk : k < n) (hx : x ≤ 999) : Pk (sMo f k (nI x)) n := by
  obtain ⟨p, h1, h2⟩ := h k hk
  refine h.fu ⟨min 999 (p + x), Nat.min_le_left _ _, ?_⟩
  rw [h2, nI_add, iMin_nI (by decide) (by omega)]
theorem Pk.so {f : Nat → Int32} {n d : Nat} (h : Pk f n) (hs : Sk f) (hd : f 1 = nI d) (hd2 : d < 2147483648) : Pk (sSo f n) n := by
  cases hE : sEm f (nI (d % 6)) n with
  | none =>
    rw [sSo_n hd hd2 hE]
    exact h
  | some b =>
    rw [sSo_s hd hd2 hE]
    obtain ⟨x, h1, h2⟩ := hs (d % 6) (by omega)
    rw [h2]
    exact h.mo (sEm_lt hE) (by omega)
theorem Pk.l1 {f : Nat → Int32} {n j : Nat} (h : Pk f n) (hj : j < n) : Pk (sL1 f j) n := by
  obtain ⟨p, h1, h2⟩ := h j hj
  obtain ⟨l, h3, h4⟩ := sLk_le f j
  refine h.fu ⟨p - l, by omega, ?_⟩
  rw [h2, h4, iMax0_sub p l h1 h3]
theorem Pk.ll {f : Nat → Int32} {n : Nat} (h : Pk f n) : ∀ {j : Nat}, j ≤ n → Pk (sLl f j) n
  | 0, _ => h
  | j + 1, hj => ((Pk.ll h (j := j) (by omega)).l1 (by omega)).fw (w := 5) (by decide) (by decide)
theorem Pk.c1 {f : Nat → Int32} {n a b : Nat} (h : Pk f n) (ha : a < n) (hb : b < n) (hab : a < b) : Pk (sC1 f a b (iMin (fi f a 2) (fi f b 2))) n := by
  obtain ⟨p, h1, h2⟩ := h a ha
  obtain ⟨q, h3, h4⟩ := h b hb
  have e : iMin (fi f a 2) (fi f b 2) = nI (min p q) := by rw [h2, h4, iMin_nI (by omega) (by omega)]
  rw [e]
  have h5 : Pk (Jvm.Pilot.@@N@@.fu f a 2 (fi f a 2 - nI (min p q))) n := h.fu ⟨p - min p q, by omega, by rw [h2, pk_sub (by omega)]⟩
  refine h5.fu ⟨q - min p q, by omega, ?_⟩
  rw [fi_fu_ne (by decide) (by decide) (by omega), h4, pk_sub (by omega)]
theorem Pk.ca {f : Nat → Int32} {n a b : Nat} (h : Pk f n) (ha : a < n) (hb : b < n) (hab : a < b) : Pk (sCa f a b) n := by
  unfold sCa
  split
  · exact h.c1 ha hb hab
  · exact h
theorem Pk.ci {f : Nat → Int32} {n a : Nat} (h : Pk f n) : ∀ {i : Nat}, a + 1 + i ≤ n → Pk (sCi f a i) n
  | 0, _ => h
  | i + 1, hi => (Pk.ci h (i := i) (by omega)).ca (by omega) (by omega) (by omega)
theorem Pk.co {f : Nat → Int32} {n : Nat} (h : Pk f n) : ∀ {a : Nat}, a ≤ n → Pk (sCo f n a) n
  | 0, _ => h
  | a + 1, ha => (Pk.co h (a := a) (by omega)).ci (by omega)
theorem Pk.bl {f : Nat → Int32} {n k x : Nat} (h : Pk f n) (hx : x ≤ 999) : ∀ {j : Nat}, j ≤ n → Pk (sBl f k (nI x) j) n
  | 0, _ => h
  | j + 1, hj => by
    unfold sBl
    split
    · exact (Pk.bl h hx (j := j) (by omega)).mo (by omega) hx
    · exact Pk.bl h hx (by omega)
theorem Pk.bu {f : Nat → Int32} {n k : Nat} (h : Pk f n) (hk : k < n) : Pk (sBu f n k) n := by
  obtain ⟨p, h1, h2⟩ := h k hk
  have e : fi f k 2 / nI 2 = nI (p / 2) := by rw [h2, pk_div (by omega) (by decide) (by decide)]
  unfold sBu sBc sEy
  rw [e]
  exact ((((h.bl (x := p / 2) (by omega) (Nat.le_refl n)).fu ⟨0, by decide, rfl⟩).fw (w := 5) (by decide) (by decide)).fw (w := 6) (by decide) (by decide)).up (by decide)
theorem Pk.bs {n : Nat} : ∀ {m : Nat} {f : Nat → Int32}, Pk f n → Pk (sBs n m f) n
  | 0, _, h => h
  | m + 1, f, h => by
    cases hE : sFt f n n 0 with
    | none => rw [sBs_n hE]; exact h
    | some k =>
      rw [sBs_s hE]
      exact Pk.bs (h.bu (by have := (sFt_lt hE).1; omega))
theorem Pk.da {f : Nat → Int32} {n d : Nat} (h : Pk f n) (hs : Sk f) (hd : f 1 = nI d) (hd2 : d < 2147483648) : Pk (sDa f n) n := (((h.so hs hd hd2).ll (Nat.le_refl n)).co (Nat.le_refl n)).bs
theorem Pk.dy {f : Nat → Int32} {n d : Nat} (h : Pk f n) (hs : Sk f) (hd : f 1 = nI d) (hd2 : d < 2147483648) : Pk (sDy f n) n := (h.da hs hd hd2).up (by decide)
theorem Pk.go {f : Nat → Int32} {n d : Nat} (h8 : n ≤ 8) (h : Pk f n) (hs : Sk f) (hd : f 1 = nI d) : ∀ {t : Nat}, d + t < 2147483648 → Pk (sGo f n t) n
  | 0, _ => h
  | t + 1, ht => (Pk.go h8 h hs hd (t := t) (by omega)).dy (hs.kl (sGo_kl h8)) (sGo_1 h8 hd) (by omega)
/-- a cask that is empty cancels nothing -/
theorem sCa_e {f : Nat → Int32} {n a b : Nat} (h : Pk f n) (hb : b < n) (h0 : fi f a 2 = nI 0) : sCa f a b = f := by
  unfold sCa
  split
  · obtain ⟨q, h3, h4⟩ := h b hb
    have e : iMin (fi f a 2) (fi f b 2) = nI 0 := by rw [h0, h4, iMin_nI (by decide) (by omega), Nat.zero_min]
    unfold sC1
    rw [e]
    have e1 : ∀ (g : Nat → Int32) (k : Nat), fu g k 2 (fi g k 2 - nI 0) = g := fun g k => by
      funext i
      unfold fu upd
      by_cases q : i = 16 + 7 * k + 2
      · rw [if_pos q, q]
        show fi g k 2 - nI 0 = fi g k 2
        exact Int32.sub_zero _
      · rw [if_neg q]
    rw [e1, e1]
  · rfl
theorem sCi_stop {f : Nat → Int32} {n a i : Nat} (h : Pk f n) (h0 : fi (sCi f a i) a 2 = nI 0) : ∀ {m : Nat}, a + 1 + i + m ≤ n → sCi f a (i + m) = sCi f a i
  | 0, _ => rfl
  | m + 1, hm => by
    have ih := sCi_stop h h0 (m := m) (by omega)
    show sCa (sCi f a (i + m)) a (a + 1 + (i + m)) = sCi f a i
    rw [ih]
    exact sCa_e (h.ci (by omega)) (by omega) h0
theorem sCi_0 {f : Nat → Int32} {a i : Nat} (h : ¬ (fi (sCi f a i) a 1 = fi (sCi f a i) (a + 1 + i) 1 ∧ fi (sCi f a i) a 3 = fi (sCi f a i) (a + 1 + i) 3)) : sCi f a (i + 1) = sCi f a i := if_neg h
theorem sCi_1 {f : Nat → Int32} {a i : Nat} (h : fi (sCi f a i) a 1 = fi (sCi f a i) (a + 1 + i) 1 ∧ fi (sCi f a i) a 3 = fi (sCi f a i) (a + 1 + i) 3) : sCi f a (i + 1) = sC1 (sCi f a i) a (a + 1 + i) (iMin (fi (sCi f a i) a 2) (fi (sCi f a i) (a + 1 + i) 2)) := if_pos h
/-! bits -/
theorem nI_shr {s k : Nat} (hs : s < 2147483648) (hk : k < 31) : nI s >>> (nI k &&& 31) = nI (s / 2 ^ k) := pk_shrN hs _ k (by
  have : ∀ k, k < 31 → ((nI k &&& 31).toBitVec.smod 32).toNat = k := by decide +kernel
  exact this k hk)
theorem nI_and1 {s : Nat} (hs : s < 2147483648) : nI s &&& nI 1 = nI (s % 2) := pk_andN (by omega) 1 rfl
theorem nI_shlE {h : Nat} (hh : h < 31) : nI 1 <<< (nI h &&& 31) = nI (2 ^ h) := nI_shl1 h hh
/-! sums, blends and sets over the casks -/
def sSm (f : Nat → Int32) (w : Nat) : Nat → Int32
  | 0 => nI 0
  | j + 1 => sSm f w j + fi f j w
def sSl (f : Nat → Int32) (n : Nat) : Nat → Int32
  | 0 => nI 0
  | j + 1 => sSl f n j + sLd f n j
/-- the blend of the casks of set s among the first j -/
def sBn (f : Nat → Int32) (n s : Nat) : Nat → Int32
  | 0 => nI 0
  | j + 1 => if s / 2 ^ j % 2 = 1 then sBn f n s j + sLd f n j else sBn f n s j
def sSt (f : Nat → Int32) (n : Nat) : Nat → Nat
  | 0 => 0
  | j + 1 => if sBr f j < sLd f n j then sSt f n j ||| 2 ^ j else sSt f n j
def sUs (f : Nat → Int32) : Nat → Nat
  | 0 => 0
  | j + 1 => sUs f j ||| 2 ^ (fi f j 1).toNatClampNeg
/-- the loudest of the first j -/
def sLo (f : Nat → Int32) (n : Nat) : Nat → Option Nat
  | 0 => none
  | j + 1 => match sLo f n j with
    | none => some j
    | some b => if sLd f n b < sLd f n j then some j else some b
def sSp (f : Nat → Int32) : Nat → Nat
  | 0 => 0
  | j + 1 => if f (72 + j) < 0 then sSp f j else sSp f j + 1
def sMe (f : Nat → Int32) (s : Nat) : Nat → (Nat → Int32)
  | 0 => f
  | j + 1 => if s / 2 ^ j % 2 = 1 then sEy (sMe f s j) j else sMe f s j
theorem sMe_kp {f : Nat → Int32} {s : Nat} : ∀ {j : Nat}, j ≤ 8 → Kp f (sMe f s j)
  | 0, _ => Kp.rf
  | j + 1, h => by
    unfold sMe
    split
    · exact (sMe_kp (j := j) (by omega)).tr (sEy_kp (by omega))
    · exact sMe_kp (by omega)
theorem sSt_lt {f : Nat → Int32} {n : Nat} : ∀ {j : Nat}, j ≤ 8 → sSt f n j < 2 ^ j
  | 0, _ => by simp [sSt]
  | j + 1, h => by
    have ih := sSt_lt (f := f) (n := n) (j := j) (by omega)
    unfold sSt
    split
    · exact (popc_add j (by omega) _ ih).2
    · exact Nat.lt_of_lt_of_le ih (Nat.pow_le_pow_right (by decide) (by omega))
theorem or_lt_64 {a b : Nat} (ha : a < 64) (hb : b < 64) : a ||| b < 64 := Nat.or_lt_two_pow (n := 6) ha hb
theorem sUs_lt {f : Nat → Int32} {n : Nat} (hw : Wk f n) : ∀ {j : Nat}, j ≤ n → sUs f j < 64
  | 0, _ => by simp [sUs]
  | j + 1, h => by
    obtain ⟨q, h1, h2⟩ := hw.2.2 j (by omega)
    show sUs f j ||| 2 ^ (fi f j 1).toNatClampNeg < 64
    rw [h2, nI_clamp (by omega)]
    exact or_lt_64 (sUs_lt hw (by omega)) (Nat.pow_lt_pow_right (n := 6) (by decide) h1)
theorem sLo_lt {f : Nat → Int32} {n : Nat} : ∀ {j b : Nat}, sLo f n j = some b → b < j
  | 0, b, h => by simp [sLo] at h
  | j + 1, b, h => by
    unfold sLo at h
    cases hE : sLo f n j with
    | none =>
      simp only [hE] at h
      cases h; omega
    | some q =>
      have := sLo_lt hE
      simp only [hE] at h
      split at h
      · cases h; omega
      · cases h; omega
theorem sSp_le {f : Nat → Int32} : ∀ {j : Nat}, sSp f j ≤ j
  | 0 => Nat.le_refl 0
  | j + 1 => by
    have := sSp_le (f := f) (j := j)
    unfold sSp
    split <;> omega

/-! searches, counts and sets: what the asking calls answer -/
def fst1 (p : Nat → Bool) : Nat → Nat → Option Nat
  | 0, _ => none
  | m + 1, t => if p t = true then some t else fst1 p m (t + 1)
theorem fst1_hit {p : Nat → Bool} {m t : Nat} (h : p t = true) : fst1 p (m + 1) t = some t := if_pos h
theorem fst1_go {p : Nat → Bool} {m t : Nat} (h : ¬ p t = true) : fst1 p (m + 1) t = fst1 p m (t + 1) := if_neg h
theorem fst1_lt {p : Nat → Bool} : ∀ {m t b : Nat}, fst1 p m t = some b → t ≤ b ∧ b < t + m
  | 0, t, b, h => by simp [fst1] at h
  | m + 1, t, b, h => by
    by_cases c : p t = true
    · rw [fst1_hit c] at h
      cases h
      omega
    · rw [fst1_go c] at h
      have := fst1_lt h
      omega
theorem fst1_congr {p q : Nat → Bool} : ∀ {m t : Nat}, (∀ i, t ≤ i → i < t + m → p i = q i) → fst1 p m t = fst1 q m t
  | 0, _, _ => rfl
  | m + 1, t, h => by
    have h0 := h t (Nat.le_refl t) (by omega)
    have ih := fst1_congr (p := p) (q := q) (m := m) (t := t + 1) (fun i h1 h2 => h i (by omega) (by omega))
    unfold fst1
    rw [h0, ih]
/-- from v - 1 down -/
def fsD (p : Nat → Bool) : Nat → Option Nat
  | 0 => none
  | v + 1 => if p v = true then some v else fsD p v
theorem fsD_hit {p : Nat → Bool} {v : Nat} (h : p v = true) : fsD p (v + 1) = some v := if_pos h
theorem fsD_go {p : Nat → Bool} {v : Nat} (h : ¬ p v = true) : fsD p (v + 1) = fsD p v := if_neg h
def aN (o : Option Nat) : Int32 := match o with
  | none => -1000004
  | some b => nI b
def sgN (σ : Nat → Nat → Int32) (o : Option Nat) : Nat → Nat → Int32 := match o with
  | none => va_up σ 4 (mFi (σ 4) 3)
  | some _ => σ
def oBu (f : Nat → Int32) (n k : Nat) : Option Nat := fst1 (fun t => decide (¬ fi (sGo f n t) k 6 = fi f k 6)) 101 0
def oWh (f : Nat → Int32) (n k : Nat) (v : Int32) : Option Nat := fst1 (fun t => decide (v ≤ sLd (sGo f n t) n k)) 101 0
def sCh (f g : Nat → Int32) : Nat → Nat
  | 0 => 0
  | j + 1 => if fi f j 6 < fi g j 6 then sCh f g j ||| 2 ^ j else sCh f g j
theorem sCh_lt {f g : Nat → Int32} : ∀ {j : Nat}, j ≤ 8 → sCh f g j < 2 ^ j
  | 0, _ => by simp [sCh]
  | j + 1, h => by
    have ih := sCh_lt (f := f) (g := g) (j := j) (by omega)
    unfold sCh
    split
    · exact (popc_add j (by omega) _ ih).2
    · exact Nat.lt_of_lt_of_le ih (Nat.pow_le_pow_right (by decide) (by omega))
/-- the value with which cask k is loudest: the best of the first v, and how loud -/
def lbP (f : Nat → Int32) (n k w t : Nat) : Nat → Nat × Int32
  | 0 => (0, -1)
  | v + 1 => if (lbP f n k w t v).2 < sLd (sGo (fu f k w (nI v)) n t) n k then (v, sLd (sGo (fu f k w (nI v)) n t) n k) else lbP f n k w t v
def lbS (f : Nat → Int32) (k w : Nat) (v : Nat) : Nat → Int32 := match v with
  | 0 => f
  | u + 1 => fu f k w (nI u)
def lbT (σ : Nat → Nat → Int32) (f : Nat → Int32) (k w : Nat) (v : Nat) : Nat → Nat → Int32 := match v with
  | 0 => σ
  | u + 1 => va_up σ 3 (fu f k w (nI u))
theorem upd_upd {f : Nat → Int32} {i : Nat} {x y : Int32} : upd (upd f i x) i y = upd f i y := by
  funext j
  unfold upd
  by_cases e : j = i
  · simp [e]
  · simp [e]
theorem upd_self {f : Nat → Int32} {i : Nat} : upd f i (f i) = f := by
  funext j
  unfold upd
  by_cases e : j = i
  · simp [e]
  · simp [e]
theorem fu_self {f : Nat → Int32} {k w : Nat} : fu f k w (fi f k w) = f := upd_self
theorem lbS_fu {f : Nat → Int32} {k w v : Nat} {x : Int32} : fu (lbS f k w v) k w x = fu f k w x := by
  cases v
  · rfl
  · exact upd_upd
theorem lbT_up {σ : Nat → Nat → Int32} {f : Nat → Int32} {k w v : Nat} {y : Nat → Int32} : va_up (lbT σ f k w v) 3 y = va_up σ 3 y := by
  cases v
  · rfl
  · exact bx_uu _ _ _ _
theorem Wk.fuw {f : Nat → Int32} {n k w : Nat} {x : Int32} (hw : Wk f n) (h : w < 7) (h1 : w ≠ 1) : Wk (fu f k w x) n := ⟨(upd_ne (by omega)).trans hw.1, hw.2.1, fun j hj => by
  obtain ⟨q, h2, h3⟩ := hw.2.2 j hj
  exact ⟨q, h2, (fi_fu_ne h (by decide) (by omega)).trans h3⟩⟩
theorem Wk.fu1 {f : Nat → Int32} {n k v : Nat} (hw : Wk f n) (h : v < 6) : Wk (fu f k 1 (nI v)) n := ⟨(upd_ne (by omega)).trans hw.1, hw.2.1, fun j hj => by
  by_cases e : j = k
  · subst e
    exact ⟨v, h, fi_fu_same⟩
  · obtain ⟨q, h2, h3⟩ := hw.2.2 j hj
    exact ⟨q, h2, (fi_fu_ne (by decide) (by decide) (by omega)).trans h3⟩⟩
theorem Wk.up {f : Nat → Int32} {n i : Nat} {x : Int32} (hw : Wk f n) (h : 1 ≤ i) (h2 : i < 16 ∨ 72 ≤ i) : Wk (upd f i x) n := ⟨(upd_ne (by omega)).trans hw.1, hw.2.1, fun j hj => by
  obtain ⟨q, h3, h4⟩ := hw.2.2 j hj
  have := hw.2.1
  exact ⟨q, h3, (upd_ne (by omega)).trans h4⟩⟩
def oHo (f : Nat → Int32) (n k t : Nat) : Option Nat := fst1 (fun v => decide (fi (sGo (fu f k 4 (nI v)) n t) k 6 = fi f k 6)) 201 0
/-- how many were tried by the end -/
def hoL (o : Option Nat) : Nat := match o with
  | none => 201
  | some u => u + 1
def oFr (f : Nat → Int32) (n ce t : Nat) : Option Nat := fsD (fun v => decide (sGo (upd f (4 + ce) (nI v)) n t 3 = f 3)) 10
def frL (o : Option Nat) : Nat := match o with
  | none => 0
  | some u => u
def frS (f : Nat → Int32) (ce u : Nat) : Nat → Int32 := if u = 10 then f else upd f (4 + ce) (nI u)
def frT (σ : Nat → Nat → Int32) (f : Nat → Int32) (ce u : Nat) : Nat → Nat → Int32 := if u = 10 then σ else va_up σ 3 (upd f (4 + ce) (nI u))
theorem frS_up {f : Nat → Int32} {ce u : Nat} {x : Int32} : upd (frS f ce u) (4 + ce) x = upd f (4 + ce) x := by
  unfold frS
  split
  · rfl
  · exact upd_upd
theorem frT_up {σ : Nat → Nat → Int32} {f : Nat → Int32} {ce u : Nat} {y : Nat → Int32} : va_up (frT σ f ce u) 3 y = va_up σ 3 y := by
  unfold frT
  split
  · rfl
  · exact bx_uu _ _ _ _
/-- the set of fewest members, of several the least, among the sets below j -/
def sEs (p : Nat → Bool) : Nat → Option Nat
  | 0 => none
  | j + 1 => match sEs p j with
    | none => if p j = true then some j else none
    | some b => if popc j < popc b ∧ p j = true then some j else some b
theorem sEs_lt {p : Nat → Bool} : ∀ {j b : Nat}, sEs p j = some b → b < j
  | 0, b, h => by simp [sEs] at h
  | j + 1, b, h => by
    unfold sEs at h
    cases hE : sEs p j with
    | none =>
      simp only [hE] at h
      split at h
      · cases h; omega
      · cases h
    | some q =>
      have := sEs_lt hE
      simp only [hE] at h
      split at h
      · cases h; omega
      · cases h; omega
theorem sEs_n1 {p : Nat → Bool} {j : Nat} (hE : sEs p j = none) (h : p j = true) : sEs p (j + 1) = some j := by simp only [sEs, hE, if_pos h]
theorem sEs_n0 {p : Nat → Bool} {j : Nat} (hE : sEs p j = none) (h : ¬ p j = true) : sEs p (j + 1) = none := by simp only [sEs, hE, if_neg h]
theorem sEs_s1 {p : Nat → Bool} {j b : Nat} (hE : sEs p j = some b) (h1 : popc j < popc b) (h : p j = true) : sEs p (j + 1) = some j := by simp only [sEs, hE, if_pos (And.intro h1 h)]
theorem sEs_s0 {p : Nat → Bool} {j b : Nat} (hE : sEs p j = some b) (h : ¬ (popc j < popc b ∧ p j = true)) : sEs p (j + 1) = some b := by simp only [sEs, hE, if_neg h]
def oEm (f : Nat → Int32) (n t : Nat) : Option Nat := sEs (fun s => decide (sGo (sMe f s n) n t 3 = f 3)) (2 ^ n)
def oOr (f : Nat → Int32) (n : Nat) (v : Int32) : Option Nat := sEs (fun s => decide (sBn f n s n = v)) (2 ^ n)
def sCt (p : Nat → Bool) : Nat → Nat
  | 0 => 0
  | j + 1 => if p j = true then sCt p j + 1 else sCt p j
theorem sCt_le {p : Nat → Bool} : ∀ {j : Nat}, sCt p j ≤ j
  | 0 => Nat.le_refl 0
  | j + 1 => by
    have := sCt_le (p := p) (j := j)
    unfold sCt
    split <;> omega
theorem sCt_1 {p : Nat → Bool} {j : Nat} (h : p j = true) : sCt p (j + 1) = sCt p j + 1 := if_pos h
theorem sCt_0 {p : Nat → Bool} {j : Nat} (h : ¬ p j = true) : sCt p (j + 1) = sCt p j := if_neg h
def cBl (f : Nat → Int32) (n : Nat) (v w : Int32) : Nat := sCt (fun s => decide (v ≤ sBn f n s n ∧ sBn f n s n ≤ w)) (2 ^ n)
/-- whether a place is told by the first i numbers of a row, day by day -/
def sTd (u : Nat → Int32) (pl : Nat) (f : Nat → Int32) (n : Nat) : Nat → Bool
  | 0 => true
  | i + 1 => sTd u pl f n i && decide (u i = -1 ∨ u i = sGo f n i pl)
theorem sTd_f {u : Nat → Int32} {pl : Nat} {f : Nat → Int32} {n i : Nat} (h : sTd u pl f n i = false) : ∀ {m : Nat}, sTd u pl f n (i + m) = false
  | 0 => h
  | m + 1 => by
    show (sTd u pl f n (i + m) && _) = false
    rw [sTd_f h]
    rfl
theorem sTd_1 {u : Nat → Int32} {pl : Nat} {f : Nat → Int32} {n i : Nat} (h : sTd u pl f n i = true) (h2 : u i = -1 ∨ u i = sGo f n i pl) : sTd u pl f n (i + 1) = true := by
  show (sTd u pl f n i && _) = true
  rw [h, decide_eq_true h2]
  rfl
theorem sTd_0 {u : Nat → Int32} {pl : Nat} {f : Nat → Int32} {n i : Nat} (h2 : ¬ (u i = -1 ∨ u i = sGo f n i pl)) : sTd u pl f n (i + 1) = false := by
  show (sTd u pl f n i && _) = false
  rw [decide_eq_false h2]
  exact Bool.and_false _
/-- a row of a sheet -/
def shR (u : Nat → Int32) (s : Nat) : Nat → Int32 := fun i => u (40 * s + i)
/-- storms by draws -/
def sDn (f : Nat → Int32) : Nat := (sDz f 2).toBitVec.toNat / 256
theorem sDr_n (f : Nat → Int32) : sDr f = nI (sDn f) ∧ sDn f < 16777216 := by
  have h := pk_ushr (sDz f 2) (nI 8) 8 rfl
  have h2 : sDn f < 16777216 := by
    have := (sDz f 2).toBitVec.isLt
    unfold sDn
    omega
  refine ⟨?_, h2⟩
  apply Int32.toBitVec_inj.mp
  apply BitVec.eq_of_toNat_eq
  rw [pk_tn (by omega)]
  exact h
def sS1 (f : Nat → Int32) : Nat → Int32 := upd (sDz (sDz f)) (10 + sDn f % 6) (nI (sDn (sDz f) % 100))
def sSs (f : Nat → Int32) (n : Nat) : Nat → (Nat → Int32)
  | 0 => f
  | j + 1 => sDy (sS1 (sSs f n j)) n
theorem sDz_1 {f : Nat → Int32} {i : Nat} (h : i ≠ 2) : sDz f i = f i := upd_ne h
theorem Wk.s1 {f : Nat → Int32} {n : Nat} (hw : Wk f n) : Wk (sS1 f) n := ((hw.up (i := 2) (by decide) (by decide)).up (i := 2) (by decide) (by decide)).up (by omega) (by omega)
theorem sS1_1 {f : Nat → Int32} : sS1 f 1 = f 1 := (upd_ne (by omega)).trans ((sDz_1 (by decide)).trans (sDz_1 (by decide)))
theorem Wk.ss {f : Nat → Int32} {n : Nat} (hw : Wk f n) : ∀ {j : Nat}, Wk (sSs f n j) n
  | 0 => hw
  | j + 1 => (Wk.ss hw (j := j)).s1.kl (sDy_kl hw.2.1)
theorem sSs_1 {f : Nat → Int32} {n d : Nat} (h8 : n ≤ 8) (hd : f 1 = nI d) : ∀ {j : Nat}, sSs f n j 1 = nI (d + j)
  | 0 => hd
  | j + 1 => by
    show sDy (sS1 (sSs f n j)) n 1 = nI (d + (j + 1))
    rw [sDy_1 h8, sS1_1, sSs_1 h8 hd]
    exact nI_add (d + j) 1

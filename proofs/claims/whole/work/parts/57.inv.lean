/-! what every call keeps of the row that both sides share -/
theorem Ak.w {f : Nat → Int32} {n k w : Nat} {v : Int32} (h : Ak f n) (hw : w < 7) (h5 : w ≠ 5) : Ak (fu f k w v) n := fun j hj => by
  obtain ⟨p, h1, h2⟩ := h j hj
  exact ⟨p, h1, (fi_fu_ne hw (by decide) (by omega)).trans h2⟩
theorem Ak.f5 {f : Nat → Int32} {n k : Nat} {v : Int32} (h : Ak f n) (hv : ∃ p, p ≤ 999 ∧ v = nI p) : Ak (fu f k 5 v) n := fun j hj => by
  by_cases e : j = k
  · subst e
    obtain ⟨p, h1, h2⟩ := hv
    exact ⟨p, h1, fi_fu_same.trans h2⟩
  · obtain ⟨p, h1, h2⟩ := h j hj
    exact ⟨p, h1, (fi_fu_ne (by decide) (by decide) (by omega)).trans h2⟩
theorem Ak.up {f : Nat → Int32} {n i : Nat} {v : Int32} (h : Ak f n) (hi : i < 16 ∨ 72 ≤ i) (h8 : n ≤ 8) : Ak (upd f i v) n := fun j hj => by
  obtain ⟨p, h1, h2⟩ := h j hj
  exact ⟨p, h1, (upd_ne (f := f) (show 16 + 7 * j + 5 ≠ i by omega)).trans h2⟩
theorem Ak.so {f : Nat → Int32} {n : Nat} (h : Ak f n) : Ak (sSo f n) n := by
  unfold sSo
  split
  · exact h
  · exact h.w (by decide) (by decide)
theorem Ak.ll {f : Nat → Int32} {n : Nat} (h : Ak f n) : ∀ {j : Nat}, j ≤ n → Ak (sLl f j) n
  | 0, _ => h
  | j + 1, hj => by
    have ih := Ak.ll h (j := j) (by omega)
    have h1 : Ak (sL1 (sLl f j) j) n := ih.w (by decide) (by decide)
    obtain ⟨p, hp, e⟩ := h1 j (by omega)
    refine h1.f5 ⟨min 999 (p + 1), by omega, ?_⟩
    rw [e, nI_add, iMin_nI (by decide) (by omega)]
theorem Ak.ca {f : Nat → Int32} {n a b : Nat} (h : Ak f n) : Ak (sCa f a b) n := by
  unfold sCa
  split
  · exact (h.w (by decide) (by decide)).w (by decide) (by decide)
  · exact h
theorem Ak.ci {f : Nat → Int32} {n a : Nat} (h : Ak f n) : ∀ {i : Nat}, Ak (sCi f a i) n
  | 0 => h
  | i + 1 => (Ak.ci h (i := i)).ca
theorem Ak.co {f : Nat → Int32} {n : Nat} (h : Ak f n) : ∀ {a : Nat}, Ak (sCo f n a) n
  | 0 => h
  | a + 1 => (Ak.co h (a := a)).ci
theorem Ak.bl {f : Nat → Int32} {n k : Nat} {x : Int32} (h : Ak f n) : ∀ {j : Nat}, Ak (sBl f k x j) n
  | 0 => h
  | j + 1 => by
    unfold sBl
    split
    · exact (Ak.bl h (j := j)).w (by decide) (by decide)
    · exact Ak.bl h
theorem Ak.ey {f : Nat → Int32} {n k : Nat} (h : Ak f n) : Ak (sEy f k) n := (h.w (w := 2) (by decide) (by decide)).f5 ⟨0, by decide, rfl⟩
theorem Ak.bu {f : Nat → Int32} {n k : Nat} (h8 : n ≤ 8) (h : Ak f n) : Ak (sBu f n k) n := ((((h.bl).ey).w (w := 6) (by decide) (by decide))).up (by decide) h8
theorem Ak.bs {n : Nat} (h8 : n ≤ 8) : ∀ {m : Nat} {f : Nat → Int32}, Ak f n → Ak (sBs n m f) n
  | 0, _, h => h
  | m + 1, f, h => by
    cases hE : sFt f n n 0 with
    | none => rw [sBs_n hE]; exact h
    | some k => rw [sBs_s hE]; exact Ak.bs h8 (h.bu h8)
theorem Ak.dy {f : Nat → Int32} {n : Nat} (h8 : n ≤ 8) (h : Ak f n) : Ak (sDy f n) n := (Ak.bs h8 ((h.so.ll (Nat.le_refl n)).co)).up (by decide) h8
theorem Ak.go {f : Nat → Int32} {n : Nat} (h8 : n ≤ 8) (h : Ak f n) : ∀ {t : Nat}, Ak (sGo f n t) n
  | 0 => h
  | t + 1 => (Ak.go h8 h (t := t)).dy h8
/-- kinds -/
def Nk (f : Nat → Int32) (n : Nat) : Prop := ∀ k, k < n → ∃ q, q ≤ 6 ∧ fi f k 0 = nI q
/-- spots -/
def Ok (f : Nat → Int32) (n : Nat) : Prop := ∀ i, i < 10 → f (72 + i) = -1 ∨ ∃ k, k < n ∧ f (72 + i) = nI k
theorem Nk.kl {f g : Nat → Int32} {n : Nat} (h8 : n ≤ 8) (h : Nk f n) (k : Kl f g) : Nk g n := fun j hj => by
  obtain ⟨q, h1, h2⟩ := h j hj
  refine ⟨q, h1, (k (16 + 7 * j + 0) (by omega) (by omega) (fun i hi => by omega)).trans h2⟩
theorem Ok.kl {f g : Nat → Int32} {n : Nat} (h : Ok f n) (k : Kl f g) : Ok g n := fun i hi => by
  have e := k (72 + i) (by omega) (by omega) (fun j hj => by omega)
  rw [e]
  exact h i hi
def Iv (f : Nat → Int32) (n : Nat) : Prop := Wk f n ∧ Pk f n ∧ Sk f ∧ Ak f n ∧ Bk f n ∧ Nk f n ∧ Ok f n
theorem Iv.wk {f : Nat → Int32} {n : Nat} (h : Iv f n) : Wk f n := h.1
theorem Iv.pk {f : Nat → Int32} {n : Nat} (h : Iv f n) : Pk f n := h.2.1
theorem Iv.sk {f : Nat → Int32} {n : Nat} (h : Iv f n) : Sk f := h.2.2.1
theorem Iv.ak {f : Nat → Int32} {n : Nat} (h : Iv f n) : Ak f n := h.2.2.2.1
theorem Iv.bk {f : Nat → Int32} {n : Nat} (h : Iv f n) : Bk f n := h.2.2.2.2.1
theorem Iv.nk {f : Nat → Int32} {n : Nat} (h : Iv f n) : Nk f n := h.2.2.2.2.2.1
theorem Iv.ok {f : Nat → Int32} {n : Nat} (h : Iv f n) : Ok f n := h.2.2.2.2.2.2
theorem Iv.go {f : Nat → Int32} {n d t : Nat} (h : Iv f n) (hd : f 1 = nI d) (ht : d + t < 2147483648) : Iv (sGo f n t) n :=
  have h8 := h.wk.2.1
  ⟨h.wk.kl (sGo_kl h8), Pk.go h8 h.pk h.sk hd ht, h.sk.kl (sGo_kl h8), h.ak.go h8, (Mo.go h.bk).bk2, h.nk.kl h8 (sGo_kl h8), h.ok.kl (sGo_kl h8)⟩
theorem Nk.up {f : Nat → Int32} {n i : Nat} {v : Int32} (h8 : n ≤ 8) (h : Nk f n) (hi : i < 16 ∨ 72 ≤ i) : Nk (upd f i v) n := fun j hj => by
  obtain ⟨p, h1, h2⟩ := h j hj
  exact ⟨p, h1, (upd_ne (f := f) (show 16 + 7 * j + 0 ≠ i by omega)).trans h2⟩
theorem Ok.up {f : Nat → Int32} {n i : Nat} {v : Int32} (h : Ok f n) (hi : i < 72) : Ok (upd f i v) n := fun j hj => by
  rw [upd_ne (show 72 + j ≠ i by omega)]
  exact h j hj
theorem Iv.frost {f : Nat → Int32} {n i : Nat} {v : Int32} (h : Iv f n) (hi : i < 6) : Iv (upd f (4 + i) v) n :=
  ⟨h.wk.up (by omega) (by omega), h.pk.up (by omega), h.sk.up (by omega), h.ak.up (by omega) h.wk.2.1, h.bk.up (by omega) (by omega), h.nk.up h.wk.2.1 (by omega), h.ok.up (by omega)⟩
theorem Iv.storm {f : Nat → Int32} {n i x : Nat} (h : Iv f n) (hi : i < 6) (hx : x ≤ 99) : Iv (upd f (10 + i) (nI x)) n :=
  ⟨h.wk.up (by omega) (by omega), h.pk.up (by omega), h.sk.st hx, h.ak.up (by omega) h.wk.2.1, h.bk.up (by omega) (by omega), h.nk.up h.wk.2.1 (by omega), h.ok.up (by omega)⟩
theorem Iv.seed {f : Nat → Int32} {n : Nat} {v : Int32} (h : Iv f n) : Iv (upd f 2 v) n :=
  ⟨h.wk.up (by omega) (by omega), h.pk.up (by omega), h.sk.up (by omega), h.ak.up (by omega) h.wk.2.1, h.bk.up (by omega) (by omega), h.nk.up h.wk.2.1 (by omega), h.ok.up (by omega)⟩

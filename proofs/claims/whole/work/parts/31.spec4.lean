/-! BURST and CLAPS never shrink -/
def Mo (f g : Nat → Int32) (n : Nat) : Prop := (∀ k, k < n → ∃ a b, fi f k 6 = nI a ∧ fi g k 6 = nI b ∧ a ≤ b ∧ b ≤ 999) ∧ ∃ a b, f 3 = nI a ∧ g 3 = nI b ∧ a ≤ b ∧ b ≤ 99999
/-- bursts and claps within their bounds -/
def Bk (f : Nat → Int32) (n : Nat) : Prop := Mo f f n
theorem Mo.bk2 {f g : Nat → Int32} {n : Nat} (h : Mo f g n) : Bk g n := ⟨fun k hk => by
  obtain ⟨a, b, h1, h2, h3, h4⟩ := h.1 k hk
  exact ⟨b, b, h2, h2, Nat.le_refl b, h4⟩, by
  obtain ⟨a, b, h1, h2, h3, h4⟩ := h.2
  exact ⟨b, b, h2, h2, Nat.le_refl b, h4⟩⟩
theorem Mo.tr {f g h : Nat → Int32} {n : Nat} (x : Mo f g n) (y : Mo g h n) : Mo f h n := ⟨fun k hk => by
  obtain ⟨a, b, h1, h2, h3, h4⟩ := x.1 k hk
  obtain ⟨a2, b2, g1, g2, g3, g4⟩ := y.1 k hk
  have e : b = a2 := nI_inj (by omega) (by omega) (h2.symm.trans g1)
  exact ⟨a, b2, h1, g2, by omega, g4⟩, by
  obtain ⟨a, b, h1, h2, h3, h4⟩ := x.2
  obtain ⟨a2, b2, g1, g2, g3, g4⟩ := y.2
  have e : b = a2 := nI_inj (by omega) (by omega) (h2.symm.trans g1)
  exact ⟨a, b2, h1, g2, by omega, g4⟩⟩
/-- what leaves bursts and claps alone -/
theorem Mo.same {f g : Nat → Int32} {n : Nat} (h : Bk f n) (h6 : ∀ k, k < n → fi g k 6 = fi f k 6) (h3 : g 3 = f 3) : Mo f g n := ⟨fun k hk => by
  obtain ⟨a, b, h1, h2, -, h4⟩ := h.1 k hk
  have e : a = a := rfl
  exact ⟨b, b, h2, (h6 k hk).trans h2, Nat.le_refl b, h4⟩, by
  obtain ⟨a, b, h1, h2, -, h4⟩ := h.2
  exact ⟨b, b, h2, h3.trans h2, Nat.le_refl b, h4⟩⟩
theorem fu_3 {f : Nat → Int32} {k w : Nat} {v : Int32} : fu f k w v 3 = f 3 := upd_ne (by omega)
theorem fi6_fu {f : Nat → Int32} {k w j : Nat} {v : Int32} (hw : w < 6) : fi (fu f k w v) j 6 = fi f j 6 := fi_fu_ne (by omega) (by decide) (by omega)
theorem sSo_6 {f : Nat → Int32} {n j : Nat} : fi (sSo f n) j 6 = fi f j 6 ∧ sSo f n 3 = f 3 := by
  unfold sSo
  cases sEm f (nI ((f 1).toNatClampNeg % 6)) n with
  | none => exact ⟨rfl, rfl⟩
  | some k => exact ⟨fi6_fu (by decide), fu_3⟩
theorem sLl_6 {f : Nat → Int32} {j : Nat} : ∀ {i : Nat}, fi (sLl f i) j 6 = fi f j 6 ∧ sLl f i 3 = f 3
  | 0 => ⟨rfl, rfl⟩
  | i + 1 => by
    have ih := sLl_6 (f := f) (j := j) (i := i)
    unfold sLl
    exact ⟨(fi6_fu (by decide)).trans ((fi6_fu (by decide)).trans ih.1), fu_3.trans (fu_3.trans ih.2)⟩
theorem sCa_6 {f : Nat → Int32} {a b j : Nat} : fi (sCa f a b) j 6 = fi f j 6 ∧ sCa f a b 3 = f 3 := by
  unfold sCa
  split
  · exact ⟨(fi6_fu (by decide)).trans (fi6_fu (by decide)), fu_3.trans fu_3⟩
  · exact ⟨rfl, rfl⟩
theorem sCi_6 {f : Nat → Int32} {a j : Nat} : ∀ {i : Nat}, fi (sCi f a i) j 6 = fi f j 6 ∧ sCi f a i 3 = f 3
  | 0 => ⟨rfl, rfl⟩
  | i + 1 => ⟨sCa_6.1.trans (sCi_6 (i := i)).1, (sCa_6 (j := j)).2.trans (sCi_6 (j := j) (i := i)).2⟩
theorem sCo_6 {f : Nat → Int32} {n j : Nat} : ∀ {a : Nat}, fi (sCo f n a) j 6 = fi f j 6 ∧ sCo f n a 3 = f 3
  | 0 => ⟨rfl, rfl⟩
  | a + 1 => ⟨sCi_6.1.trans (sCo_6 (a := a)).1, (sCi_6 (j := j)).2.trans (sCo_6 (j := j) (a := a)).2⟩
theorem sBl_6 {f : Nat → Int32} {k j : Nat} {x : Int32} : ∀ {i : Nat}, fi (sBl f k x i) j 6 = fi f j 6 ∧ sBl f k x i 3 = f 3
  | 0 => ⟨rfl, rfl⟩
  | i + 1 => by
    have ih := sBl_6 (f := f) (k := k) (j := j) (x := x) (i := i)
    unfold sBl
    split
    · exact ⟨(fi6_fu (by decide)).trans ih.1, fu_3.trans ih.2⟩
    · exact ih
theorem Mo.bu {f : Nat → Int32} {n k : Nat} (h : Bk f n) (hk : k < n) : Mo f (sBu f n k) n := by
  have e6 : ∀ j, fi (sEy (sBl f k (fi f k 2 / nI 2) n) k) j 6 = fi f j 6 := fun j => (fi6_fu (by decide)).trans ((fi6_fu (by decide)).trans sBl_6.1)
  have e3 : sEy (sBl f k (fi f k 2 / nI 2) n) k 3 = f 3 := fu_3.trans (fu_3.trans (sBl_6 (j := 0)).2)
  unfold sBu
  generalize sEy (sBl f k (fi f k 2 / nI 2) n) k = g at e6 e3
  unfold sBc
  refine ⟨fun j hj => ?_, ?_⟩
  · obtain ⟨a, b, h1, h2, -, h4⟩ := h.1 j hj
    have e9 : fi (upd (fu g k 6 (iMin (nI 999) (fi g k 6 + nI 1))) 3 (iMin (nI 99999) (fu g k 6 (iMin (nI 999) (fi g k 6 + nI 1)) 3 + nI 1))) j 6 = fi (fu g k 6 (iMin (nI 999) (fi g k 6 + nI 1))) j 6 := upd_ne (by omega)
    by_cases e : j = k
    · subst e
      refine ⟨b, min 999 (b + 1), h2, ?_, by omega, Nat.min_le_left _ _⟩
      rw [e9, fi_fu_same, e6, h2, nI_add, iMin_nI (by decide) (by omega)]
    · refine ⟨b, b, h2, ?_, Nat.le_refl b, h4⟩
      rw [e9, fi_fu_ne (by decide) (by decide) (by omega), e6, h2]
  · obtain ⟨a, b, h1, h2, -, h4⟩ := h.2
    refine ⟨b, min 99999 (b + 1), h2, ?_, by omega, Nat.min_le_left _ _⟩
    rw [upd_at, fu_3, e3, h2, nI_add, iMin_nI (by decide) (by omega)]
theorem Mo.bs {n : Nat} : ∀ {m : Nat} {f : Nat → Int32}, Bk f n → Mo f (sBs n m f) n
  | 0, _, h => h
  | m + 1, f, h => by
    cases hE : sFt f n n 0 with
    | none => rw [sBs_n hE]; exact h
    | some k =>
      rw [sBs_s hE]
      have h1 := Mo.bu h (k := k) (by have := (sFt_lt hE).1; omega)
      exact h1.tr (Mo.bs h1.bk2)
theorem Mo.dy {f : Nat → Int32} {n : Nat} (h : Bk f n) : Mo f (sDy f n) n := by
  have h1 : Mo f (sCo (sLl (sSo f n) n) n n) n := Mo.same h (fun k _ => sCo_6.1.trans (sLl_6.1.trans sSo_6.1)) ((sCo_6 (j := 0)).2.trans ((sLl_6 (j := 0)).2.trans (sSo_6 (j := 0)).2))
  have h2 : Mo f (sDa f n) n := h1.tr (Mo.bs h1.bk2)
  exact h2.tr (Mo.same (g := sDy f n) h2.bk2 (fun k _ => upd_ne (f := sDa f n) (k := 1) (x := sDa f n 1 + nI 1) (show 16 + 7 * k + 6 ≠ 1 by omega)) (upd_ne (f := sDa f n) (k := 1) (x := sDa f n 1 + nI 1) (by decide)))
theorem Mo.go {f : Nat → Int32} {n : Nat} (h : Bk f n) : ∀ {t : Nat}, Mo f (sGo f n t) n
  | 0 => h
  | t + 1 => (Mo.go h (t := t)).tr (Mo.dy (Mo.go h (t := t)).bk2)
theorem sGo_add {f : Nat → Int32} {n i : Nat} : ∀ {m : Nat}, sGo f n (i + m) = sGo (sGo f n i) n m
  | 0 => rfl
  | m + 1 => by
    show sDy (sGo f n (i + m)) n = sDy (sGo (sGo f n i) n m) n
    rw [sGo_add]
/-- once more, ever more -/
theorem Mo.stay6 {f : Nat → Int32} {n k i t : Nat} (h : Bk f n) (hk : k < n) (hit : i ≤ t) {x : Int32} (h0 : fi f k 6 = x) (ht : fi (sGo f n t) k 6 = x) : fi (sGo f n i) k 6 = x := by
  obtain ⟨a, b, h1, h2, h3, h4⟩ := (Mo.go h (t := i)).1 k hk
  have e : t = i + (t - i) := by omega
  rw [e, sGo_add] at ht
  obtain ⟨a2, b2, g1, g2, g3, g4⟩ := (Mo.go (Mo.go h (t := i)).bk2 (t := t - i)).1 k hk
  have e1 : b = a2 := nI_inj (by omega) (by omega) (h2.symm.trans g1)
  have e2 : a = b2 := nI_inj (by omega) (by omega) (h1.symm.trans (h0.trans (ht.symm.trans g2)))
  rw [h2, ← h0, h1, show b = a by omega]
theorem Mo.stay3 {f : Nat → Int32} {n i t : Nat} (h : Bk f n) (hit : i ≤ t) {x : Int32} (h0 : f 3 = x) (ht : sGo f n t 3 = x) : sGo f n i 3 = x := by
  obtain ⟨a, b, h1, h2, h3, h4⟩ := (Mo.go h (t := i)).2
  have e : t = i + (t - i) := by omega
  rw [e, sGo_add] at ht
  obtain ⟨a2, b2, g1, g2, g3, g4⟩ := (Mo.go (Mo.go h (t := i)).bk2 (t := t - i)).2
  have e1 : b = a2 := nI_inj (by omega) (by omega) (h2.symm.trans g1)
  have e2 : a = b2 := nI_inj (by omega) (by omega) (h1.symm.trans (h0.trans (ht.symm.trans g2)))
  rw [h2, ← h0, h1, show b = a by omega]
/-- not more is the same -/
theorem Mo.eq6 {f g : Nat → Int32} {n k : Nat} (h : Mo f g n) (hk : k < n) : fi g k 6 ≤ fi f k 6 ↔ fi g k 6 = fi f k 6 := by
  obtain ⟨a, b, h1, h2, h3, h4⟩ := h.1 k hk
  rw [h1, h2]
  refine ⟨fun q => ?_, fun q => ?_⟩
  · have := (nI_leI (by omega) (by omega)).mp q
    rw [show b = a by omega]
  · rw [q]
    exact (nI_leI (by omega) (by omega)).mpr (Nat.le_refl a)
theorem Bk.fu {f : Nat → Int32} {n k w : Nat} {v : Int32} (h : Bk f n) (hw : w < 6) : Bk (Jvm.Pilot.@@N@@.fu f k w v) n := (Mo.same h (fun _ _ => fi6_fu hw) fu_3).bk2
theorem Bk.up {f : Nat → Int32} {n i : Nat} {v : Int32} (h : Bk f n) (hi : i ≠ 3) (h2 : i < 16) : Bk (upd f i v) n := (Mo.same (g := upd f i v) h (fun k _ => upd_ne (f := f) (show 16 + 7 * k + 6 ≠ i by omega)) (upd_ne (by omega))).bk2
theorem sMe_6 {f : Nat → Int32} {s j : Nat} : ∀ {i : Nat}, fi (sMe f s i) j 6 = fi f j 6 ∧ sMe f s i 3 = f 3
  | 0 => ⟨rfl, rfl⟩
  | i + 1 => by
    have ih := sMe_6 (f := f) (s := s) (j := j) (i := i)
    unfold sMe
    split
    · exact ⟨(fi6_fu (by decide)).trans ((fi6_fu (by decide)).trans ih.1), fu_3.trans (fu_3.trans ih.2)⟩
    · exact ih
theorem Bk.me {f : Nat → Int32} {n s : Nat} (h : Bk f n) : Bk (sMe f s n) n := (Mo.same h (fun _ _ => sMe_6.1) (sMe_6 (j := 0)).2).bk2
theorem Pk.me {f : Nat → Int32} {n s : Nat} (h : Pk f n) : ∀ {i : Nat}, i ≤ n → Pk (sMe f s i) n
  | 0, _ => h
  | i + 1, hi => by
    unfold sMe
    split
    · exact ((Pk.me h (i := i) (by omega)).fu ⟨0, by decide, rfl⟩).fw (w := 5) (by decide) (by decide)
    · exact Pk.me h (by omega)
theorem Sk.fu {f : Nat → Int32} {k w : Nat} {v : Int32} (h : Sk f) : Sk (Jvm.Pilot.@@N@@.fu f k w v) := fun c hc => by
  obtain ⟨x, h1, h2⟩ := h c hc
  exact ⟨x, h1, (upd_ne (by omega)).trans h2⟩
theorem Sk.up {f : Nat → Int32} {i : Nat} {v : Int32} (h : Sk f) (hi : i < 10 ∨ 16 ≤ i) : Sk (upd f i v) := fun c hc => by
  obtain ⟨x, h1, h2⟩ := h c hc
  exact ⟨x, h1, (upd_ne (by omega)).trans h2⟩
theorem sBn_all {f : Nat → Int32} {n : Nat} (h8 : n ≤ 8) : ∀ {j : Nat}, j ≤ n → sBn f n (2 ^ n - 1) j = sSl f n j
  | 0, _ => rfl
  | j + 1, h => by
    have hb : ∀ n, n ≤ 8 → ∀ j, j < n → (2 ^ n - 1) / 2 ^ j % 2 = 1 := by decide +kernel
    show (if (2 ^ n - 1) / 2 ^ j % 2 = 1 then _ else _) = _
    rw [if_pos (hb n h8 j (by omega)), sBn_all h8 (by omega)]
    rfl

theorem fi_up0 {f : Nat → Int32} {k w : Nat} {v : Int32} : fi (upd f 0 v) k w = fi f k w := upd_ne (f := f) (show 16 + 7 * k + w ≠ 0 by omega)
/-- a new cask's fields; all else stays -/
theorem sAd_k {f : Nat → Int32} {n : Nat} {x y : Int32} : fi (sAd f n x y) n 0 = x ∧ fi (sAd f n x y) n 1 = y ∧ fi (sAd f n x y) n 2 = nI 0 ∧ fi (sAd f n x y) n 5 = nI 0 ∧ fi (sAd f n x y) n 6 = nI 0 ∧ sAd f n x y 0 = nI (n + 1) := by
  refine ⟨?_, ?_, ?_, ?_, ?_, ?_⟩ <;> simp [sAd, sA7, fi, fu, upd]
theorem sAd_o {f : Nat → Int32} {n i : Nat} {x y : Int32} (h0 : i ≠ 0) (h : i < 16 + 7 * n ∨ 16 + 7 * n + 7 ≤ i) : sAd f n x y i = f i := by
  unfold sAd sA7
  simp only [fu, upd]
  repeat (rw [if_neg (by omega)])
theorem Iv.cask {f : Nat → Int32} {n q ce : Nat} (h : Iv f n) (hn : n < 8) (hq : q ≤ 6) (hc : ce < 6) : Iv (sAd f n (nI q) (nI ce)) (n + 1) := by
  have hk := sAd_k (f := f) (n := n) (x := nI q) (y := nI ce)
  have ho : ∀ k w, k < n → w < 7 → fi (sAd f n (nI q) (nI ce)) k w = fi f k w := fun k w h1 h2 => sAd_o (by omega) (by omega)
  refine ⟨⟨hk.2.2.2.2.2, by omega, fun k hk2 => ?_⟩, fun k hk2 => ?_, fun c hc2 => ?_, fun k hk2 => ?_, ⟨fun k hk2 => ?_, ?_⟩, fun k hk2 => ?_, fun i hi => ?_⟩
  · by_cases e : k = n
    · subst e
      exact ⟨ce, hc, hk.2.1⟩
    · rw [ho k 1 (by omega) (by decide)]
      exact h.wk.2.2 k (by omega)
  · by_cases e : k = n
    · subst e
      exact ⟨0, by decide, hk.2.2.1⟩
    · rw [ho k 2 (by omega) (by decide)]
      exact h.pk k (by omega)
  · rw [sAd_o (by omega) (by omega)]
    exact h.sk c hc2
  · by_cases e : k = n
    · subst e
      exact ⟨0, by decide, hk.2.2.2.1⟩
    · rw [ho k 5 (by omega) (by decide)]
      exact h.ak k (by omega)
  · by_cases e : k = n
    · subst e
      exact ⟨0, 0, hk.2.2.2.2.1, hk.2.2.2.2.1, by omega, by omega⟩
    · rw [ho k 6 (by omega) (by decide)]
      exact h.bk.1 k (by omega)
  · rw [sAd_o (by omega) (by omega)]
    exact h.bk.2
  · by_cases e : k = n
    · subst e
      exact ⟨q, hq, hk.1⟩
    · rw [ho k 0 (by omega) (by decide)]
      exact h.nk k (by omega)
  · rw [sAd_o (by omega) (by omega)]
    rcases h.ok i hi with e | ⟨k, h1, h2⟩
    · exact Or.inl e
    · exact Or.inr ⟨k, by omega, h2⟩
theorem Nk.w {f : Nat → Int32} {n k w : Nat} {v : Int32} (h : Nk f n) (hw : w < 7) (h0 : w ≠ 0) : Nk (fu f k w v) n := fun j hj => by
  obtain ⟨p, h1, h2⟩ := h j hj
  exact ⟨p, h1, (fi_fu_ne hw (by decide) (by omega)).trans h2⟩
theorem Nk.f0 {f : Nat → Int32} {n k q : Nat} (h : Nk f n) (hq : q ≤ 6) : Nk (fu f k 0 (nI q)) n := fun j hj => by
  by_cases e : j = k
  · subst e
    exact ⟨q, hq, fi_fu_same⟩
  · obtain ⟨p, h1, h2⟩ := h j hj
    exact ⟨p, h1, (fi_fu_ne (by decide) (by decide) (by omega)).trans h2⟩
theorem Ok.fu {f : Nat → Int32} {n k w : Nat} {v : Int32} (h : Ok f n) (hk : k < 8) (hw : w < 7) : Ok (Jvm.Pilot.@@N@@.fu f k w v) n := h.up (by omega)
theorem Bk.f6 {f : Nat → Int32} {n k v : Nat} (h : Bk f n) (hv : v ≤ 999) : Bk (Jvm.Pilot.@@N@@.fu f k 6 (nI v)) n := ⟨fun j hj => by
  by_cases e : j = k
  · subst e
    exact ⟨v, v, fi_fu_same, fi_fu_same, Nat.le_refl v, hv⟩
  · rw [fi_fu_ne (by decide) (by decide) (by omega)]
    exact h.1 j hj, by
  rw [fu_3]
  exact h.2⟩
theorem Iv.change {f : Nat → Int32} {n k w v : Nat} (h : Iv f n) (hk : k < n) (hw : w < 7) (h0 : w = 0 → v ≤ 6) (h1 : w = 1 → v ≤ 5) (h2 : v ≤ 999) : Iv (fu f k w (nI v)) n := by
  have h8 := h.wk.2.1
  refine ⟨?_, ?_, h.sk.fu, ?_, ?_, ?_, h.ok.fu (by omega) hw⟩
  · by_cases e : w = 1
    · subst e
      exact h.wk.fu1 (by have := h1 rfl; omega)
    · exact h.wk.fuw hw e
  · by_cases e : w = 2
    · subst e
      exact h.pk.fu ⟨v, h2, rfl⟩
    · exact h.pk.fw hw e
  · by_cases e : w = 5
    · subst e
      exact h.ak.f5 ⟨v, h2, rfl⟩
    · exact h.ak.w hw e
  · by_cases e : w = 6
    · subst e
      exact h.bk.f6 h2
    · exact h.bk.fu (by omega)
  · by_cases e : w = 0
    · subst e
      exact h.nk.f0 (h0 rfl)
    · exact h.nk.w hw e
theorem Iv.sell {f : Nat → Int32} {n k : Nat} (h : Iv f n) (hk : k < n) : Iv (sEy f k) n := (h.change (w := 2) (v := 0) hk (by decide) (by omega) (by omega) (by omega)).change (w := 5) (v := 0) hk (by decide) (by omega) (by omega) (by omega)
theorem Iv.hold {f : Nat → Int32} {n i : Nat} {v : Int32} (h : Iv f n) (hi : i < 10) (hv : v = -1 ∨ ∃ k, k < n ∧ v = nI k) : Iv (upd f (72 + i) v) n := by
  have h8 := h.wk.2.1
  refine ⟨h.wk.up (by omega) (by omega), fun j hj => ?_, h.sk.up (by omega), h.ak.up (by omega) h8, ⟨fun j hj => ?_, ?_⟩, h.nk.up h8 (by omega), fun j hj => ?_⟩
  · rw [show fi (upd f (72 + i) v) j 2 = fi f j 2 from upd_ne (f := f) (show 16 + 7 * j + 2 ≠ 72 + i by omega)]
    exact h.pk j hj
  · rw [show fi (upd f (72 + i) v) j 6 = fi f j 6 from upd_ne (f := f) (show 16 + 7 * j + 6 ≠ 72 + i by omega)]
    exact h.bk.1 j hj
  · rw [upd_ne (by omega)]
    exact h.bk.2
  · by_cases e : j = i
    · subst e
      rw [upd_at]
      exact hv
    · rw [upd_ne (by omega)]
      exact h.ok j hj
theorem Iv.load {u : Nat → Int32} {sz n : Nat} : ∀ {m k : Nat} {f : Nat → Int32}, Iv f n → Iv (ldR u sz m k f).2 n
  | 0, _, _, h => h
  | m + 1, k, f, h => by
    by_cases c : k < sz ∧ k < 6 ∧ (nI 0 ≤ u k ∧ u k ≤ nI 99)
    · rw [ldR_1 c]
      obtain ⟨x, hx, e⟩ := rg_nat c.2.2 (by decide)
      rw [e]
      exact Iv.load (h.storm c.2.1 hx)
    · rw [ldR_0 c]
      exact h
theorem Iv.storms {f : Nat → Int32} {n d : Nat} (h : Iv f n) (hd : f 1 = nI d) : ∀ {t : Nat}, d + t < 2147483648 → Iv (sSs f n t) n
  | 0, _ => h
  | t + 1, ht => by
    have h8 := h.wk.2.1
    have ih := Iv.storms h hd (t := t) (by omega)
    have hz := (sDr_n (sSs f n t)).2
    have h1 : Iv (sS1 (sSs f n t)) n := (ih.seed.seed).storm (i := sDn (sSs f n t) % 6) (by omega) (by omega)
    exact h1.go (t := 1) (sS1_1.trans (sSs_1 h8 hd)) (by omega)

/-! every call of the law, on both sides -/
theorem cp_nat {y u v : Int32} {s1 s2 : Nat} (h : 0 ≤ y ∧ 0 ≤ u ∧ 0 ≤ v ∧ v ≤ nI s1 - y ∧ v ≤ nI s2 - u) (h1 : s1 ≤ 40) (h2 : s2 ≤ 40) : ∃ fr to cn : Nat, y = nI fr ∧ u = nI to ∧ v = nI cn ∧ fr + cn ≤ s1 ∧ to + cn ≤ s2 := by
  obtain ⟨hy, hu, hv, ha, hb⟩ := h
  have hy0 : (0 : Int) ≤ y.toInt := by simpa using Int32.le_iff_toInt_le.mp hy
  have hu0 : (0 : Int) ≤ u.toInt := by simpa using Int32.le_iff_toInt_le.mp hu
  have hv0 : (0 : Int) ≤ v.toInt := by simpa using Int32.le_iff_toInt_le.mp hv
  have hy1 := Int32.toInt_lt y
  have hu1 := Int32.toInt_lt u
  have hv1 := Int32.toInt_lt v
  have e1 : y = nI y.toInt.toNat := Int32.toInt_inj.mp (by rw [nI_toInt (by omega)]; omega)
  have e2 : u = nI u.toInt.toNat := Int32.toInt_inj.mp (by rw [nI_toInt (by omega)]; omega)
  have e3 : v = nI v.toInt.toNat := Int32.toInt_inj.mp (by rw [nI_toInt (by omega)]; omega)
  have s1e : (nI s1 - y).toInt = (s1 : Int) - y.toInt := by
    rw [Int32.toInt_sub, nI_toInt (by omega)]
    exact Int.bmod_eq_of_le (by omega) (by omega)
  have s2e : (nI s2 - u).toInt = (s2 : Int) - u.toInt := by
    rw [Int32.toInt_sub, nI_toInt (by omega)]
    exact Int.bmod_eq_of_le (by omega) (by omega)
  rw [Int32.le_iff_toInt_le, s1e] at ha
  rw [Int32.le_iff_toInt_le, s2e] at hb
  refine ⟨y.toInt.toNat, u.toInt.toNat, v.toInt.toNat, e1, e2, e3, ?_, ?_⟩
  · omega
  · omega
theorem pr_frost (l : Launch) (D : va_G) (cI cJ : ClassId) (t a : Nat → Nat) (mt ka : Nat) (kk vv : Nat → Nat) (i : Nat) (hi : i ≤ 511) (f g h : Nat → Int32) (τ σ : Nat → Nat → Int32) (hT : ST i f h τ σ) (x y : Int32) : PR2 Value.int l D cI cJ t a mt ka kk vv yX3_frost cX3_frost 4 yX4_frost cX4_frost 3 (some .int) i f g h τ σ [.int x, .int y] := by
  obtain ⟨n, d, hI, hd, hdi⟩ := id hT.1
  have h8 := hI.wk.2.1
  by_cases hb0 : ((nI 0 ≤ x ∧ x ≤ nI 5) ∧ (nI 0 ≤ y ∧ y ≤ nI 9))
  · skip
    obtain ⟨ce, hce9, rfl⟩ := rg_nat hb0.1 (by decide)
    obtain ⟨v, hv9, rfl⟩ := rg_nat hb0.2 (by decide)
    exact ⟨_, _, _, _, _, V3.wr (by decide) (c_X3_frost_ok l D cI cJ t f g h τ ce v (by omega) (by omega)), V4.wr (by decide) (c_X4_frost_ok l D cI cJ a f σ ce v (by omega) (by omega)), (hT.row (RW.of (hI.frost (by omega)) (by rw [upd_ne (by omega)]; exact hd) hdi)).up⟩
  · skip
    exact ⟨_, _, _, _, _, V3.wr (by decide) (c_X3_frost_bad l D cI cJ t f g h τ x y hb0), V4.wr (by decide) (c_X4_frost_bad l D cI cJ a f σ x y hb0), (hT.fi (by decide)).up⟩
theorem pr_cellar (l : Launch) (D : va_G) (cI cJ : ClassId) (t a : Nat → Nat) (mt ka : Nat) (kk vv : Nat → Nat) (i : Nat) (hi : i ≤ 511) (f g h : Nat → Int32) (τ σ : Nat → Nat → Int32) (hT : ST i f h τ σ) (x y : Int32) : PR2 Value.int l D cI cJ t a mt ka kk vv yX3_cellar cX3_cellar 3 yX4_cellar cX4_cellar 3 (some .int) i f g h τ σ [.int x, .int y] := by
  obtain ⟨n, d, hI, hd, hdi⟩ := id hT.1
  have h8 := hI.wk.2.1
  by_cases hb0 : ((nI 0 ≤ x ∧ x ≤ nI 5) ∧ (nI 0 ≤ y ∧ y ≤ nI 3))
  · skip
    obtain ⟨ce, hce9, rfl⟩ := rg_nat hb0.1 (by decide)
    obtain ⟨w, hw9, rfl⟩ := rg_nat hb0.2 (by decide)
    rcases (show w = 0 ∨ w = 1 ∨ w = 2 ∨ w = 3 by omega) with rfl | rfl | rfl | rfl
    · skip
      exact ⟨_, _, _, _, _, V3.wr (by decide) (c_X3_cellar_ok0 l D cI cJ t f g h τ ce (by omega) n hI.wk), V4.wr (by decide) (c_X4_cellar_ok0 l D cI cJ a f σ ce (by omega) n hI.wk), hT.up⟩
    · skip
      exact ⟨_, _, _, _, _, V3.wr (by decide) (c_X3_cellar_ok1 l D cI cJ t f g h τ ce (by omega) n hI.wk), V4.wr (by decide) (c_X4_cellar_ok1 l D cI cJ a f σ ce (by omega) n hI.wk), hT.up⟩
    · skip
      exact ⟨_, _, _, _, _, V3.wr (by decide) (c_X3_cellar_ok2 l D cI cJ t f g h τ ce (by omega) n hI.wk), V4.wr (by decide) (c_X4_cellar_ok2 l D cI cJ a f σ ce (by omega) n hI.wk), hT.up⟩
    · skip
      exact ⟨_, _, _, _, _, V3.wr (by decide) (c_X3_cellar_ok3 l D cI cJ t f g h τ ce (by omega) n hI.wk), V4.wr (by decide) (c_X4_cellar_ok3 l D cI cJ a f σ ce (by omega) n hI.wk), hT.up⟩
  · skip
    exact ⟨_, _, _, _, _, V3.wr (by decide) (c_X3_cellar_bad l D cI cJ t f g h τ x y hb0), V4.wr (by decide) (c_X4_cellar_bad l D cI cJ a f σ x y hb0), (hT.fi (by decide)).up⟩
theorem pr_storm (l : Launch) (D : va_G) (cI cJ : ClassId) (t a : Nat → Nat) (mt ka : Nat) (kk vv : Nat → Nat) (i : Nat) (hi : i ≤ 511) (f g h : Nat → Int32) (τ σ : Nat → Nat → Int32) (hT : ST i f h τ σ) (x y : Int32) : PR2 Value.int l D cI cJ t a mt ka kk vv yX3_storm cX3_storm 4 yX4_storm cX4_storm 3 (some .int) i f g h τ σ [.int x, .int y] := by
  obtain ⟨n, d, hI, hd, hdi⟩ := id hT.1
  have h8 := hI.wk.2.1
  by_cases hb0 : ((nI 0 ≤ x ∧ x ≤ nI 5) ∧ (nI 0 ≤ y ∧ y ≤ nI 99))
  · skip
    obtain ⟨ce, hce9, rfl⟩ := rg_nat hb0.1 (by decide)
    obtain ⟨v, hv9, rfl⟩ := rg_nat hb0.2 (by decide)
    exact ⟨_, _, _, _, _, V3.wr (by decide) (c_X3_storm_ok l D cI cJ t f g h τ ce v (by omega) (by omega)), V4.wr (by decide) (c_X4_storm_ok l D cI cJ a f σ ce v (by omega) (by omega)), (hT.row (RW.of (hI.storm (by omega) hv9) (by rw [upd_ne (by omega)]; exact hd) hdi)).up⟩
  · skip
    exact ⟨_, _, _, _, _, V3.wr (by decide) (c_X3_storm_bad l D cI cJ t f g h τ x y hb0), V4.wr (by decide) (c_X4_storm_bad l D cI cJ a f σ x y hb0), (hT.fi (by decide)).up⟩
theorem pr_cask (l : Launch) (D : va_G) (cI cJ : ClassId) (t a : Nat → Nat) (mt ka : Nat) (kk vv : Nat → Nat) (i : Nat) (hi : i ≤ 511) (f g h : Nat → Int32) (τ σ : Nat → Nat → Int32) (hT : ST i f h τ σ) (x y : Int32) : PR2 Value.int l D cI cJ t a mt ka kk vv yX3_cask cX3_cask 3 yX4_cask cX4_cask 3 (some .int) i f g h τ σ [.int x, .int y] := by
  obtain ⟨n, d, hI, hd, hdi⟩ := id hT.1
  have h8 := hI.wk.2.1
  by_cases hb0 : ((nI 0 ≤ x ∧ x ≤ nI 6) ∧ (nI 0 ≤ y ∧ y ≤ nI 5))
  · skip
    obtain ⟨q, hq9, rfl⟩ := rg_nat hb0.1 (by decide)
    obtain ⟨ce, hce9, rfl⟩ := rg_nat hb0.2 (by decide)
    by_cases hn8 : n < 8
    · skip
      exact ⟨_, _, _, _, _, V3.wr (by decide) (c_X3_cask_ok l D cI cJ t f g h τ q ce (by omega) (by omega) n hI.wk (by omega)), V4.wr (by decide) (c_X4_cask_ok l D cI cJ a f σ q ce (by omega) (by omega) n hI.wk (by omega)), (hT.row (RW.of (hI.cask hn8 hq9 (by omega)) (by rw [sAd_o (by omega) (by omega)]; exact hd) hdi)).up⟩
    · skip
      exact ⟨_, _, _, _, _, V3.wr (by decide) (c_X3_cask_full l D cI cJ t f g h τ q ce (by omega) (by omega) n hI.wk (by omega)), V4.wr (by decide) (c_X4_cask_full l D cI cJ a f σ q ce (by omega) (by omega) n hI.wk (by omega)), (hT.fi (by decide)).up⟩
  · skip
    exact ⟨_, _, _, _, _, V3.wr (by decide) (c_X3_cask_bad l D cI cJ t f g h τ x y hb0), V4.wr (by decide) (c_X4_cask_bad l D cI cJ a f σ x y hb0), (hT.fi (by decide)).up⟩
theorem pr_of (l : Launch) (D : va_G) (cI cJ : ClassId) (t a : Nat → Nat) (mt ka : Nat) (kk vv : Nat → Nat) (i : Nat) (hi : i ≤ 511) (f g h : Nat → Int32) (τ σ : Nat → Nat → Int32) (hT : ST i f h τ σ) (x y : Int32) : PR2 Value.int l D cI cJ t a mt ka kk vv yX3_of cX3_of 3 yX4_of cX4_of 3 (some .int) i f g h τ σ [.int x, .int y] := by
  obtain ⟨n, d, hI, hd, hdi⟩ := id hT.1
  have h8 := hI.wk.2.1
  by_cases hb0 : ((0 ≤ x ∧ x < nI n) ∧ (nI 0 ≤ y ∧ y ≤ nI 9))
  · skip
    obtain ⟨k, hk9, rfl⟩ := rc_nat hb0.1 (by omega)
    obtain ⟨w, hw9, rfl⟩ := rg_nat hb0.2 (by decide)
    rcases (show w = 0 ∨ w = 1 ∨ w = 2 ∨ w = 3 ∨ w = 4 ∨ w = 5 ∨ w = 6 ∨ w = 7 ∨ w = 8 ∨ w = 9 by omega) with rfl | rfl | rfl | rfl | rfl | rfl | rfl | rfl | rfl | rfl
    · skip
      exact ⟨_, _, _, _, _, V3.wr (by decide) (c_X3_of_ok0 l D cI cJ t f g h τ k n hI.wk (by omega)), V4.wr (by decide) (c_X4_of_ok0 l D cI cJ a f σ k n hI.wk (by omega)), hT.up⟩
    · skip
      exact ⟨_, _, _, _, _, V3.wr (by decide) (c_X3_of_ok1 l D cI cJ t f g h τ k n hI.wk (by omega)), V4.wr (by decide) (c_X4_of_ok1 l D cI cJ a f σ k n hI.wk (by omega)), hT.up⟩
    · skip
      exact ⟨_, _, _, _, _, V3.wr (by decide) (c_X3_of_ok2 l D cI cJ t f g h τ k n hI.wk (by omega)), V4.wr (by decide) (c_X4_of_ok2 l D cI cJ a f σ k n hI.wk (by omega)), hT.up⟩
    · skip
      exact ⟨_, _, _, _, _, V3.wr (by decide) (c_X3_of_ok3 l D cI cJ t f g h τ k n hI.wk (by omega)), V4.wr (by decide) (c_X4_of_ok3 l D cI cJ a f σ k n hI.wk (by omega)), hT.up⟩
    · skip
      exact ⟨_, _, _, _, _, V3.wr (by decide) (c_X3_of_ok4 l D cI cJ t f g h τ k n hI.wk (by omega)), V4.wr (by decide) (c_X4_of_ok4 l D cI cJ a f σ k n hI.wk (by omega)), hT.up⟩
    · skip
      exact ⟨_, _, _, _, _, V3.wr (by decide) (c_X3_of_ok5 l D cI cJ t f g h τ k n hI.wk (by omega)), V4.wr (by decide) (c_X4_of_ok5 l D cI cJ a f σ k n hI.wk (by omega)), hT.up⟩
    · skip
      exact ⟨_, _, _, _, _, V3.wr (by decide) (c_X3_of_ok6 l D cI cJ t f g h τ k n hI.wk (by omega)), V4.wr (by decide) (c_X4_of_ok6 l D cI cJ a f σ k n hI.wk (by omega)), hT.up⟩
    · skip
      exact ⟨_, _, _, _, _, V3.wr (by decide) (c_X3_of_ok7 l D cI cJ t f g h τ k n hI.wk (by omega)), V4.wr (by decide) (c_X4_of_ok7 l D cI cJ a f σ k n hI.wk (by omega)), hT.up⟩
    · skip
      exact ⟨_, _, _, _, _, V3.wr (by decide) (c_X3_of_ok8 l D cI cJ t f g h τ k n hI.wk (by omega)), V4.wr (by decide) (c_X4_of_ok8 l D cI cJ a f σ k n hI.wk (by omega)), hT.up⟩
    · skip
      exact ⟨_, _, _, _, _, V3.wr (by decide) (c_X3_of_ok9 l D cI cJ t f g h τ k n hI.wk (by omega)), V4.wr (by decide) (c_X4_of_ok9 l D cI cJ a f σ k n hI.wk (by omega)), hT.up⟩
  · skip
    exact ⟨_, _, _, _, _, V3.wr (by decide) (c_X3_of_bad l D cI cJ t f g h τ x y n hI.wk hb0), V4.wr (by decide) (c_X4_of_bad l D cI cJ a f σ x y n hI.wk hb0), (hT.fi (by decide)).up⟩
theorem pr_change (l : Launch) (D : va_G) (cI cJ : ClassId) (t a : Nat → Nat) (mt ka : Nat) (kk vv : Nat → Nat) (i : Nat) (hi : i ≤ 511) (f g h : Nat → Int32) (τ σ : Nat → Nat → Int32) (hT : ST i f h τ σ) (x y z : Int32) : PR2 Value.int l D cI cJ t a mt ka kk vv yX3_change cX3_change 6 yX4_change cX4_change 5 (some .int) i f g h τ σ [.int x, .int y, .int z] := by
  obtain ⟨n, d, hI, hd, hdi⟩ := id hT.1
  have h8 := hI.wk.2.1
  by_cases hb0 : ((0 ≤ x ∧ x < nI n) ∧ (nI 0 ≤ y ∧ y ≤ nI 6) ∧ (nI 0 ≤ z ∧ z ≤ gOf y))
  · skip
    obtain ⟨k, hk9, rfl⟩ := rc_nat hb0.1 (by omega)
    obtain ⟨w, hw9, rfl⟩ := rg_nat hb0.2.1 (by decide)
    have hz := hb0.2.2
    rw [gOf_mst hw9] at hz
    rcases (show w = 0 ∨ w = 1 ∨ w = 2 ∨ w = 3 ∨ w = 4 ∨ w = 5 ∨ w = 6 by omega) with rfl | rfl | rfl | rfl | rfl | rfl | rfl
    · skip
      obtain ⟨v, hv9, rfl⟩ := rg_nat (a := 6) hz (by decide)
      exact ⟨_, _, _, _, _, V3.wz (by decide) (c_X3_change_ok0 l D cI cJ t f g h τ mt ka k v n hI.wk (by omega) (by omega)), V4.wr (by decide) (c_X4_change_ok0 l D cI cJ a f σ k v n hI.wk (by omega) (by omega)), (hT.row (RW.of (hI.change (w := 0) hk9 (by decide) (by omega) (by omega) (by omega)) (by unfold fu; rw [upd_ne (by omega)]; exact hd) hdi)).up⟩
    · skip
      obtain ⟨v, hv9, rfl⟩ := rg_nat (a := 5) hz (by decide)
      exact ⟨_, _, _, _, _, V3.wz (by decide) (c_X3_change_ok1 l D cI cJ t f g h τ mt ka k v n hI.wk (by omega) (by omega)), V4.wr (by decide) (c_X4_change_ok1 l D cI cJ a f σ k v n hI.wk (by omega) (by omega)), (hT.row (RW.of (hI.change (w := 1) hk9 (by decide) (by omega) (by omega) (by omega)) (by unfold fu; rw [upd_ne (by omega)]; exact hd) hdi)).up⟩
    · skip
      obtain ⟨v, hv9, rfl⟩ := rg_nat (a := 999) hz (by decide)
      exact ⟨_, _, _, _, _, V3.wz (by decide) (c_X3_change_ok2 l D cI cJ t f g h τ mt ka k v n hI.wk (by omega) (by omega)), V4.wr (by decide) (c_X4_change_ok2 l D cI cJ a f σ k v n hI.wk (by omega) (by omega)), (hT.row (RW.of (hI.change (w := 2) hk9 (by decide) (by omega) (by omega) (by omega)) (by unfold fu; rw [upd_ne (by omega)]; exact hd) hdi)).up⟩
    · skip
      obtain ⟨v, hv9, rfl⟩ := rg_nat (a := 11) hz (by decide)
      exact ⟨_, _, _, _, _, V3.wz (by decide) (c_X3_change_ok3 l D cI cJ t f g h τ mt ka k v n hI.wk (by omega) (by omega)), V4.wr (by decide) (c_X4_change_ok3 l D cI cJ a f σ k v n hI.wk (by omega) (by omega)), (hT.row (RW.of (hI.change (w := 3) hk9 (by decide) (by omega) (by omega) (by omega)) (by unfold fu; rw [upd_ne (by omega)]; exact hd) hdi)).up⟩
    · skip
      obtain ⟨v, hv9, rfl⟩ := rg_nat (a := 999) hz (by decide)
      exact ⟨_, _, _, _, _, V3.wz (by decide) (c_X3_change_ok4 l D cI cJ t f g h τ mt ka k v n hI.wk (by omega) (by omega)), V4.wr (by decide) (c_X4_change_ok4 l D cI cJ a f σ k v n hI.wk (by omega) (by omega)), (hT.row (RW.of (hI.change (w := 4) hk9 (by decide) (by omega) (by omega) (by omega)) (by unfold fu; rw [upd_ne (by omega)]; exact hd) hdi)).up⟩
    · skip
      obtain ⟨v, hv9, rfl⟩ := rg_nat (a := 999) hz (by decide)
      exact ⟨_, _, _, _, _, V3.wz (by decide) (c_X3_change_ok5 l D cI cJ t f g h τ mt ka k v n hI.wk (by omega) (by omega)), V4.wr (by decide) (c_X4_change_ok5 l D cI cJ a f σ k v n hI.wk (by omega) (by omega)), (hT.row (RW.of (hI.change (w := 5) hk9 (by decide) (by omega) (by omega) (by omega)) (by unfold fu; rw [upd_ne (by omega)]; exact hd) hdi)).up⟩
    · skip
      obtain ⟨v, hv9, rfl⟩ := rg_nat (a := 999) hz (by decide)
      exact ⟨_, _, _, _, _, V3.wz (by decide) (c_X3_change_ok6 l D cI cJ t f g h τ mt ka k v n hI.wk (by omega) (by omega)), V4.wr (by decide) (c_X4_change_ok6 l D cI cJ a f σ k v n hI.wk (by omega) (by omega)), (hT.row (RW.of (hI.change (w := 6) hk9 (by decide) (by omega) (by omega) (by omega)) (by unfold fu; rw [upd_ne (by omega)]; exact hd) hdi)).up⟩
  · skip
    exact ⟨_, _, _, _, _, V3.wz (by decide) (c_X3_change_bad l D cI cJ t f g h τ mt ka x y z n hI.wk hb0), V4.wr (by decide) (c_X4_change_bad l D cI cJ a f σ x y z n hI.wk hb0), (hT.fi (by decide)).up⟩
theorem pr_sell (l : Launch) (D : va_G) (cI cJ : ClassId) (t a : Nat → Nat) (mt ka : Nat) (kk vv : Nat → Nat) (i : Nat) (hi : i ≤ 511) (f g h : Nat → Int32) (τ σ : Nat → Nat → Int32) (hT : ST i f h τ σ) (x : Int32) : PR2 Value.int l D cI cJ t a mt ka kk vv yX3_sell cX3_sell 3 yX4_sell cX4_sell 3 (some .int) i f g h τ σ [.int x] := by
  obtain ⟨n, d, hI, hd, hdi⟩ := id hT.1
  have h8 := hI.wk.2.1
  by_cases hb0 : ((0 ≤ x ∧ x < nI n))
  · skip
    obtain ⟨k, hk9, rfl⟩ := rc_nat hb0 (by omega)
    exact ⟨_, _, _, _, _, V3.wr (by decide) (c_X3_sell_ok l D cI cJ t f g h τ k n hI.wk (by omega)), V4.wr (by decide) (c_X4_sell_ok l D cI cJ a f σ k n hI.wk (by omega)), (hT.row (RW.of (hI.sell hk9) (by unfold sEy fu; rw [upd_ne (by omega), upd_ne (by omega)]; exact hd) hdi)).up⟩
  · skip
    exact ⟨_, _, _, _, _, V3.wr (by decide) (c_X3_sell_bad l D cI cJ t f g h τ x n hI.wk hb0), V4.wr (by decide) (c_X4_sell_bad l D cI cJ a f σ x n hI.wk hb0), (hT.fi (by decide)).up⟩
theorem pr_go (l : Launch) (D : va_G) (cI cJ : ClassId) (t a : Nat → Nat) (mt ka : Nat) (kk vv : Nat → Nat) (i : Nat) (hi : i ≤ 511) (f g h : Nat → Int32) (τ σ : Nat → Nat → Int32) (hT : ST i f h τ σ) (x : Int32) : PR2 Value.int l D cI cJ t a mt ka kk vv yX3_go cX3_go 2 yX4_go cX4_go 2 (some .int) i f g h τ σ [.int x] := by
  obtain ⟨n, d, hI, hd, hdi⟩ := id hT.1
  have h8 := hI.wk.2.1
  by_cases hb0 : ((nI 1 ≤ x ∧ x ≤ nI 60))
  · skip
    obtain ⟨u, hu1, hu9, rfl⟩ := rg1_nat hb0 (by decide)
    exact ⟨_, _, _, _, _, V3.wr (by decide) (c_X3_go_ok l D cI cJ t f g h τ u n hI.wk d hd hI.pk hI.sk (by omega) (by omega) (by omega)), V4.wr (by decide) (c_X4_go_ok l D cI cJ a f σ u n hI.wk d hd (by omega) (by omega) (by omega)), (hT.up).row (RW.of (hI.go hd (by omega)) (sGo_1 h8 hd) (by omega))⟩
  · skip
    exact ⟨_, _, _, _, _, V3.wr (by decide) (c_X3_go_bad l D cI cJ t f g h τ x hb0), V4.wr (by decide) (c_X4_go_bad l D cI cJ a f σ x hb0), (hT.fi (by decide)).up⟩
theorem pr_now (l : Launch) (D : va_G) (cI cJ : ClassId) (t a : Nat → Nat) (mt ka : Nat) (kk vv : Nat → Nat) (i : Nat) (hi : i ≤ 511) (f g h : Nat → Int32) (τ σ : Nat → Nat → Int32) (hT : ST i f h τ σ) (x : Int32) : PR2 Value.int l D cI cJ t a mt ka kk vv yX3_now cX3_now 2 yX4_now cX4_now 2 (some .int) i f g h τ σ [.int x] := by
  obtain ⟨n, d, hI, hd, hdi⟩ := id hT.1
  have h8 := hI.wk.2.1
  by_cases hb0 : ((nI 0 ≤ x ∧ x ≤ nI 6))
  · skip
    obtain ⟨w, hw9, rfl⟩ := rg_nat hb0 (by decide)
    rcases (show w = 0 ∨ w = 1 ∨ w = 2 ∨ w = 3 ∨ w = 4 ∨ w = 5 ∨ w = 6 by omega) with rfl | rfl | rfl | rfl | rfl | rfl | rfl
    · skip
      exact ⟨_, _, _, _, _, V3.wr (by decide) (c_X3_now_ok0 l D cI cJ t f g h τ n hI.wk), V4.wr (by decide) (c_X4_now_ok0 l D cI cJ a f σ n hI.wk), hT.up⟩
    · skip
      exact ⟨_, _, _, _, _, V3.wr (by decide) (c_X3_now_ok1 l D cI cJ t f g h τ n hI.wk), V4.wr (by decide) (c_X4_now_ok1 l D cI cJ a f σ n hI.wk), hT.up⟩
    · skip
      exact ⟨_, _, _, _, _, V3.wr (by decide) (c_X3_now_ok2 l D cI cJ t f g h τ n hI.wk), V4.wr (by decide) (c_X4_now_ok2 l D cI cJ a f σ n hI.wk), hT.up⟩
    · skip
      exact ⟨_, _, _, _, _, V3.wr (by decide) (c_X3_now_ok3 l D cI cJ t f g h τ n hI.wk), V4.wr (by decide) (c_X4_now_ok3 l D cI cJ a f σ n hI.wk), hT.up⟩
    · skip
      exact ⟨_, _, _, _, _, V3.wr (by decide) (c_X3_now_ok4 l D cI cJ t f g h τ n hI.wk), V4.wr (by decide) (c_X4_now_ok4 l D cI cJ a f σ n hI.wk), hT.up⟩
    · skip
      exact ⟨_, _, _, _, _, V3.wr (by decide) (c_X3_now_ok5 l D cI cJ t f g h τ n hI.wk hI.pk hI.ak), V4.wr (by decide) (c_X4_now_ok5 l D cI cJ a f σ n hI.wk), hT.up⟩
    · skip
      exact ⟨_, _, _, _, _, V3.wr (by decide) (c_X3_now_ok6 l D cI cJ t f g h τ n hI.wk), V4.wr (by decide) (c_X4_now_ok6 l D cI cJ a f σ n hI.wk), hT.up⟩
  · skip
    exact ⟨_, _, _, _, _, V3.wr (by decide) (c_X3_now_bad l D cI cJ t f g h τ x hb0), V4.wr (by decide) (c_X4_now_bad l D cI cJ a f σ x hb0), (hT.fi (by decide)).up⟩
theorem pr_ahead (l : Launch) (D : va_G) (cI cJ : ClassId) (t a : Nat → Nat) (mt ka : Nat) (kk vv : Nat → Nat) (i : Nat) (hi : i ≤ 511) (f g h : Nat → Int32) (τ σ : Nat → Nat → Int32) (hT : ST i f h τ σ) (x y z : Int32) : PR2 Value.int l D cI cJ t a mt ka kk vv yX3_ahead cX3_ahead 4 yX4_ahead cX4_ahead 5 (some .int) i f g h τ σ [.int x, .int y, .int z] := by
  obtain ⟨n, d, hI, hd, hdi⟩ := id hT.1
  have h8 := hI.wk.2.1
  by_cases hb0 : ((0 ≤ x ∧ x < nI n) ∧ (y = nI 2 ∨ (nI 5 ≤ y ∧ y ≤ nI 7)) ∧ (nI 0 ≤ z ∧ z ≤ nI 100))
  · skip
    obtain ⟨k, hk9, rfl⟩ := rc_nat hb0.1 (by omega)
    obtain ⟨u, hu9, rfl⟩ := rg_nat hb0.2.2 (by decide)
    have hy : ∃ w, (w = 2 ∨ w = 5 ∨ w = 6 ∨ w = 7) ∧ y = nI w := by
      rcases hb0.2.1 with h2 | h2
      · exact ⟨2, Or.inl rfl, h2⟩
      · have h0 : nI 0 ≤ y := Int32.le_trans (by decide) h2.1
        obtain ⟨w, hw9, rfl⟩ := rg_nat (a := 7) ⟨h0, h2.2⟩ (by decide)
        have h5 := (nI_leI (by decide) (by omega)).mp h2.1
        exact ⟨w, by omega, rfl⟩
    obtain ⟨w, hw9, rfl⟩ := hy
    rcases hw9 with rfl | rfl | rfl | rfl
    · skip
      exact ⟨_, _, _, _, _, V3.wr (by decide) (c_X3_ahead_ok2 l D cI cJ t f g h τ k u n hI.wk d hd hI.pk hI.sk (by omega) (by omega) (by omega)), V4.wr (by decide) (c_X4_ahead_ok2 l D cI cJ a f σ k u n hI.wk d hd (by omega) (by omega) (by omega)), hT.up⟩
    · skip
      exact ⟨_, _, _, _, _, V3.wr (by decide) (c_X3_ahead_ok5 l D cI cJ t f g h τ k u n hI.wk d hd hI.pk hI.sk (by omega) (by omega) (by omega)), V4.wr (by decide) (c_X4_ahead_ok5 l D cI cJ a f σ k u n hI.wk d hd (by omega) (by omega) (by omega)), hT.up⟩
    · skip
      exact ⟨_, _, _, _, _, V3.wr (by decide) (c_X3_ahead_ok6 l D cI cJ t f g h τ k u n hI.wk d hd hI.pk hI.sk (by omega) (by omega) (by omega)), V4.wr (by decide) (c_X4_ahead_ok6 l D cI cJ a f σ k u n hI.wk d hd (by omega) (by omega) (by omega)), hT.up⟩
    · skip
      exact ⟨_, _, _, _, _, V3.wr (by decide) (c_X3_ahead_ok7 l D cI cJ t f g h τ k u n hI.wk d hd hI.pk hI.sk (by omega) (by omega) (by omega)), V4.wr (by decide) (c_X4_ahead_ok7 l D cI cJ a f σ k u n hI.wk d hd (by omega) (by omega) (by omega)), hT.up⟩
  · skip
    exact ⟨_, _, _, _, _, V3.wr (by decide) (c_X3_ahead_bad l D cI cJ t f g h τ x y z n hI.wk hb0), V4.wr (by decide) (c_X4_ahead_bad l D cI cJ a f σ x y z n hI.wk hb0), (hT.fi (by decide)).up⟩
theorem pr_claps (l : Launch) (D : va_G) (cI cJ : ClassId) (t a : Nat → Nat) (mt ka : Nat) (kk vv : Nat → Nat) (i : Nat) (hi : i ≤ 511) (f g h : Nat → Int32) (τ σ : Nat → Nat → Int32) (hT : ST i f h τ σ) (x : Int32) : PR2 Value.int l D cI cJ t a mt ka kk vv yX3_claps cX3_claps 2 yX4_claps cX4_claps 2 (some .int) i f g h τ σ [.int x] := by
  obtain ⟨n, d, hI, hd, hdi⟩ := id hT.1
  have h8 := hI.wk.2.1
  by_cases hb0 : ((nI 0 ≤ x ∧ x ≤ nI 100))
  · skip
    obtain ⟨u, hu9, rfl⟩ := rg_nat hb0 (by decide)
    exact ⟨_, _, _, _, _, V3.wr (by decide) (c_X3_claps_ok l D cI cJ t f g h τ u n hI.wk d hd hI.pk hI.sk (by omega) (by omega)), V4.wr (by decide) (c_X4_claps_ok l D cI cJ a f σ u n hI.wk d hd (by omega) (by omega)), hT.up⟩
  · skip
    exact ⟨_, _, _, _, _, V3.wr (by decide) (c_X3_claps_bad l D cI cJ t f g h τ x hb0), V4.wr (by decide) (c_X4_claps_bad l D cI cJ a f σ x hb0), (hT.fi (by decide)).up⟩
theorem pr_chain (l : Launch) (D : va_G) (cI cJ : ClassId) (t a : Nat → Nat) (mt ka : Nat) (kk vv : Nat → Nat) (i : Nat) (hi : i ≤ 511) (f g h : Nat → Int32) (τ σ : Nat → Nat → Int32) (hT : ST i f h τ σ) (x : Int32) : PR2 Value.int l D cI cJ t a mt ka kk vv yX3_chain cX3_chain 4 yX4_chain cX4_chain 4 (some .int) i f g h τ σ [.int x] := by
  obtain ⟨n, d, hI, hd, hdi⟩ := id hT.1
  have h8 := hI.wk.2.1
  by_cases hb0 : ((nI 0 ≤ x ∧ x ≤ nI 60))
  · skip
    obtain ⟨u, hu9, rfl⟩ := rg_nat hb0 (by decide)
    exact ⟨_, _, _, _, _, V3.wr (by decide) (c_X3_chain_ok l D cI cJ t f g h τ u n hI.wk d hd hI.pk hI.sk (by omega) (by omega)), V4.wr (by decide) (c_X4_chain_ok l D cI cJ a f σ u n hI.wk d hd (by omega) (by omega)), hT.up⟩
  · skip
    exact ⟨_, _, _, _, _, V3.wr (by decide) (c_X3_chain_bad l D cI cJ t f g h τ x hb0), V4.wr (by decide) (c_X4_chain_bad l D cI cJ a f σ x hb0), (hT.fi (by decide)).up⟩
theorem pr_bursts (l : Launch) (D : va_G) (cI cJ : ClassId) (t a : Nat → Nat) (mt ka : Nat) (kk vv : Nat → Nat) (i : Nat) (hi : i ≤ 511) (f g h : Nat → Int32) (τ σ : Nat → Nat → Int32) (hT : ST i f h τ σ) (x : Int32) : PR2 Value.int l D cI cJ t a mt ka kk vv yX3_bursts cX3_bursts 3 yX4_bursts cX4_bursts 4 (some .int) i f g h τ σ [.int x] := by
  obtain ⟨n, d, hI, hd, hdi⟩ := id hT.1
  have h8 := hI.wk.2.1
  by_cases hb0 : ((0 ≤ x ∧ x < nI n))
  · skip
    obtain ⟨k, hk9, rfl⟩ := rc_nat hb0 (by omega)
    exact ⟨_, _, _, _, _, V3.we (by decide) (c_X3_bursts_ok l D cI cJ t f g h τ k n hI.wk d hd hI.pk hI.sk hI.bk (by omega) (by omega)), V4.wr (by decide) (c_X4_bursts_ok l D cI cJ a f σ k n hI.wk d hd (by omega) (by omega)), (hT.aside.opt _).up⟩
  · skip
    exact ⟨_, _, _, _, _, V3.wr (by decide) (c_X3_bursts_bad l D cI cJ t f g h τ x n hI.wk hb0), V4.wr (by decide) (c_X4_bursts_bad l D cI cJ a f σ x n hI.wk hb0), (hT.fi (by decide)).up⟩
theorem pr_when (l : Launch) (D : va_G) (cI cJ : ClassId) (t a : Nat → Nat) (mt ka : Nat) (kk vv : Nat → Nat) (i : Nat) (hi : i ≤ 511) (f g h : Nat → Int32) (τ σ : Nat → Nat → Int32) (hT : ST i f h τ σ) (x y : Int32) : PR2 Value.int l D cI cJ t a mt ka kk vv yX3_when cX3_when 4 yX4_when cX4_when 4 (some .int) i f g h τ σ [.int x, .int y] := by
  obtain ⟨n, d, hI, hd, hdi⟩ := id hT.1
  have h8 := hI.wk.2.1
  by_cases hb0 : ((0 ≤ x ∧ x < nI n) ∧ (nI 0 ≤ y ∧ y ≤ nI 2000))
  · skip
    obtain ⟨k, hk9, rfl⟩ := rc_nat hb0.1 (by omega)
    obtain ⟨v, hv9, rfl⟩ := rg_nat hb0.2 (by decide)
    exact ⟨_, _, _, _, _, V3.we (by decide) (c_X3_when_ok l D cI cJ t f g h τ k v n hI.wk d hd hI.pk hI.sk (by omega) (by omega) (by omega)), V4.wr (by decide) (c_X4_when_ok l D cI cJ a f σ k v n hI.wk d hd (by omega) (by omega) (by omega)), (hT.aside.opt _).up⟩
  · skip
    exact ⟨_, _, _, _, _, V3.wr (by decide) (c_X3_when_bad l D cI cJ t f g h τ x y n hI.wk hb0), V4.wr (by decide) (c_X4_when_bad l D cI cJ a f σ x y n hI.wk hb0), (hT.fi (by decide)).up⟩
theorem pr_lay (l : Launch) (D : va_G) (cI cJ : ClassId) (t a : Nat → Nat) (mt ka : Nat) (kk vv : Nat → Nat) (i : Nat) (hi : i ≤ 511) (f g h : Nat → Int32) (τ σ : Nat → Nat → Int32) (hT : ST i f h τ σ) (x y : Int32) : PR2 Value.int l D cI cJ t a mt ka kk vv yX3_lay cX3_lay 3 yX4_lay cX4_lay 3 (some .int) i f g h τ σ [.int x, .int y] := by
  obtain ⟨n, d, hI, hd, hdi⟩ := id hT.1
  have h8 := hI.wk.2.1
  by_cases hb0 : ((0 ≤ x ∧ x < nI n) ∧ (nI 0 ≤ y ∧ y ≤ nI 40))
  · skip
    obtain ⟨k, hk9, rfl⟩ := rc_nat hb0.1 (by omega)
    obtain ⟨u, hu9, rfl⟩ := rg_nat hb0.2 (by decide)
    exact ⟨_, _, _, _, _, V3.wz (by decide) (c_X3_lay_ok l D cI cJ t f g h τ mt ka k u n hI.wk d hd hI.pk hI.sk (by omega) (by omega) (by omega)), V4.wr (by decide) (c_X4_lay_ok l D cI cJ a f σ k u n hI.wk d hd (by omega) (by omega) (by omega)), hT.up⟩
  · skip
    exact ⟨_, _, _, _, _, V3.wz (by decide) (c_X3_lay_bad l D cI cJ t f g h τ mt ka x y n hI.wk hb0), V4.wr (by decide) (c_X4_lay_bad l D cI cJ a f σ x y n hI.wk hb0), (hT.fi (by decide)).up⟩
theorem pr_kindFor (l : Launch) (D : va_G) (cI cJ : ClassId) (t a : Nat → Nat) (mt ka : Nat) (kk vv : Nat → Nat) (i : Nat) (hi : i ≤ 511) (f g h : Nat → Int32) (τ σ : Nat → Nat → Int32) (hT : ST i f h τ σ) (x y : Int32) : PR2 Value.int l D cI cJ t a mt ka kk vv yX3_kindFor cX3_kindFor 3 yX4_kindFor cX4_kindFor 3 (some .int) i f g h τ σ [.int x, .int y] := by
  obtain ⟨n, d, hI, hd, hdi⟩ := id hT.1
  have h8 := hI.wk.2.1
  by_cases hb0 : ((0 ≤ x ∧ x < nI n) ∧ (nI 0 ≤ y ∧ y ≤ nI 40))
  · skip
    obtain ⟨k, hk9, rfl⟩ := rc_nat hb0.1 (by omega)
    obtain ⟨u, hu9, rfl⟩ := rg_nat hb0.2 (by decide)
    exact ⟨_, _, _, _, _, V3.wz (by decide) (c_X3_kindFor_ok l D cI cJ t f g h τ mt ka k u n hI.wk d hd hI.pk hI.sk (by omega) (by omega) (by omega)), V4.wr (by decide) (c_X4_kindFor_ok l D cI cJ a f σ k u n hI.wk d hd (by omega) (by omega) (by omega)), hT.up⟩
  · skip
    exact ⟨_, _, _, _, _, V3.wz (by decide) (c_X3_kindFor_bad l D cI cJ t f g h τ mt ka x y n hI.wk hb0), V4.wr (by decide) (c_X4_kindFor_bad l D cI cJ a f σ x y n hI.wk hb0), (hT.fi (by decide)).up⟩
theorem pr_pitchFor (l : Launch) (D : va_G) (cI cJ : ClassId) (t a : Nat → Nat) (mt ka : Nat) (kk vv : Nat → Nat) (i : Nat) (hi : i ≤ 511) (f g h : Nat → Int32) (τ σ : Nat → Nat → Int32) (hT : ST i f h τ σ) (x y : Int32) : PR2 Value.int l D cI cJ t a mt ka kk vv yX3_pitchFor cX3_pitchFor 3 yX4_pitchFor cX4_pitchFor 3 (some .int) i f g h τ σ [.int x, .int y] := by
  obtain ⟨n, d, hI, hd, hdi⟩ := id hT.1
  have h8 := hI.wk.2.1
  by_cases hb0 : ((0 ≤ x ∧ x < nI n) ∧ (nI 0 ≤ y ∧ y ≤ nI 40))
  · skip
    obtain ⟨k, hk9, rfl⟩ := rc_nat hb0.1 (by omega)
    obtain ⟨u, hu9, rfl⟩ := rg_nat hb0.2 (by decide)
    exact ⟨_, _, _, _, _, V3.wz (by decide) (c_X3_pitchFor_ok l D cI cJ t f g h τ mt ka k u n hI.wk d hd hI.pk hI.sk (by omega) (by omega) (by omega)), V4.wr (by decide) (c_X4_pitchFor_ok l D cI cJ a f σ k u n hI.wk d hd (by omega) (by omega) (by omega)), hT.up⟩
  · skip
    exact ⟨_, _, _, _, _, V3.wz (by decide) (c_X3_pitchFor_bad l D cI cJ t f g h τ mt ka x y n hI.wk hb0), V4.wr (by decide) (c_X4_pitchFor_bad l D cI cJ a f σ x y n hI.wk hb0), (hT.fi (by decide)).up⟩
theorem pr_hoopsFor (l : Launch) (D : va_G) (cI cJ : ClassId) (t a : Nat → Nat) (mt ka : Nat) (kk vv : Nat → Nat) (i : Nat) (hi : i ≤ 511) (f g h : Nat → Int32) (τ σ : Nat → Nat → Int32) (hT : ST i f h τ σ) (x y : Int32) : PR2 Value.int l D cI cJ t a mt ka kk vv yX3_hoopsFor cX3_hoopsFor 4 yX4_hoopsFor cX4_hoopsFor 6 (some .int) i f g h τ σ [.int x, .int y] := by
  obtain ⟨n, d, hI, hd, hdi⟩ := id hT.1
  have h8 := hI.wk.2.1
  by_cases hb0 : ((0 ≤ x ∧ x < nI n) ∧ (nI 0 ≤ y ∧ y ≤ nI 20))
  · skip
    obtain ⟨k, hk9, rfl⟩ := rc_nat hb0.1 (by omega)
    obtain ⟨u, hu9, rfl⟩ := rg_nat hb0.2 (by decide)
    exact ⟨_, _, _, _, _, V3.we (by decide) (c_X3_hoopsFor_ok l D cI cJ t f g h τ k u n hI.wk d hd hI.pk hI.sk hI.bk (by omega) (by omega) (by omega)), V4.wr (by decide) (c_X4_hoopsFor_ok l D cI cJ a f σ k u n hI.wk d hd (by omega) (by omega) (by omega)), (hT.lb.opt _).up⟩
  · skip
    exact ⟨_, _, _, _, _, V3.wr (by decide) (c_X3_hoopsFor_bad l D cI cJ t f g h τ x y n hI.wk hb0), V4.wr (by decide) (c_X4_hoopsFor_bad l D cI cJ a f σ x y n hI.wk hb0), (hT.fi (by decide)).up⟩
theorem pr_frostFor (l : Launch) (D : va_G) (cI cJ : ClassId) (t a : Nat → Nat) (mt ka : Nat) (kk vv : Nat → Nat) (i : Nat) (hi : i ≤ 511) (f g h : Nat → Int32) (τ σ : Nat → Nat → Int32) (hT : ST i f h τ σ) (x y : Int32) : PR2 Value.int l D cI cJ t a mt ka kk vv yX3_frostFor cX3_frostFor 4 yX4_frostFor cX4_frostFor 6 (some .int) i f g h τ σ [.int x, .int y] := by
  obtain ⟨n, d, hI, hd, hdi⟩ := id hT.1
  have h8 := hI.wk.2.1
  by_cases hb0 : ((nI 0 ≤ x ∧ x ≤ nI 5) ∧ (nI 0 ≤ y ∧ y ≤ nI 40))
  · skip
    obtain ⟨ce, hce9, rfl⟩ := rg_nat hb0.1 (by decide)
    obtain ⟨u, hu9, rfl⟩ := rg_nat hb0.2 (by decide)
    exact ⟨_, _, _, _, _, V3.we (by decide) (c_X3_frostFor_ok l D cI cJ t f g h τ ce u n hI.wk d hd hI.pk hI.sk hI.bk (by omega) (by omega) (by omega)), V4.wr (by decide) (c_X4_frostFor_ok l D cI cJ a f σ ce u n hI.wk d hd (by omega) (by omega) (by omega)), (hT.fr.opt _).up⟩
  · skip
    exact ⟨_, _, _, _, _, V3.wr (by decide) (c_X3_frostFor_bad l D cI cJ t f g h τ x y hb0), V4.wr (by decide) (c_X4_frostFor_bad l D cI cJ a f σ x y hb0), (hT.fi (by decide)).up⟩
theorem pr_empty (l : Launch) (D : va_G) (cI cJ : ClassId) (t a : Nat → Nat) (mt ka : Nat) (kk vv : Nat → Nat) (i : Nat) (hi : i ≤ 511) (f g h : Nat → Int32) (τ σ : Nat → Nat → Int32) (hT : ST i f h τ σ) (x : Int32) : PR2 Value.int l D cI cJ t a mt ka kk vv yX3_empty cX3_empty 5 yX4_empty cX4_empty 6 (some .int) i f g h τ σ [.int x] := by
  obtain ⟨n, d, hI, hd, hdi⟩ := id hT.1
  have h8 := hI.wk.2.1
  by_cases hb0 : ((nI 0 ≤ x ∧ x ≤ nI 12))
  · skip
    obtain ⟨u, hu9, rfl⟩ := rg_nat hb0 (by decide)
    exact ⟨_, _, _, _, _, V3.we (by decide) (c_X3_empty_ok l D cI cJ t f g h τ u n hI.wk d hd hI.pk hI.sk hI.bk (by omega) (by omega)), V4.wr (by decide) (c_X4_empty_ok l D cI cJ a f σ u n hI.wk d hd (by omega) (by omega)), (hT.aside.opt _).up⟩
  · skip
    exact ⟨_, _, _, _, _, V3.wr (by decide) (c_X3_empty_bad l D cI cJ t f g h τ x hb0), V4.wr (by decide) (c_X4_empty_bad l D cI cJ a f σ x hb0), (hT.fi (by decide)).up⟩
theorem pr_blend (l : Launch) (D : va_G) (cI cJ : ClassId) (t a : Nat → Nat) (mt ka : Nat) (kk vv : Nat → Nat) (i : Nat) (hi : i ≤ 511) (f g h : Nat → Int32) (τ σ : Nat → Nat → Int32) (hT : ST i f h τ σ) (x : Int32) : PR2 Value.int l D cI cJ t a mt ka kk vv yX3_blend cX3_blend 2 yX4_blend cX4_blend 2 (some .int) i f g h τ σ [.int x] := by
  obtain ⟨n, d, hI, hd, hdi⟩ := id hT.1
  have h8 := hI.wk.2.1
  by_cases hb0 : (nI 0 ≤ x ∧ x ≤ nI (2 ^ n - 1))
  · skip
    have h2n : 2 ^ n ≤ 2 ^ 8 := Nat.pow_le_pow_right (by decide) h8
    obtain ⟨q, hq9, rfl⟩ := rg_nat hb0 (by omega)
    exact ⟨_, _, _, _, _, V3.wr (by decide) (c_X3_blend_ok l D cI cJ t f g h τ q n hI.wk hq9), V4.wr (by decide) (c_X4_blend_ok l D cI cJ a f σ q n hI.wk hq9), hT.up⟩
  · skip
    exact ⟨_, _, _, _, _, V3.wr (by decide) (c_X3_blend_bad l D cI cJ t f g h τ x n hI.wk hb0), V4.wr (by decide) (c_X4_blend_bad l D cI cJ a f σ x n hI.wk hb0), (hT.fi (by decide)).up⟩
theorem pr_order (l : Launch) (D : va_G) (cI cJ : ClassId) (t a : Nat → Nat) (mt ka : Nat) (kk vv : Nat → Nat) (i : Nat) (hi : i ≤ 511) (f g h : Nat → Int32) (τ σ : Nat → Nat → Int32) (hT : ST i f h τ σ) (x : Int32) : PR2 Value.int l D cI cJ t a mt ka kk vv yX3_order cX3_order 6 yX4_order cX4_order 4 (some .int) i f g h τ σ [.int x] := by
  obtain ⟨n, d, hI, hd, hdi⟩ := id hT.1
  have h8 := hI.wk.2.1
  by_cases hb0 : ((nI 0 ≤ x ∧ x ≤ nI 9999))
  · skip
    obtain ⟨v, hv9, rfl⟩ := rg_nat hb0 (by decide)
    exact ⟨_, _, _, _, _, V3.wr (by decide) (c_X3_order_ok l D cI cJ t f g h τ v n hI.wk (by omega)), V4.wr (by decide) (c_X4_order_ok l D cI cJ a f σ v n hI.wk (by omega)), (hT.opt _).up⟩
  · skip
    exact ⟨_, _, _, _, _, V3.wr (by decide) (c_X3_order_bad l D cI cJ t f g h τ x hb0), V4.wr (by decide) (c_X4_order_bad l D cI cJ a f σ x hb0), (hT.fi (by decide)).up⟩
theorem pr_blends (l : Launch) (D : va_G) (cI cJ : ClassId) (t a : Nat → Nat) (mt ka : Nat) (kk vv : Nat → Nat) (i : Nat) (hi : i ≤ 511) (f g h : Nat → Int32) (τ σ : Nat → Nat → Int32) (hT : ST i f h τ σ) (x y : Int32) : PR2 Value.int l D cI cJ t a mt ka kk vv yX3_blends cX3_blends 7 yX4_blends cX4_blends 5 (some .int) i f g h τ σ [.int x, .int y] := by
  obtain ⟨n, d, hI, hd, hdi⟩ := id hT.1
  have h8 := hI.wk.2.1
  by_cases hb0 : ((nI 0 ≤ x ∧ x ≤ nI 9999) ∧ (nI 0 ≤ y ∧ y ≤ nI 9999))
  · skip
    obtain ⟨v, hv9, rfl⟩ := rg_nat hb0.1 (by decide)
    obtain ⟨w, hw9, rfl⟩ := rg_nat hb0.2 (by decide)
    exact ⟨_, _, _, _, _, V3.wr (by decide) (c_X3_blends_ok l D cI cJ t f g h τ v w n hI.wk (by omega) (by omega)), V4.wr (by decide) (c_X4_blends_ok l D cI cJ a f σ v w n hI.wk (by omega) (by omega)), hT.up⟩
  · skip
    exact ⟨_, _, _, _, _, V3.wr (by decide) (c_X3_blends_bad l D cI cJ t f g h τ x y hb0), V4.wr (by decide) (c_X4_blends_bad l D cI cJ a f σ x y hb0), (hT.fi (by decide)).up⟩
theorem pr_fits (l : Launch) (D : va_G) (cI cJ : ClassId) (t a : Nat → Nat) (mt ka : Nat) (kk vv : Nat → Nat) (i : Nat) (hi : i ≤ 511) (f g h : Nat → Int32) (τ σ : Nat → Nat → Int32) (hT : ST i f h τ σ) (x y : Int32) : PR2 Value.int l D cI cJ t a mt ka kk vv yX3_fits cX3_fits 6 yX4_fits cX4_fits 4 (some .int) i f g h τ σ [.int x, .int y] := by
  obtain ⟨n, d, hI, hd, hdi⟩ := id hT.1
  have h8 := hI.wk.2.1
  obtain ⟨hR1, hR2, hR3, hR4⟩ := id hT.2.2.2.1
  by_cases hs0 : nI 0 ≤ x ∧ x ≤ nI 3
  · skip
    obtain ⟨sh, hsh9, rfl⟩ := rg_nat hs0 (by decide)
    obtain ⟨sz, hz9, hzs⟩ := hR4 sh (by omega)
    have hzs4 : σ 7 sh = nI sz := by rw [← hR2]; exact hzs
    rcases hR1 sh (by omega) with ⟨hms, hmb⟩ | ⟨q, hq, hwq, hbq⟩
    · skip
      exact ⟨_, _, _, _, _, V3.wr (by decide) (c_X3_fits_miss l D cI cJ t f g h τ sh (by omega) y hms), V4.wr (by decide) (c_X4_fits_miss l D cI cJ a f σ sh (by omega) y (by rw [hmb]; decide)), (hT.fi (by decide)).up⟩
    · skip
      by_cases hb0 : 0 ≤ y ∧ y < nI n
      · skip
        obtain ⟨k, hk9, rfl⟩ := rc_nat hb0 (by omega)
        have h4 := c_X4_fits_ok l D cI cJ a f σ sh (by omega) k (by rw [hbq]; rcases hq with rfl | rfl | rfl <;> decide) sz hzs4 (by omega) n hI.wk d hd (by omega) (by omega)
        rw [← hR3] at h4
        exact ⟨_, _, _, _, _, V3.we (by decide) (c_X3_fits_ok l D cI cJ t f g h τ sh (by omega) k (by rw [hwq]; rcases hq with rfl | rfl | rfl <;> decide) sz hzs (by omega) n hI.wk d hd hI.pk hI.sk (by omega) (by omega)), V4.wr (by decide) (h4), hT.nf.up⟩
      · skip
        exact ⟨_, _, _, _, _, V3.wr (by decide) (c_X3_fits_badc l D cI cJ t f g h τ sh (by omega) y (by rw [hwq]; rcases hq with rfl | rfl | rfl <;> decide) n hI.wk hb0), V4.wr (by decide) (c_X4_fits_badc l D cI cJ a f σ sh (by omega) y (by rw [hbq]; rcases hq with rfl | rfl | rfl <;> decide) n hI.wk hb0), (hT.fi (by decide)).up⟩
  · skip
    exact ⟨_, _, _, _, _, V3.wr (by decide) (c_X3_fits_bad l D cI cJ t f g h τ x y hs0), V4.wr (by decide) (c_X4_fits_bad l D cI cJ a f σ x y hs0), (hT.fi (by decide)).up⟩
theorem pr_pealed (l : Launch) (D : va_G) (cI cJ : ClassId) (t a : Nat → Nat) (mt ka : Nat) (kk vv : Nat → Nat) (i : Nat) (hi : i ≤ 511) (f g h : Nat → Int32) (τ σ : Nat → Nat → Int32) (hT : ST i f h τ σ) (x y : Int32) : PR2 Value.int l D cI cJ t a mt ka kk vv yX3_pealed cX3_pealed 5 yX4_pealed cX4_pealed 4 (some .int) i f g h τ σ [.int x, .int y] := by
  obtain ⟨n, d, hI, hd, hdi⟩ := id hT.1
  have h8 := hI.wk.2.1
  obtain ⟨hR1, hR2, hR3, hR4⟩ := id hT.2.2.2.1
  by_cases hs0 : nI 0 ≤ x ∧ x ≤ nI 3
  · skip
    obtain ⟨sh, hsh9, rfl⟩ := rg_nat hs0 (by decide)
    obtain ⟨sz, hz9, hzs⟩ := hR4 sh (by omega)
    have hzs4 : σ 7 sh = nI sz := by rw [← hR2]; exact hzs
    rcases hR1 sh (by omega) with ⟨hms, hmb⟩ | ⟨q, hq, hwq, hbq⟩
    · skip
      exact ⟨_, _, _, _, _, V3.wr (by decide) (c_X3_pealed_miss l D cI cJ t f g h τ sh (by omega) y hms), V4.wr (by decide) (c_X4_pealed_miss l D cI cJ a f σ sh (by omega) y (by rw [hmb]; decide)), (hT.fi (by decide)).up⟩
    · skip
      by_cases hb0 : 0 ≤ y ∧ y < nI n
      · skip
        obtain ⟨k, hk9, rfl⟩ := rc_nat hb0 (by omega)
        have h4 := c_X4_pealed_ok l D cI cJ a f σ sh (by omega) k (by rw [hbq]; rcases hq with rfl | rfl | rfl <;> decide) sz hzs4 (by omega) n hI.wk d hd (by omega) (by omega)
        rw [← hR3] at h4
        exact ⟨_, _, _, _, _, V3.we (by decide) (c_X3_pealed_ok l D cI cJ t f g h τ sh (by omega) k (by rw [hwq]; rcases hq with rfl | rfl | rfl <;> decide) sz hzs (by omega) n hI.wk d hd hI.pk hI.sk (by omega) (by omega)), V4.wr (by decide) (h4), (hT.nf.opt _).up⟩
      · skip
        exact ⟨_, _, _, _, _, V3.wr (by decide) (c_X3_pealed_badc l D cI cJ t f g h τ sh (by omega) y (by rw [hwq]; rcases hq with rfl | rfl | rfl <;> decide) n hI.wk hb0), V4.wr (by decide) (c_X4_pealed_badc l D cI cJ a f σ sh (by omega) y (by rw [hbq]; rcases hq with rfl | rfl | rfl <;> decide) n hI.wk hb0), (hT.fi (by decide)).up⟩
  · skip
    exact ⟨_, _, _, _, _, V3.wr (by decide) (c_X3_pealed_bad l D cI cJ t f g h τ x y hs0), V4.wr (by decide) (c_X4_pealed_bad l D cI cJ a f σ x y hs0), (hT.fi (by decide)).up⟩
theorem pr_kinds (l : Launch) (D : va_G) (cI cJ : ClassId) (t a : Nat → Nat) (mt ka : Nat) (kk vv : Nat → Nat) (i : Nat) (hi : i ≤ 511) (f g h : Nat → Int32) (τ σ : Nat → Nat → Int32) (hT : ST i f h τ σ) (x y : Int32) : PR2 Value.int l D cI cJ t a mt ka kk vv yX3_kinds cX3_kinds 6 yX4_kinds cX4_kinds 7 (some .int) i f g h τ σ [.int x, .int y] := by
  obtain ⟨n, d, hI, hd, hdi⟩ := id hT.1
  have h8 := hI.wk.2.1
  obtain ⟨hR1, hR2, hR3, hR4⟩ := id hT.2.2.2.1
  by_cases hs0 : nI 0 ≤ x ∧ x ≤ nI 3
  · skip
    obtain ⟨sh, hsh9, rfl⟩ := rg_nat hs0 (by decide)
    obtain ⟨sz, hz9, hzs⟩ := hR4 sh (by omega)
    have hzs4 : σ 7 sh = nI sz := by rw [← hR2]; exact hzs
    rcases hR1 sh (by omega) with ⟨hms, hmb⟩ | ⟨q, hq, hwq, hbq⟩
    · skip
      exact ⟨_, _, _, _, _, V3.wr (by decide) (c_X3_kinds_miss l D cI cJ t f g h τ sh (by omega) y hms), V4.wr (by decide) (c_X4_kinds_miss l D cI cJ a f σ sh (by omega) y (by rw [hmb]; decide)), (hT.fi (by decide)).up⟩
    · skip
      by_cases hb0 : 0 ≤ y ∧ y < nI n
      · skip
        obtain ⟨k, hk9, rfl⟩ := rc_nat hb0 (by omega)
        have h4 := c_X4_kinds_ok l D cI cJ a f σ sh (by omega) k (by rw [hbq]; rcases hq with rfl | rfl | rfl <;> decide) sz hzs4 (by omega) n hI.wk d hd (by omega) (by omega)
        rw [← hR3] at h4
        exact ⟨_, _, _, _, _, V3.we (by decide) (c_X3_kinds_ok l D cI cJ t f g h τ sh (by omega) k (by rw [hwq]; rcases hq with rfl | rfl | rfl <;> decide) sz hzs (by omega) n hI.wk d hd hI.pk hI.sk (by omega) (by omega)), V4.wr (by decide) (h4), hT.aside.up⟩
      · skip
        exact ⟨_, _, _, _, _, V3.wr (by decide) (c_X3_kinds_badc l D cI cJ t f g h τ sh (by omega) y (by rw [hwq]; rcases hq with rfl | rfl | rfl <;> decide) n hI.wk hb0), V4.wr (by decide) (c_X4_kinds_badc l D cI cJ a f σ sh (by omega) y (by rw [hbq]; rcases hq with rfl | rfl | rfl <;> decide) n hI.wk hb0), (hT.fi (by decide)).up⟩
  · skip
    exact ⟨_, _, _, _, _, V3.wr (by decide) (c_X3_kinds_bad l D cI cJ t f g h τ x y hs0), V4.wr (by decide) (c_X4_kinds_bad l D cI cJ a f σ x y hs0), (hT.fi (by decide)).up⟩
theorem pr_storms (l : Launch) (D : va_G) (cI cJ : ClassId) (t a : Nat → Nat) (mt ka : Nat) (kk vv : Nat → Nat) (i : Nat) (hi : i ≤ 511) (f g h : Nat → Int32) (τ σ : Nat → Nat → Int32) (hT : ST i f h τ σ) (x : Int32) : PR2 Value.int l D cI cJ t a mt ka kk vv yX3_storms cX3_storms 4 yX4_storms cX4_storms 4 (some .int) i f g h τ σ [.int x] := by
  obtain ⟨n, d, hI, hd, hdi⟩ := id hT.1
  have h8 := hI.wk.2.1
  by_cases hb0 : ((nI 1 ≤ x ∧ x ≤ nI 20))
  · skip
    obtain ⟨u, hu1, hu9, rfl⟩ := rg1_nat hb0 (by decide)
    exact ⟨_, _, _, _, _, V3.wr (by decide) (c_X3_storms_ok l D cI cJ t f g h τ u n hI.wk d hd hI.pk hI.sk (by omega) (by omega) (by omega)), V4.wr (by decide) (c_X4_storms_ok l D cI cJ a f σ u n hI.wk d hd (by omega) (by omega) (by omega)), (hT.up).row (RW.of (hI.storms hd (by omega)) (sSs_1 h8 hd) (by omega))⟩
  · skip
    exact ⟨_, _, _, _, _, V3.wr (by decide) (c_X3_storms_bad l D cI cJ t f g h τ x hb0), V4.wr (by decide) (c_X4_storms_bad l D cI cJ a f σ x hb0), (hT.fi (by decide)).up⟩
theorem pr_odds (l : Launch) (D : va_G) (cI cJ : ClassId) (t a : Nat → Nat) (mt ka : Nat) (kk vv : Nat → Nat) (i : Nat) (hi : i ≤ 511) (f g h : Nat → Int32) (τ σ : Nat → Nat → Int32) (hT : ST i f h τ σ) (x y : Int32) : PR2 Value.long l D cI cJ t a mt ka kk vv yX3_odds cX3_odds 8 yX4_odds cX4_odds 14 (some .long) i f g h τ σ [.int x, .int y] := by
  obtain ⟨n, d, hI, hd, hdi⟩ := id hT.1
  have h8 := hI.wk.2.1
  by_cases hb0 : ((nI 0 ≤ x ∧ x ≤ nI 23) ∧ (nI 0 ≤ y ∧ y ≤ nI 1))
  · skip
    obtain ⟨q, hq9, rfl⟩ := rg_nat hb0.1 (by decide)
    obtain ⟨w, hw9, rfl⟩ := rg_nat hb0.2 (by decide)
    rcases (show w = 0 ∨ w = 1 by omega) with rfl | rfl
    · skip
      exact ⟨_, _, _, _, _, V3.wr (by decide) (c_X3_odds_ok0 l D cI cJ t f g h τ q n hI.wk (by omega)), V4.wr (by decide) (c_X4_odds_ok0 l D cI cJ a f σ q n hI.wk (by omega)), hT.up⟩
    · skip
      exact ⟨_, _, _, _, _, V3.wr (by decide) (c_X3_odds_ok1 l D cI cJ t f g h τ q n hI.wk (by omega)), V4.wr (by decide) (c_X4_odds_ok1 l D cI cJ a f σ q n hI.wk (by omega)), hT.up⟩
  · skip
    exact ⟨_, _, _, _, _, V3.wr (by decide) (c_X3_odds_bad l D cI cJ t f g h τ x y hb0), V4.wr (by decide) (c_X4_odds_bad l D cI cJ a f σ x y hb0), (hT.fi (by decide)).up⟩
theorem pr_seed (l : Launch) (D : va_G) (cI cJ : ClassId) (t a : Nat → Nat) (mt ka : Nat) (kk vv : Nat → Nat) (i : Nat) (hi : i ≤ 511) (f g h : Nat → Int32) (τ σ : Nat → Nat → Int32) (hT : ST i f h τ σ) (x : Int32) : PR2 Value.int l D cI cJ t a mt ka kk vv yX3_seed cX3_seed 3 yX4_seed cX4_seed 2 (some .int) i f g h τ σ [.int x] := by
  obtain ⟨n, d, hI, hd, hdi⟩ := id hT.1
  have h8 := hI.wk.2.1
  exact ⟨_, _, _, _, _, V3.wr (by decide) (c_X3_seed_ok l D cI cJ t f g h τ x), V4.wr (by decide) (c_X4_seed_ok l D cI cJ a f σ x), (hT.row (RW.of (hI.seed) (by rw [upd_ne (by omega)]; exact hd) hdi)).up⟩
theorem pr_feed (l : Launch) (D : va_G) (cI cJ : ClassId) (t a : Nat → Nat) (mt ka : Nat) (kk vv : Nat → Nat) (i : Nat) (hi : i ≤ 511) (f g h : Nat → Int32) (τ σ : Nat → Nat → Int32) (hT : ST i f h τ σ) (x y : Int32) : PR2 Value.int l D cI cJ t a mt ka kk vv yX3_feed cX3_feed 4 yX4_feed cX4_feed 4 (some .int) i f g h τ σ [.int x, .int y] := by
  obtain ⟨n, d, hI, hd, hdi⟩ := id hT.1
  have h8 := hI.wk.2.1
  by_cases hb0 : ((nI 1 ≤ y ∧ y ≤ nI 4))
  · skip
    obtain ⟨q, hq1, hq9, rfl⟩ := rg1_nat hb0 (by decide)
    obtain ⟨L, hL, hL4, hL9, he, hby⟩ := id hT.2.2.1
    by_cases hbq : L + q ≤ 120
    · skip
      have h4 := c_X4_feed_ok l D cI cJ a f σ x q L hL4 (by omega) (by omega) (by omega) (by omega)
      rw [← he] at h4
      exact ⟨_, _, _, _, _, V3.wr (by decide) (c_X3_feed_ok l D cI cJ t f g h τ x q L hL (by omega) (by omega) (by omega) (by omega)), V4.wr (by decide) (h4), (show ST i f h (tFd τ L x q q) (NT σ (fdT (τ 1) L x q q) (upd (σ 9) 1 (nI (L + q)))) from ⟨hT.1, hT.2.1, ⟨L + q, rfl, rfl, hbq, rfl, By.fd hby⟩, hT.2.2.2.1, hT.2.2.2.2⟩).up⟩
    · skip
      exact ⟨_, _, _, _, _, V3.wr (by decide) (c_X3_feed_full l D cI cJ t f g h τ x q L hL (by omega) (by omega) (by omega) (by omega)), V4.wr (by decide) (c_X4_feed_full l D cI cJ a f σ x q L hL4 (by omega) (by omega) (by omega) (by omega)), (hT.fi (by decide)).up⟩
  · skip
    exact ⟨_, _, _, _, _, V3.wr (by decide) (c_X3_feed_bad l D cI cJ t f g h τ x y hb0), V4.wr (by decide) (c_X4_feed_bad l D cI cJ a f σ x y hb0), (hT.fi (by decide)).up⟩
theorem pr_wipe (l : Launch) (D : va_G) (cI cJ : ClassId) (t a : Nat → Nat) (mt ka : Nat) (kk vv : Nat → Nat) (i : Nat) (hi : i ≤ 511) (f g h : Nat → Int32) (τ σ : Nat → Nat → Int32) (hT : ST i f h τ σ) : PR2 Value.int l D cI cJ t a mt ka kk vv yX3_wipe cX3_wipe 2 yX4_wipe cX4_wipe 2 (some .int) i f g h τ σ [] := by
  obtain ⟨n, d, hI, hd, hdi⟩ := id hT.1
  have h8 := hI.wk.2.1
  obtain ⟨L, hL, hL4, hL9, he, hby⟩ := id hT.2.2.1
  have h3 := c_X3_wipe_ok l D cI cJ t f g h τ
  rw [hL] at h3
  have h4 := c_X4_wipe_ok l D cI cJ a f σ
  rw [hL4] at h4
  exact ⟨_, _, _, _, _, V3.wr (by decide) (h3), V4.wr (by decide) (h4), (show ST i f h (m0 τ 1 (nI 0)) (m9 σ 1 (nI 0)) from ⟨hT.1, hT.2.1, ⟨0, rfl, rfl, by decide, he, fun j hj => absurd hj (Nat.not_lt_zero j)⟩, hT.2.2.2.1, hT.2.2.2.2⟩).up⟩
theorem pr_text (l : Launch) (D : va_G) (cI cJ : ClassId) (t a : Nat → Nat) (mt ka : Nat) (kk vv : Nat → Nat) (i : Nat) (hi : i ≤ 511) (f g h : Nat → Int32) (τ σ : Nat → Nat → Int32) (hT : ST i f h τ σ) : PR2 Value.int l D cI cJ t a mt ka kk vv yX3_text cX3_text 2 yX4_text cX4_text 3 (some .int) i f g h τ σ [] := by
  obtain ⟨n, d, hI, hd, hdi⟩ := id hT.1
  have h8 := hI.wk.2.1
  obtain ⟨L, hL, hL4, hL9, he, hby⟩ := id hT.2.2.1
  have hby4 : By (σ 5) L := by rw [← he]; exact hby
  by_cases hG : txG (τ 1) L f
  · skip
    have hG4 : txG (σ 5) L f := by rw [← he]; exact hG
    obtain ⟨n1, hI1⟩ := txA_iv (b := τ 1) (L := L) hI
    have h4 := c_X4_text_ok l D cI cJ a f σ n hI L hL4 hL9 hby4 hG4
    rw [← he] at h4
    exact ⟨_, _, _, _, _, V3.wy (by decide) (c_X3_text_ok l D cI cJ t f g h τ mt ka kk vv n hI L hL hL9 hG), V4.wr (by decide) (h4), (show ST i _ h (m0 (CS τ L (txA (τ 1) L f).1.2.2 (vA (τ 1) L (τ 0 5) f)) 1 (nI 0)) (m9 (TS (va_up σ 2 f) L (txA (τ 1) L f).1.2.2) 1 (nI 0)) from ⟨RW.of hI1 (txA_1d.trans hd) hdi, hT.2.1, ⟨0, rfl, rfl, by decide, he, fun j hj => absurd hj (Nat.not_lt_zero j)⟩, hT.2.2.2.1, hT.2.2.2.2⟩).up⟩
  · skip
    have hG4 : ¬ txG (σ 5) L f := by rw [← he]; exact hG
    have h4 := c_X4_text_no l D cI cJ a f σ n hI L hL4 hL9 hby4 hG4
    rw [← he] at h4
    exact ⟨_, _, _, _, _, V3.wy (by decide) (c_X3_text_no l D cI cJ t f g h τ mt ka kk vv n hI L hL hL9 hG), V4.wr (by decide) (h4), (show ST i _ h (m0 (CS τ L (txA (τ 1) L f).1.2.2 (vA (τ 1) L (τ 0 5) f)) 1 (nI 0)) (m9 (m9 (TS (va_up σ 2 f) L (txA (τ 1) L f).1.2.2) 8 (nI (txA (τ 1) L f).1.2.2)) 1 (nI 0)) from ⟨hT.1, hT.2.1, ⟨0, rfl, rfl, by decide, he, fun j hj => absurd hj (Nat.not_lt_zero j)⟩, hT.2.2.2.1, hT.2.2.2.2⟩).up⟩
theorem pr_hold (l : Launch) (D : va_G) (cI cJ : ClassId) (t a : Nat → Nat) (mt ka : Nat) (kk vv : Nat → Nat) (i : Nat) (hi : i ≤ 511) (f g h : Nat → Int32) (τ σ : Nat → Nat → Int32) (hT : ST i f h τ σ) (x y : Int32) : PR2 Value.int l D cI cJ t a mt ka kk vv yX3_hold cX3_hold 3 yX4_hold cX4_hold 3 (some .int) i f g h τ σ [.int x, .int y] := by
  obtain ⟨n, d, hI, hd, hdi⟩ := id hT.1
  have h8 := hI.wk.2.1
  by_cases hb0 : ((nI 0 ≤ x ∧ x ≤ nI 9) ∧ (y = -1 ∨ (0 ≤ y ∧ y < nI n)))
  · skip
    obtain ⟨q, hq9, rfl⟩ := rg_nat hb0.1 (by decide)
    rcases hb0.2 with rfl | hk0
    · skip
      exact ⟨_, _, _, _, _, V3.wr (by decide) (c_X3_hold_none l D cI cJ t f g h τ q n hI.wk (by omega)), V4.wr (by decide) (c_X4_hold_none l D cI cJ a f σ q n hI.wk (by omega)), (hT.row (RW.of (hI.hold (by omega) (Or.inl rfl)) (by rw [upd_ne (by omega)]; exact hd) hdi)).up⟩
    · skip
      obtain ⟨k, hk9, rfl⟩ := rc_nat hk0 (by omega)
      exact ⟨_, _, _, _, _, V3.wr (by decide) (c_X3_hold_ok l D cI cJ t f g h τ q k n hI.wk (by omega) (by omega)), V4.wr (by decide) (c_X4_hold_ok l D cI cJ a f σ q k n hI.wk (by omega) (by omega)), (hT.row (RW.of (hI.hold (by omega) (Or.inr ⟨k, hk9, rfl⟩)) (by rw [upd_ne (by omega)]; exact hd) hdi)).up⟩
  · skip
    exact ⟨_, _, _, _, _, V3.wr (by decide) (c_X3_hold_bad l D cI cJ t f g h τ x y n hI.wk hb0), V4.wr (by decide) (c_X4_hold_bad l D cI cJ a f σ x y n hI.wk hb0), (hT.fi (by decide)).up⟩
theorem pr_as (l : Launch) (D : va_G) (cI cJ : ClassId) (t a : Nat → Nat) (mt ka : Nat) (kk vv : Nat → Nat) (i : Nat) (hi : i ≤ 511) (f g h : Nat → Int32) (τ σ : Nat → Nat → Int32) (hT : ST i f h τ σ) (x y : Int32) : PR2 Value.int l D cI cJ t a mt ka kk vv yX3_as cX3_as 4 yX4_as cX4_as 4 (some .int) i f g h τ σ [.int x, .int y] := by
  obtain ⟨n, d, hI, hd, hdi⟩ := id hT.1
  have h8 := hI.wk.2.1
  by_cases hb0 : ((nI 0 ≤ x ∧ x ≤ nI 9) ∧ (nI 0 ≤ y ∧ y ≤ nI 6))
  · skip
    obtain ⟨p9, hp99, rfl⟩ := rg_nat hb0.1 (by decide)
    obtain ⟨w, hw9, rfl⟩ := rg_nat hb0.2 (by decide)
    rcases hI.ok p9 (by omega) with hv | ⟨k, hk9, hv⟩
    · skip
      exact ⟨_, _, _, _, _, V3.wz (by decide) (c_X3_as_miss l D cI cJ t f g h τ mt ka p9 w n hI.wk (by omega) (by omega) hv), V4.wr (by decide) (c_X4_as_miss l D cI cJ a f σ p9 w n hI.wk (by omega) (by omega) hv), (hT.fi (by decide)).up⟩
    · skip
      obtain ⟨q, hq9, hq0⟩ := hI.nk k hk9
      by_cases huu : uU q w
      · skip
        exact ⟨_, _, _, _, _, V3.wz (by decide) (c_X3_as_ok l D cI cJ t f g h τ mt ka p9 w n hI.wk (by omega) (by omega) k (by omega) hv q hq0 hq9 huu), V4.wr (by decide) (c_X4_as_ok l D cI cJ a f σ p9 w n hI.wk (by omega) (by omega) k (by omega) hv q hq0 hq9 huu), hT.up⟩
      · skip
        exact ⟨_, _, _, _, _, V3.wz (by decide) (c_X3_as_kind l D cI cJ t f g h τ mt ka p9 w n hI.wk (by omega) (by omega) k (by omega) hv q hq0 hq9 huu), V4.wr (by decide) (c_X4_as_kind l D cI cJ a f σ p9 w n hI.wk (by omega) (by omega) k (by omega) hv q hq0 hq9 huu), (hT.fi (by decide)).up⟩
  · skip
    exact ⟨_, _, _, _, _, V3.wz (by decide) (c_X3_as_bad l D cI cJ t f g h τ mt ka x y hb0), V4.wr (by decide) (c_X4_as_bad l D cI cJ a f σ x y hb0), (hT.fi (by decide)).up⟩
theorem pr_sheet (l : Launch) (D : va_G) (cI cJ : ClassId) (t a : Nat → Nat) (mt ka : Nat) (kk vv : Nat → Nat) (i : Nat) (hi : i ≤ 511) (f g h : Nat → Int32) (τ σ : Nat → Nat → Int32) (hT : ST i f h τ σ) (x y z : Int32) : PR2 Value.int l D cI cJ t a mt ka kk vv yX3_sheet cX3_sheet 5 yX4_sheet cX4_sheet 5 (some .int) i f g h τ σ [.int x, .int y, .int z] := by
  obtain ⟨n, d, hI, hd, hdi⟩ := id hT.1
  have h8 := hI.wk.2.1
  by_cases hb0 : ((nI 0 ≤ x ∧ x ≤ nI 3) ∧ (y = 0 ∨ y = nI 8 ∨ y = nI 16 ∨ y = nI 32))
  · skip
    obtain ⟨sh, hsh9, rfl⟩ := rg_nat hb0.1 (by decide)
    rcases hb0.2 with hy | rfl | rfl | rfl
    · skip
      obtain rfl : y = nI 0 := hy
      by_cases hz0 : z < 0
      · skip
        exact ⟨_, _, _, _, _, V3.wr (by decide) (c_X3_sheet_size0 l D cI cJ t f g h τ sh (by omega) z hz0), V4.wr (by decide) (c_X4_sheet_size0 l D cI cJ a f σ sh (by omega) z hz0), (hT.fi (by decide)).up⟩
      · skip
        by_cases hz4 : nI 40 < z
        · skip
          exact ⟨_, _, _, _, _, V3.wr (by decide) (c_X3_sheet_big0 l D cI cJ t f g h τ sh (by omega) z hz4), V4.wr (by decide) (c_X4_sheet_big0 l D cI cJ a f σ sh (by omega) z hz4), (hT.fi (by decide)).up⟩
        · skip
          obtain ⟨q, hq9, rfl⟩ := z40 hz0 hz4
          exact ⟨_, _, _, _, _, V3.wr (by decide) (c_X3_sheet_ok0 l D cI cJ t f g h τ sh (by omega) q (by omega)), V4.wr (by decide) (c_X4_sheet_ok0 l D cI cJ a f σ sh (by omega) q (by omega)), (show ST i f h (va_up (va_up (va_up τ 2 (upd (τ 2) sh (nI 0))) 3 (upd (τ 3) sh (nI 0))) 4 (zrw (τ 4) sh 40)) (va_up (va_up (va_up σ 6 (upd (σ 6) sh (-1))) 7 (upd (σ 7) sh (nI 0))) 8 (zrw (σ 8) sh 40)) from ⟨hT.1, hT.2.1, hT.2.2.1, hT.2.2.2.1.sheet (q := 0) (by omega) (Or.inl ⟨rfl, rfl⟩), hT.2.2.2.2⟩).up⟩
    · skip
      by_cases hz0 : z < 0
      · skip
        exact ⟨_, _, _, _, _, V3.wr (by decide) (c_X3_sheet_size8 l D cI cJ t f g h τ sh (by omega) z hz0), V4.wr (by decide) (c_X4_sheet_size8 l D cI cJ a f σ sh (by omega) z hz0), (hT.fi (by decide)).up⟩
      · skip
        by_cases hz4 : nI 40 < z
        · skip
          exact ⟨_, _, _, _, _, V3.wr (by decide) (c_X3_sheet_big8 l D cI cJ t f g h τ sh (by omega) z hz4), V4.wr (by decide) (c_X4_sheet_big8 l D cI cJ a f σ sh (by omega) z hz4), (hT.fi (by decide)).up⟩
        · skip
          obtain ⟨q, hq9, rfl⟩ := z40 hz0 hz4
          exact ⟨_, _, _, _, _, V3.wr (by decide) (c_X3_sheet_ok8 l D cI cJ t f g h τ sh (by omega) q (by omega)), V4.wr (by decide) (c_X4_sheet_ok8 l D cI cJ a f σ sh (by omega) q (by omega)), (show ST i f h (va_up (va_up (va_up τ 2 (upd (τ 2) sh (nI 8))) 3 (upd (τ 3) sh (nI q))) 4 (zrw (τ 4) sh 40)) (va_up (va_up (va_up σ 6 (upd (σ 6) sh (nI 8))) 7 (upd (σ 7) sh (nI q))) 8 (zrw (σ 8) sh 40)) from ⟨hT.1, hT.2.1, hT.2.2.1, hT.2.2.2.1.sheet (q := 8) (by omega) (Or.inr ⟨by decide, rfl⟩), hT.2.2.2.2⟩).up⟩
    · skip
      by_cases hz0 : z < 0
      · skip
        exact ⟨_, _, _, _, _, V3.wr (by decide) (c_X3_sheet_size16 l D cI cJ t f g h τ sh (by omega) z hz0), V4.wr (by decide) (c_X4_sheet_size16 l D cI cJ a f σ sh (by omega) z hz0), (hT.fi (by decide)).up⟩
      · skip
        by_cases hz4 : nI 40 < z
        · skip
          exact ⟨_, _, _, _, _, V3.wr (by decide) (c_X3_sheet_big16 l D cI cJ t f g h τ sh (by omega) z hz4), V4.wr (by decide) (c_X4_sheet_big16 l D cI cJ a f σ sh (by omega) z hz4), (hT.fi (by decide)).up⟩
        · skip
          obtain ⟨q, hq9, rfl⟩ := z40 hz0 hz4
          exact ⟨_, _, _, _, _, V3.wr (by decide) (c_X3_sheet_ok16 l D cI cJ t f g h τ sh (by omega) q (by omega)), V4.wr (by decide) (c_X4_sheet_ok16 l D cI cJ a f σ sh (by omega) q (by omega)), (show ST i f h (va_up (va_up (va_up τ 2 (upd (τ 2) sh (nI 16))) 3 (upd (τ 3) sh (nI q))) 4 (zrw (τ 4) sh 40)) (va_up (va_up (va_up σ 6 (upd (σ 6) sh (nI 16))) 7 (upd (σ 7) sh (nI q))) 8 (zrw (σ 8) sh 40)) from ⟨hT.1, hT.2.1, hT.2.2.1, hT.2.2.2.1.sheet (q := 16) (by omega) (Or.inr ⟨by decide, rfl⟩), hT.2.2.2.2⟩).up⟩
    · skip
      by_cases hz0 : z < 0
      · skip
        exact ⟨_, _, _, _, _, V3.wr (by decide) (c_X3_sheet_size32 l D cI cJ t f g h τ sh (by omega) z hz0), V4.wr (by decide) (c_X4_sheet_size32 l D cI cJ a f σ sh (by omega) z hz0), (hT.fi (by decide)).up⟩
      · skip
        by_cases hz4 : nI 40 < z
        · skip
          exact ⟨_, _, _, _, _, V3.wr (by decide) (c_X3_sheet_big32 l D cI cJ t f g h τ sh (by omega) z hz4), V4.wr (by decide) (c_X4_sheet_big32 l D cI cJ a f σ sh (by omega) z hz4), (hT.fi (by decide)).up⟩
        · skip
          obtain ⟨q, hq9, rfl⟩ := z40 hz0 hz4
          exact ⟨_, _, _, _, _, V3.wr (by decide) (c_X3_sheet_ok32 l D cI cJ t f g h τ sh (by omega) q (by omega)), V4.wr (by decide) (c_X4_sheet_ok32 l D cI cJ a f σ sh (by omega) q (by omega)), (show ST i f h (va_up (va_up (va_up τ 2 (upd (τ 2) sh (nI 32))) 3 (upd (τ 3) sh (nI q))) 4 (zrw (τ 4) sh 40)) (va_up (va_up (va_up σ 6 (upd (σ 6) sh (nI 32))) 7 (upd (σ 7) sh (nI q))) 8 (zrw (σ 8) sh 40)) from ⟨hT.1, hT.2.1, hT.2.2.1, hT.2.2.2.1.sheet (q := 32) (by omega) (Or.inr ⟨by decide, rfl⟩), hT.2.2.2.2⟩).up⟩
  · skip
    exact ⟨_, _, _, _, _, V3.wr (by decide) (c_X3_sheet_bad l D cI cJ t f g h τ x y z hb0), V4.wr (by decide) (c_X4_sheet_bad l D cI cJ a f σ x y z hb0), (hT.fi (by decide)).up⟩
theorem pr_write (l : Launch) (D : va_G) (cI cJ : ClassId) (t a : Nat → Nat) (mt ka : Nat) (kk vv : Nat → Nat) (i : Nat) (hi : i ≤ 511) (f g h : Nat → Int32) (τ σ : Nat → Nat → Int32) (hT : ST i f h τ σ) (x y z : Int32) : PR2 Value.int l D cI cJ t a mt ka kk vv yX3_write cX3_write 5 yX4_write cX4_write 4 (some .int) i f g h τ σ [.int x, .int y, .int z] := by
  obtain ⟨n, d, hI, hd, hdi⟩ := id hT.1
  have h8 := hI.wk.2.1
  obtain ⟨hR1, hR2, hR3, hR4⟩ := id hT.2.2.2.1
  by_cases hs0 : nI 0 ≤ x ∧ x ≤ nI 3
  · skip
    obtain ⟨sh, hsh9, rfl⟩ := rg_nat hs0 (by decide)
    obtain ⟨sz, hz9, hzs⟩ := hR4 sh (by omega)
    have hzs4 : σ 7 sh = nI sz := by rw [← hR2]; exact hzs
    rcases hR1 sh (by omega) with ⟨hms, hmb⟩ | ⟨q, hq, hwq, hbq⟩
    · skip
      exact ⟨_, _, _, _, _, V3.wr (by decide) (c_X3_write_miss l D cI cJ t f g h τ sh (by omega) y z hms), V4.wr (by decide) (c_X4_write_miss l D cI cJ a f σ sh (by omega) y z (by rw [hmb]; decide)), (hT.fi (by decide)).up⟩
    · skip
      by_cases hb0 : 0 ≤ y ∧ y < nI sz
      · skip
        obtain ⟨j, hj9, rfl⟩ := rc_nat hb0 (by omega)
        rcases hq with rfl | rfl | rfl
        · skip
          exact ⟨_, _, _, _, _, V3.wr (by decide) (c_X3_write_ok8 l D cI cJ t f g h τ sh (by omega) j z sz hzs (by omega) (by omega) hwq), V4.wr (by decide) (c_X4_write_ok8 l D cI cJ a f σ sh (by omega) j z sz hzs4 (by omega) (by omega) hbq), (show ST i f h (va_up τ 4 (upd (τ 4) (40 * sh + j) (z.toInt8.toInt32))) (va_up σ 8 (upd (σ 8) (40 * sh + j) (z.toInt8.toInt32))) from ⟨hT.1, hT.2.1, hT.2.2.1, ⟨hR1, hR2, by show upd (τ 4) _ _ = upd (σ 8) _ _; rw [hR3], hR4⟩, hT.2.2.2.2⟩).up⟩
        · skip
          exact ⟨_, _, _, _, _, V3.wr (by decide) (c_X3_write_ok16 l D cI cJ t f g h τ sh (by omega) j z sz hzs (by omega) (by omega) hwq), V4.wr (by decide) (c_X4_write_ok16 l D cI cJ a f σ sh (by omega) j z sz hzs4 (by omega) (by omega) hbq), (show ST i f h (va_up τ 4 (upd (τ 4) (40 * sh + j) (z.toInt16.toInt32))) (va_up σ 8 (upd (σ 8) (40 * sh + j) (z.toInt16.toInt32))) from ⟨hT.1, hT.2.1, hT.2.2.1, ⟨hR1, hR2, by show upd (τ 4) _ _ = upd (σ 8) _ _; rw [hR3], hR4⟩, hT.2.2.2.2⟩).up⟩
        · skip
          exact ⟨_, _, _, _, _, V3.wr (by decide) (c_X3_write_ok32 l D cI cJ t f g h τ sh (by omega) j z sz hzs (by omega) (by omega) hwq), V4.wr (by decide) (c_X4_write_ok32 l D cI cJ a f σ sh (by omega) j z sz hzs4 (by omega) (by omega) hbq), (show ST i f h (va_up τ 4 (upd (τ 4) (40 * sh + j) (z))) (va_up σ 8 (upd (σ 8) (40 * sh + j) (z))) from ⟨hT.1, hT.2.1, hT.2.2.1, ⟨hR1, hR2, by show upd (τ 4) _ _ = upd (σ 8) _ _; rw [hR3], hR4⟩, hT.2.2.2.2⟩).up⟩
      · skip
        exact ⟨_, _, _, _, _, V3.wr (by decide) (c_X3_write_badi l D cI cJ t f g h τ sh (by omega) y z (by rw [hwq]; rcases hq with rfl | rfl | rfl <;> decide) sz hzs (by omega) hb0), V4.wr (by decide) (c_X4_write_badi l D cI cJ a f σ sh (by omega) y z (by rw [hbq]; rcases hq with rfl | rfl | rfl <;> decide) sz hzs4 (by omega) hb0), (hT.fi (by decide)).up⟩
  · skip
    exact ⟨_, _, _, _, _, V3.wr (by decide) (c_X3_write_bad l D cI cJ t f g h τ x y z hs0), V4.wr (by decide) (c_X4_write_bad l D cI cJ a f σ x y z hs0), (hT.fi (by decide)).up⟩
theorem pr_copy (l : Launch) (D : va_G) (cI cJ : ClassId) (t a : Nat → Nat) (mt ka : Nat) (kk vv : Nat → Nat) (i : Nat) (hi : i ≤ 511) (f g h : Nat → Int32) (τ σ : Nat → Nat → Int32) (hT : ST i f h τ σ) (x y z u v : Int32) : PR2 Value.int l D cI cJ t a mt ka kk vv yX3_copy cX3_copy 6 yX4_copy cX4_copy 10 (some .int) i f g h τ σ [.int x, .int y, .int z, .int u, .int v] := by
  obtain ⟨n, d, hI, hd, hdi⟩ := id hT.1
  have h8 := hI.wk.2.1
  obtain ⟨hR1, hR2, hR3, hR4⟩ := id hT.2.2.2.1
  by_cases hb0 : ((nI 0 ≤ x ∧ x ≤ nI 3) ∧ (nI 0 ≤ z ∧ z ≤ nI 3))
  · skip
    obtain ⟨sh, hsh9, rfl⟩ := rg_nat hb0.1 (by decide)
    obtain ⟨th, hth9, rfl⟩ := rg_nat hb0.2 (by decide)
    obtain ⟨s1, h19, h1s⟩ := hR4 sh (by omega)
    obtain ⟨s2, h29, h2s⟩ := hR4 th (by omega)
    have h1s4 : σ 7 sh = nI s1 := by rw [← hR2]; exact h1s
    have h2s4 : σ 7 th = nI s2 := by rw [← hR2]; exact h2s
    rcases hR1 sh (by omega) with ⟨hms, hmb⟩ | ⟨q, hq, hwq, hbq⟩
    · skip
      exact ⟨_, _, _, _, _, V3.wr (by decide) (c_X3_copy_miss l D cI cJ t f g h τ sh (by omega) th (by omega) y u v (fun q => q.1 hms)), V4.wr (by decide) (c_X4_copy_miss l D cI cJ a f σ sh (by omega) th (by omega) y u v (fun q => absurd q.1 (by rw [hmb]; decide))), (hT.fi (by decide)).up⟩
    · skip
      rcases hR1 th (by omega) with ⟨hms, hmb⟩ | ⟨q2, hq2, hwq2, hbq2⟩
      · skip
        exact ⟨_, _, _, _, _, V3.wr (by decide) (c_X3_copy_miss l D cI cJ t f g h τ sh (by omega) th (by omega) y u v (fun q => q.2 hms)), V4.wr (by decide) (c_X4_copy_miss l D cI cJ a f σ sh (by omega) th (by omega) y u v (fun q => absurd q.2 (by rw [hmb]; decide))), (hT.fi (by decide)).up⟩
      · skip
        by_cases heq : nI q = nI q2
        · skip
          by_cases hr0 : 0 ≤ y ∧ 0 ≤ u ∧ 0 ≤ v ∧ v ≤ nI s1 - y ∧ v ≤ nI s2 - u
          · skip
            obtain ⟨fr, to, cn, rfl, rfl, rfl, hf1, hf2⟩ := cp_nat hr0 h19 h29
            exact ⟨_, _, _, _, _, V3.wr (by decide) (c_X3_copy_ok l D cI cJ t f g h τ sh (by omega) th (by omega) fr to cn (by rw [hwq]; rcases hq with rfl | rfl | rfl <;> decide) (by rw [hwq2]; rcases hq2 with rfl | rfl | rfl <;> decide) (by rw [hwq, hwq2]; exact heq) s1 h1s h19 s2 h2s h29 (by omega) (by omega)), V4.wr (by decide) (c_X4_copy_ok l D cI cJ a f σ sh (by omega) th (by omega) fr to cn (by rw [hbq]; rcases hq with rfl | rfl | rfl <;> decide) (by rw [hbq2]; rcases hq2 with rfl | rfl | rfl <;> decide) (by rw [hbq, hbq2]; exact heq) s1 h1s4 h19 s2 h2s4 h29 (by omega) (by omega)), (show ST i f h (va_up τ 4 (cpF (τ 4) (40 * sh + fr) (40 * th + to) cn)) (va_up σ 8 (cpF (σ 8) (40 * sh + fr) (40 * th + to) cn)) from ⟨hT.1, hT.2.1, hT.2.2.1, ⟨hR1, hR2, by show cpF (τ 4) _ _ _ = cpF (σ 8) _ _ _; rw [hR3], hR4⟩, hT.2.2.2.2⟩).up⟩
          · skip
            exact ⟨_, _, _, _, _, V3.wr (by decide) (c_X3_copy_rng l D cI cJ t f g h τ sh (by omega) th (by omega) y u v (by rw [hwq]; rcases hq with rfl | rfl | rfl <;> decide) (by rw [hwq2]; rcases hq2 with rfl | rfl | rfl <;> decide) (by rw [hwq, hwq2]; exact heq) s1 h1s h19 s2 h2s h29 hr0), V4.wr (by decide) (c_X4_copy_rng l D cI cJ a f σ sh (by omega) th (by omega) y u v (by rw [hbq]; rcases hq with rfl | rfl | rfl <;> decide) (by rw [hbq2]; rcases hq2 with rfl | rfl | rfl <;> decide) (by rw [hbq, hbq2]; exact heq) s1 h1s4 h19 s2 h2s4 h29 hr0), (hT.fi (by decide)).up⟩
        · skip
          exact ⟨_, _, _, _, _, V3.wr (by decide) (c_X3_copy_kind l D cI cJ t f g h τ sh (by omega) th (by omega) y u v (by rw [hwq]; rcases hq with rfl | rfl | rfl <;> decide) (by rw [hwq2]; rcases hq2 with rfl | rfl | rfl <;> decide) (by rw [hwq, hwq2]; exact heq)), V4.wr (by decide) (c_X4_copy_kind l D cI cJ a f σ sh (by omega) th (by omega) y u v (by rw [hbq]; rcases hq with rfl | rfl | rfl <;> decide) (by rw [hbq2]; rcases hq2 with rfl | rfl | rfl <;> decide) (by rw [hbq, hbq2]; exact heq)), (hT.fi (by decide)).up⟩
  · skip
    exact ⟨_, _, _, _, _, V3.wr (by decide) (c_X3_copy_bad l D cI cJ t f g h τ x y z u v hb0), V4.wr (by decide) (c_X4_copy_bad l D cI cJ a f σ x y z u v hb0), (hT.fi (by decide)).up⟩
theorem pr_load (l : Launch) (D : va_G) (cI cJ : ClassId) (t a : Nat → Nat) (mt ka : Nat) (kk vv : Nat → Nat) (i : Nat) (hi : i ≤ 511) (f g h : Nat → Int32) (τ σ : Nat → Nat → Int32) (hT : ST i f h τ σ) (x : Int32) : PR2 Value.int l D cI cJ t a mt ka kk vv yX3_load cX3_load 5 yX4_load cX4_load 3 (some .int) i f g h τ σ [.int x] := by
  obtain ⟨n, d, hI, hd, hdi⟩ := id hT.1
  have h8 := hI.wk.2.1
  obtain ⟨hR1, hR2, hR3, hR4⟩ := id hT.2.2.2.1
  by_cases hs0 : nI 0 ≤ x ∧ x ≤ nI 3
  · skip
    obtain ⟨sh, hsh9, rfl⟩ := rg_nat hs0 (by decide)
    obtain ⟨sz, hz9, hzs⟩ := hR4 sh (by omega)
    have hzs4 : σ 7 sh = nI sz := by rw [← hR2]; exact hzs
    rcases hR1 sh (by omega) with ⟨hms, hmb⟩ | ⟨q, hq, hwq, hbq⟩
    · skip
      exact ⟨_, _, _, _, _, V3.wr (by decide) (c_X3_load_miss l D cI cJ t f g h τ sh (by omega) hms), V4.wr (by decide) (c_X4_load_miss l D cI cJ a f σ sh (by omega) (by rw [hmb]; decide)), (hT.fi (by decide)).up⟩
    · skip
      have h4 := c_X4_load_ok l D cI cJ a f σ sh (by omega) (by rw [hbq]; rcases hq with rfl | rfl | rfl <;> decide) sz hzs4 (by omega)
      rw [← hR3] at h4
      exact ⟨_, _, _, _, _, V3.wr (by decide) (c_X3_load_ok l D cI cJ t f g h τ sh (by omega) (by rw [hwq]; rcases hq with rfl | rfl | rfl <;> decide) sz hzs (by omega)), V4.wr (by decide) (h4), (hT.row (RW.of (hI.load) (ldR_d.trans hd) hdi)).up⟩
  · skip
    exact ⟨_, _, _, _, _, V3.wr (by decide) (c_X3_load_bad l D cI cJ t f g h τ x hs0), V4.wr (by decide) (c_X4_load_bad l D cI cJ a f σ x hs0), (hT.fi (by decide)).up⟩
theorem pr_judge (l : Launch) (D : va_G) (cI cJ : ClassId) (t a : Nat → Nat) (mt ka : Nat) (kk vv : Nat → Nat) (i : Nat) (hi : i ≤ 511) (f g h : Nat → Int32) (τ σ : Nat → Nat → Int32) (hT : ST i f h τ σ) (x : Int32) : PR2 Value.int l D cI cJ t a mt ka kk vv yX3_judge cX3_judge 4 yX4_judge cX4_judge 3 (some .int) i f g h τ σ [.int x] := by
  obtain ⟨n, d, hI, hd, hdi⟩ := id hT.1
  have h8 := hI.wk.2.1
  obtain ⟨hR1, hR2, hR3, hR4⟩ := id hT.2.2.2.1
  by_cases hs0 : nI 0 ≤ x ∧ x ≤ nI 3
  · skip
    obtain ⟨sh, hsh9, rfl⟩ := rg_nat hs0 (by decide)
    obtain ⟨sz, hz9, hzs⟩ := hR4 sh (by omega)
    have hzs4 : σ 7 sh = nI sz := by rw [← hR2]; exact hzs
    rcases hR1 sh (by omega) with ⟨hms, hmb⟩ | ⟨q, hq, hwq, hbq⟩
    · skip
      exact ⟨_, _, _, _, _, V3.wr (by decide) (c_X3_judge_miss l D cI cJ t f g h τ sh (by omega) hms), V4.wr (by decide) (c_X4_judge_miss l D cI cJ a f σ sh (by omega) (by rw [hmb]; decide)), (hT.fi (by decide)).up⟩
    · skip
      have h4 := c_X4_judge_ok l D cI cJ a f σ sh (by omega) (by rw [hbq]; rcases hq with rfl | rfl | rfl <;> decide) sz hzs4 (by omega) n hI.wk
      rw [← hR3] at h4
      exact ⟨_, _, _, _, _, V3.wr (by decide) (c_X3_judge_ok l D cI cJ t f g h τ sh (by omega) (by rw [hwq]; rcases hq with rfl | rfl | rfl <;> decide) sz hzs (by omega) n hI.wk), V4.wr (by decide) (h4), hT.up⟩
  · skip
    exact ⟨_, _, _, _, _, V3.wr (by decide) (c_X3_judge_bad l D cI cJ t f g h τ x hs0), V4.wr (by decide) (c_X4_judge_bad l D cI cJ a f σ x hs0), (hT.fi (by decide)).up⟩
theorem pr_image (l : Launch) (D : va_G) (cI cJ : ClassId) (t a : Nat → Nat) (mt ka : Nat) (kk vv : Nat → Nat) (i : Nat) (hi : i ≤ 511) (f g h : Nat → Int32) (τ σ : Nat → Nat → Int32) (hT : ST i f h τ σ) : PR2 Value.int l D cI cJ t a mt ka kk vv yX3_image cX3_image 1 yX4_image cX4_image 1 (some .int) i f g h τ σ [] := by
  obtain ⟨n, d, hI, hd, hdi⟩ := id hT.1
  have h8 := hI.wk.2.1
  exact ⟨_, _, _, _, _, V3.wr (by decide) (c_X3_image_ok l D cI cJ t f g h τ), V4.wr (by decide) (c_X4_image_ok l D cI cJ a f σ), (show ST i f f (m0 τ 0 (nI 1)) (m9 (va_up σ 1 f) 0 (nI 1)) from ⟨hT.1, Or.inr ⟨rfl, rfl, rfl, hT.1⟩, hT.2.2⟩).up⟩
theorem pr_undo (l : Launch) (D : va_G) (cI cJ : ClassId) (t a : Nat → Nat) (mt ka : Nat) (kk vv : Nat → Nat) (i : Nat) (hi : i ≤ 511) (f g h : Nat → Int32) (τ σ : Nat → Nat → Int32) (hT : ST i f h τ σ) : PR2 Value.int l D cI cJ t a mt ka kk vv yX3_undo cX3_undo 1 yX4_undo cX4_undo 1 (some .int) i f g h τ σ [] := by
  obtain ⟨n, d, hI, hd, hdi⟩ := id hT.1
  have h8 := hI.wk.2.1
  rcases hT.2.1 with ⟨hi3, hi4⟩ | ⟨hi3, hi4, he, hR⟩
  · skip
    exact ⟨_, _, _, _, _, V3.wr (by decide) (c_X3_undo_none l D cI cJ t f g h τ hi3), V4.wr (by decide) (c_X4_undo_none l D cI cJ a f σ hi4), (hT.fi (by decide)).up⟩
  · skip
    have h4 := c_X4_undo_ok l D cI cJ a f σ hi4
    rw [he] at h4
    exact ⟨_, _, _, _, _, V3.wr (by decide) (c_X3_undo_ok l D cI cJ t f g h τ hi3), V4.wr (by decide) (h4), (hT.row hR).up⟩
theorem pr_tear (l : Launch) (D : va_G) (cI cJ : ClassId) (t a : Nat → Nat) (mt ka : Nat) (kk vv : Nat → Nat) (i : Nat) (hi : i ≤ 511) (f g h : Nat → Int32) (τ σ : Nat → Nat → Int32) (hT : ST i f h τ σ) : PR2 Value.int l D cI cJ t a mt ka kk vv yX3_tear cX3_tear 2 yX4_tear cX4_tear 2 (some .int) i f g h τ σ [] := by
  obtain ⟨n, d, hI, hd, hdi⟩ := id hT.1
  have h8 := hI.wk.2.1
  rcases hT.2.1 with ⟨hi3, hi4⟩ | ⟨hi3, hi4, -, -⟩
  · skip
    exact ⟨_, _, _, _, _, V3.wr (by decide) (c_X3_tear_t0 l D cI cJ t f g h τ hi3), V4.wr (by decide) (c_X4_tear_t0 l D cI cJ a f σ hi4), (show ST i f h (m0 τ 0 (nI 0)) (m9 σ 0 (nI 0)) from ⟨hT.1, Or.inl ⟨rfl, rfl⟩, hT.2.2⟩).up⟩
  · skip
    exact ⟨_, _, _, _, _, V3.wr (by decide) (c_X3_tear_t1 l D cI cJ t f g h τ hi3), V4.wr (by decide) (c_X4_tear_t1 l D cI cJ a f σ hi4), (show ST i f h (m0 τ 0 (nI 0)) (m9 σ 0 (nI 0)) from ⟨hT.1, Or.inl ⟨rfl, rfl⟩, hT.2.2⟩).up⟩
theorem pr_count (l : Launch) (D : va_G) (cI cJ : ClassId) (t a : Nat → Nat) (mt ka : Nat) (kk vv : Nat → Nat) (i : Nat) (hi : i ≤ 511) (f g h : Nat → Int32) (τ σ : Nat → Nat → Int32) (hT : ST i f h τ σ) (x : Int32) : PR2 Value.int l D cI cJ t a mt ka kk vv yX3_count cX3_count 2 yX4_count cX4_count 4 (some .int) i f g h τ σ [.int x] := by
  obtain ⟨n, d, hI, hd, hdi⟩ := id hT.1
  have h8 := hI.wk.2.1
  by_cases hb0 : ((nI 0 ≤ x ∧ x ≤ nI 7))
  · skip
    obtain ⟨w, hw9, rfl⟩ := rg_nat hb0 (by decide)
    obtain ⟨L, hL, hL4, hL9, he, hby⟩ := id hT.2.2.1
    rcases (show w = 0 ∨ w = 1 ∨ w = 2 ∨ w = 3 ∨ w = 4 ∨ w = 5 ∨ w = 6 ∨ w = 7 by omega) with rfl | rfl | rfl | rfl | rfl | rfl | rfl | rfl
    · skip
      exact ⟨_, _, _, _, _, V3.wr (by decide) (c_X3_count_ok0 l D cI cJ t f g h τ n hI.wk), V4.wr (by decide) (c_X4_count_ok0 l D cI cJ a f σ n hI.wk), hT.up⟩
    · skip
      exact ⟨_, _, _, _, _, V3.wr (by decide) (c_X3_count_ok1 l D cI cJ t f g h τ n hI.wk), V4.wr (by decide) (c_X4_count_ok1 l D cI cJ a f σ n hI.wk), hT.up⟩
    · skip
      exact ⟨_, _, _, _, _, V3.wr (by decide) (c_X3_count_ok2 l D cI cJ t f g h τ n hI.wk), V4.wr (by decide) (c_X4_count_ok2 l D cI cJ a f σ n hI.wk), hT.up⟩
    · skip
      exact ⟨_, _, _, _, _, V3.wr (by decide) (c_X3_count_ok3 l D cI cJ t f g h τ n hI.wk), V4.wr (by decide) (c_X4_count_ok3 l D cI cJ a f σ n hI.wk), hT.up⟩
    · skip
      exact ⟨_, _, _, _, _, V3.wr (by decide) (c_X3_count_ok4 l D cI cJ t f g h τ n hI.wk), V4.wr (by decide) (c_X4_count_ok4 l D cI cJ a f σ n hI.wk), hT.up⟩
    · skip
      have h3 := c_X3_count_ok5 l D cI cJ t f g h τ n hI.wk
      rw [hL] at h3
      have h4 := c_X4_count_ok5 l D cI cJ a f σ n hI.wk
      rw [hL4] at h4
      exact ⟨_, _, _, _, _, V3.wr (by decide) (h3), V4.wr (by decide) (h4), hT.up⟩
    · skip
      exact ⟨_, _, _, _, _, V3.wr (by decide) (c_X3_count_ok6 l D cI cJ t f g h τ n hI.wk), V4.wr (by decide) (c_X4_count_ok6 l D cI cJ a f σ n hI.wk), hT.up⟩
    · skip
      exact ⟨_, _, _, _, _, V3.wr (by decide) (c_X3_count_ok7 l D cI cJ t f g h τ n hI.wk), V4.wr (by decide) (c_X4_count_ok7 l D cI cJ a f σ n hI.wk), hT.up⟩
  · skip
    exact ⟨_, _, _, _, _, V3.wr (by decide) (c_X3_count_bad l D cI cJ t f g h τ x hb0), V4.wr (by decide) (c_X4_count_bad l D cI cJ a f σ x hb0), (hT.fi (by decide)).up⟩
theorem pr_status (l : Launch) (D : va_G) (cI cJ : ClassId) (t a : Nat → Nat) (mt ka : Nat) (kk vv : Nat → Nat) (i : Nat) (hi : i ≤ 511) (f g h : Nat → Int32) (τ σ : Nat → Nat → Int32) (hT : ST i f h τ σ) (x : Int32) : PR2 Value.int l D cI cJ t a mt ka kk vv yX3_status cX3_status 4 yX4_status cX4_status 2 (some .int) i f g h τ σ [.int x] := by
  obtain ⟨n, d, hI, hd, hdi⟩ := id hT.1
  have h8 := hI.wk.2.1
  by_cases hb0 : (((-1) ≤ x ∧ x ≤ nI 6))
  · skip
    obtain ⟨hF1, hF2⟩ := id hT.2.2.2.2
    rcases rm1_nat hb0 (by decide) with rfl | ⟨w, hw9, rfl⟩
    · skip
      have h4 := c_X4_status_okm l D cI cJ a f σ
      rw [hF2] at h4
      exact ⟨_, _, _, _, _, V3.wr (by decide) (c_X3_status_okm l D cI cJ t f g h τ), V4.wr (by decide) (h4), hT.up⟩
    · skip
      rcases (show w = 0 ∨ w = 1 ∨ w = 2 ∨ w = 3 ∨ w = 4 ∨ w = 5 ∨ w = 6 by omega) with rfl | rfl | rfl | rfl | rfl | rfl | rfl
      · skip
        have h4 := c_X4_status_ok0 l D cI cJ a f σ
        rw [← hF1 0 (by decide)] at h4
        exact ⟨_, _, _, _, _, V3.wr (by decide) (c_X3_status_ok0 l D cI cJ t f g h τ), V4.wr (by decide) (h4), hT.up⟩
      · skip
        have h4 := c_X4_status_ok1 l D cI cJ a f σ
        rw [← hF1 1 (by decide)] at h4
        exact ⟨_, _, _, _, _, V3.wr (by decide) (c_X3_status_ok1 l D cI cJ t f g h τ), V4.wr (by decide) (h4), hT.up⟩
      · skip
        have h4 := c_X4_status_ok2 l D cI cJ a f σ
        rw [← hF1 2 (by decide)] at h4
        exact ⟨_, _, _, _, _, V3.wr (by decide) (c_X3_status_ok2 l D cI cJ t f g h τ), V4.wr (by decide) (h4), hT.up⟩
      · skip
        have h4 := c_X4_status_ok3 l D cI cJ a f σ
        rw [← hF1 3 (by decide)] at h4
        exact ⟨_, _, _, _, _, V3.wr (by decide) (c_X3_status_ok3 l D cI cJ t f g h τ), V4.wr (by decide) (h4), hT.up⟩
      · skip
        have h4 := c_X4_status_ok4 l D cI cJ a f σ
        rw [← hF1 4 (by decide)] at h4
        exact ⟨_, _, _, _, _, V3.wr (by decide) (c_X3_status_ok4 l D cI cJ t f g h τ), V4.wr (by decide) (h4), hT.up⟩
      · skip
        have h4 := c_X4_status_ok5 l D cI cJ a f σ
        rw [← hF1 5 (by decide)] at h4
        exact ⟨_, _, _, _, _, V3.wr (by decide) (c_X3_status_ok5 l D cI cJ t f g h τ), V4.wr (by decide) (h4), hT.up⟩
      · skip
        have h4 := c_X4_status_ok6 l D cI cJ a f σ
        rw [← hF1 6 (by decide)] at h4
        exact ⟨_, _, _, _, _, V3.wr (by decide) (c_X3_status_ok6 l D cI cJ t f g h τ), V4.wr (by decide) (h4), hT.up⟩
  · skip
    exact ⟨_, _, _, _, _, V3.wr (by decide) (c_X3_status_bad l D cI cJ t f g h τ x hb0), V4.wr (by decide) (c_X4_status_bad l D cI cJ a f σ x hb0), (hT.fi (by decide)).up⟩

/-! what holds between the calls of a script, on both sides -/
def RW (i : Nat) (f : Nat → Int32) : Prop := ∃ n d, Iv f n ∧ f 1 = nI d ∧ d ≤ 60 * i
def R1 (i : Nat) (x y : Int32) (s1 h : Nat → Int32) : Prop := (x = nI 0 ∧ y = nI 0) ∨ (x = nI 1 ∧ y = nI 1 ∧ s1 = h ∧ RW i h)
def R2 (x y : Int32) (b s5 : Nat → Int32) : Prop := ∃ L, x = nI L ∧ y = nI L ∧ L ≤ 120 ∧ b = s5 ∧ By b L
def R3 (w b z s7 u s8 : Nat → Int32) : Prop := (∀ sh, sh < 4 → (w sh = nI 0 ∧ b sh = -1) ∨ ∃ q, (q = 8 ∨ q = 16 ∨ q = 32) ∧ w sh = nI q ∧ b sh = nI q) ∧ z = s7 ∧ u = s8 ∧ ∀ sh, sh < 4 → ∃ q, q ≤ 40 ∧ z sh = nI q
def ST (i : Nat) (f h : Nat → Int32) (τ σ : Nat → Nat → Int32) : Prop := RW i f ∧ R1 i (τ 0 0) (σ 9 0) (σ 1) h ∧ R2 (τ 0 1) (σ 9 1) (τ 1) (σ 5) ∧ R3 (τ 2) (σ 6) (τ 3) (σ 7) (τ 4) (σ 8) ∧ Fk (τ 9) (σ 4)
theorem RW.up {i : Nat} {f : Nat → Int32} (h : RW i f) : RW (i + 1) f := by
  obtain ⟨n, d, h1, h2, h3⟩ := h
  exact ⟨n, d, h1, h2, by omega⟩
theorem ST.up {i : Nat} {f h : Nat → Int32} {τ σ : Nat → Nat → Int32} (hT : ST i f h τ σ) : ST (i + 1) f h τ σ := ⟨hT.1.up, hT.2.1.imp id (fun q => ⟨q.1, q.2.1, q.2.2.1, q.2.2.2.up⟩), hT.2.2⟩
theorem ST.row {i : Nat} {f f' h : Nat → Int32} {τ σ : Nat → Nat → Int32} (hT : ST i f h τ σ) (hr : RW i f') : ST i f' h τ σ := ⟨hr, hT.2⟩
theorem ST.fi {i k : Nat} {f h : Nat → Int32} {τ σ : Nat → Nat → Int32} (hT : ST i f h τ σ) (hk : k < 7) : ST i f h (va_up τ 9 (cFi (τ 9) k)) (va_up σ 4 (mFi (σ 4) k)) := ⟨hT.1, hT.2.1, hT.2.2.1, hT.2.2.2.1, hT.2.2.2.2.fi hk⟩
theorem ST.aside {i : Nat} {f h r : Nat → Int32} {τ σ : Nat → Nat → Int32} (hT : ST i f h τ σ) : ST i f h τ (va_up σ 3 r) := hT
theorem ST.opt {i : Nat} {f h : Nat → Int32} {τ σ : Nat → Nat → Int32} (hT : ST i f h τ σ) (o : Option Nat) : ST i f h (tgN τ o) (sgN σ o) := by
  cases o with
  | none => exact hT.fi (by decide)
  | some b => exact hT
theorem ST.lb {i k w v : Nat} {f h f0 : Nat → Int32} {τ σ : Nat → Nat → Int32} (hT : ST i f h τ σ) : ST i f h τ (lbT σ f0 k w v) := by
  cases v with
  | zero => exact hT
  | succ u => exact hT
theorem ST.fr {i ce u : Nat} {f h f0 : Nat → Int32} {τ σ : Nat → Nat → Int32} (hT : ST i f h τ σ) : ST i f h τ (frT σ f0 ce u) := by
  unfold frT
  split
  · exact hT
  · exact hT
theorem ST.nf {i : Nat} {f h A : Nat → Int32} {τ σ : Nat → Nat → Int32} {x y : Int32} (hT : ST i f h τ σ) : ST i f h τ (NF σ A (upd (upd (σ 9) 2 x) 3 y)) := hT
theorem rc_nat {x : Int32} {n : Nat} (h : 0 ≤ x ∧ x < nI n) (hn : n ≤ 40) : ∃ k, k < n ∧ x = nI k := by
  obtain ⟨h1, h2⟩ := h
  rw [Int32.lt_iff_toInt_lt, nI_toInt (by omega)] at h2
  have h3 : (0 : Int) ≤ x.toInt := by simpa using Int32.le_iff_toInt_le.mp h1
  refine ⟨x.toInt.toNat, by omega, ?_⟩
  apply Int32.toInt_inj.mp
  rw [nI_toInt (by omega)]
  omega
theorem rg1_nat {x : Int32} {a : Nat} (h : nI 1 ≤ x ∧ x ≤ nI a) (ha : a < 2147483648) : ∃ j, 1 ≤ j ∧ j ≤ a ∧ x = nI j := by
  obtain ⟨h1, h2⟩ := h
  rw [Int32.le_iff_toInt_le, nI_toInt (by omega)] at h1 h2
  refine ⟨x.toInt.toNat, by omega, by omega, ?_⟩
  apply Int32.toInt_inj.mp
  rw [nI_toInt (by omega)]
  omega
theorem rm1_nat {x : Int32} {a : Nat} (h : (-1) ≤ x ∧ x ≤ nI a) (ha : a < 2147483648) : x = -1 ∨ ∃ j, j ≤ a ∧ x = nI j := by
  obtain ⟨h1, h2⟩ := h
  rw [Int32.le_iff_toInt_le] at h1
  rw [Int32.le_iff_toInt_le, nI_toInt (by omega)] at h2
  have h3 : (-1 : Int) ≤ x.toInt := h1
  by_cases e : x.toInt = -1
  · exact Or.inl (Int32.toInt_inj.mp e)
  · refine Or.inr ⟨x.toInt.toNat, by omega, ?_⟩
    apply Int32.toInt_inj.mp
    rw [nI_toInt (by omega)]
    omega
theorem z40 {z : Int32} (h1 : ¬ z < 0) (h2 : ¬ nI 40 < z) : ∃ q, q ≤ 40 ∧ z = nI q := rg_nat ⟨i32_le_of_not_lt h1, i32_le_of_not_lt h2⟩ (by decide)
theorem RW.of {i n d : Nat} {f : Nat → Int32} (h : Iv f n) (hd : f 1 = nI d) (hi : d ≤ 60 * i) : RW i f := ⟨n, d, h, hd, hi⟩
theorem R3.sheet {w b z s7 u s8 : Nat → Int32} {sh q r : Nat} {x : Int32} (h : R3 w b z s7 u s8) (hr : r ≤ 40) (hq : (q = 0 ∧ x = -1) ∨ ((q = 8 ∨ q = 16 ∨ q = 32) ∧ x = nI q)) : R3 (upd w sh (nI q)) (upd b sh x) (upd z sh (nI r)) (upd s7 sh (nI r)) (zrw u sh 40) (zrw s8 sh 40) := by
  refine ⟨fun k hk => ?_, by rw [h.2.1], by rw [h.2.2.1], fun k hk => ?_⟩
  · by_cases e : k = sh
    · subst e
      rw [upd_at, upd_at]
      rcases hq with ⟨rfl, rfl⟩ | ⟨h1, rfl⟩
      · exact Or.inl ⟨rfl, rfl⟩
      · exact Or.inr ⟨q, h1, rfl, rfl⟩
    · rw [upd_ne e, upd_ne e]
      exact h.1 k hk
  · by_cases e : k = sh
    · subst e
      exact ⟨r, hr, upd_at⟩
    · rw [upd_ne e]
      exact h.2.2.2 k hk
theorem byt_le (x : Int32) (i : Nat) : ∃ y, y ≤ 255 ∧ byt x i = nI y := by
  obtain ⟨j, hj, e⟩ := pk_andE (x >>> (nI (8 * i) &&& 31)) (m := 255) 8 (by decide)
  exact ⟨j, by omega, e⟩
theorem By.fd {r : Nat → Int32} {b q : Nat} {x : Int32} (h : By r b) : ∀ {j : Nat}, By (fdT r b x q j) (b + j)
  | 0 => h
  | j + 1 => fun i hi => by
    show ∃ y, y ≤ 255 ∧ upd (fdT r b x q j) (b + j) (byt x (q - 1 - j)) i = nI y
    by_cases e : i = b + j
    · subst e
      rw [upd_at]
      exact byt_le x _
    · rw [upd_ne e]
      exact By.fd h (j := j) i (by omega)
theorem ldR_d {u : Nat → Int32} {sz : Nat} : ∀ {m k : Nat} {f : Nat → Int32}, (ldR u sz m k f).2 1 = f 1
  | 0, _, _ => rfl
  | m + 1, k, f => by
    by_cases h : k < sz ∧ k < 6 ∧ (nI 0 ≤ u k ∧ u k ≤ nI 99)
    · rw [ldR_1 h, ldR_d, upd_ne (by omega)]
    · rw [ldR_0 h]
/-- a call of the class, in any of the contracts' forms -/
def V3 (l : Launch) (D : va_G) (cI cJ : ClassId) (t : Nat → Nat) (mt ka : Nat) (kk vv : Nat → Nat) (y : MethodName) (cc : ByteArray) (mL : Nat) (rt : Option FieldType) (f g h : Nat → Int32) (τ : Nat → Nat → Int32) (As : List Value) (r : Value) (f' h' : Nat → Int32) (τ' : Nat → Nat → Int32) : Prop :=
  ∃ d, d ≤ 10 ∧ ((∃ g', WR l y cc mL rt d D cI cJ (TW cI cJ t f g h τ) (.ref (t 0) :: As) (some r) (TW cI cJ t f' g' h' τ')) ∨ WE l y cc mL rt d D cI cJ (TW cI cJ t f g h τ) (.ref (t 0) :: As) (some r) (fun g' => TW cI cJ t f' g' h' τ') ∨ (∃ g', WZ mt ka l y cc mL rt d D cI cJ (TW cI cJ t f g h τ) (.ref (t 0) :: As) (some r) (TW cI cJ t f' g' h' τ')) ∨ ∃ g', WY mt ka kk vv l y cc mL rt d D cI cJ (TW cI cJ t f g h τ) (.ref (t 0) :: As) (some r) (TW cI cJ t f' g' h' τ'))
def V4 (l : Launch) (D : va_G) (cI cJ : ClassId) (a : Nat → Nat) (y : MethodName) (cc : ByteArray) (mL : Nat) (rt : Option FieldType) (f : Nat → Int32) (σ : Nat → Nat → Int32) (As : List Value) (r : Value) (f' : Nat → Int32) (σ' : Nat → Nat → Int32) : Prop :=
  ∃ d, d ≤ 10 ∧ WR l y cc mL rt d D cI cJ (MW cI a f σ) (.ref (a 0) :: As) (some r) (MW cI a f' σ')
section Vs
variable {l : Launch} {D : va_G} {cI cJ : ClassId} {t a : Nat → Nat} {mt ka : Nat} {kk vv : Nat → Nat} {y : MethodName} {cc : ByteArray} {mL d : Nat} {rt : Option FieldType} {f g h f' g' h' : Nat → Int32} {τ τ' σ σ' : Nat → Nat → Int32} {As : List Value} {r : Value}
theorem V3.wr (hd : d ≤ 10) (hM : WR l y cc mL rt d D cI cJ (TW cI cJ t f g h τ) (.ref (t 0) :: As) (some r) (TW cI cJ t f' g' h' τ')) : V3 l D cI cJ t mt ka kk vv y cc mL rt f g h τ As r f' h' τ' := ⟨d, hd, Or.inl ⟨g', hM⟩⟩
theorem V3.we (hd : d ≤ 10) (hM : WE l y cc mL rt d D cI cJ (TW cI cJ t f g h τ) (.ref (t 0) :: As) (some r) (fun g' => TW cI cJ t f' g' h' τ')) : V3 l D cI cJ t mt ka kk vv y cc mL rt f g h τ As r f' h' τ' := ⟨d, hd, Or.inr (Or.inl hM)⟩
theorem V3.wz (hd : d ≤ 10) (hM : WZ mt ka l y cc mL rt d D cI cJ (TW cI cJ t f g h τ) (.ref (t 0) :: As) (some r) (TW cI cJ t f' g' h' τ')) : V3 l D cI cJ t mt ka kk vv y cc mL rt f g h τ As r f' h' τ' := ⟨d, hd, Or.inr (Or.inr (Or.inl ⟨g', hM⟩))⟩
theorem V3.wy (hd : d ≤ 10) (hM : WY mt ka kk vv l y cc mL rt d D cI cJ (TW cI cJ t f g h τ) (.ref (t 0) :: As) (some r) (TW cI cJ t f' g' h' τ')) : V3 l D cI cJ t mt ka kk vv y cc mL rt f g h τ As r f' h' τ' := ⟨d, hd, Or.inr (Or.inr (Or.inr ⟨g', hM⟩))⟩
theorem V4.wr (hd : d ≤ 10) (hM : WR l y cc mL rt d D cI cJ (MW cI a f σ) (.ref (a 0) :: As) (some r) (MW cI a f' σ')) : V4 l D cI cJ a y cc mL rt f σ As r f' σ' := ⟨d, hd, hM⟩
end Vs
/-- one call on both sides: the same answer, and what holds goes on -/
def PR2 {α : Type} (mk : α → Value) (l : Launch) (D : va_G) (cI cJ : ClassId) (t a : Nat → Nat) (mt ka : Nat) (kk vv : Nat → Nat) (y3 : MethodName) (c3 : ByteArray) (m3 : Nat) (y4 : MethodName) (c4 : ByteArray) (m4 : Nat) (rt : Option FieldType) (i : Nat) (f g h : Nat → Int32) (τ σ : Nat → Nat → Int32) (As : List Value) : Prop :=
  ∃ (x : α) (f' h' : Nat → Int32) (τ' σ' : Nat → Nat → Int32), V3 l D cI cJ t mt ka kk vv y3 c3 m3 rt f g h τ As (mk x) f' h' τ' ∧ V4 l D cI cJ a y4 c4 m4 rt f σ As (mk x) f' σ' ∧ ST (i + 1) f' h' τ' σ'

/-! the class's reading: words, and the value that is left behind -/
theorem mtW_iff {b : Nat → Int32} : ∀ {cs : List Nat} {s : Nat}, mtW b s cs = true ↔ ∀ t, t < cs.length → b (s + t) = nI (cs.getD t 0)
  | [], s => by simp [mtW]
  | x :: cs, s => by
    rw [mtW, Bool.and_eq_true, decide_eq_true_eq, mtW_iff]
    constructor
    · intro h t ht
      cases t with
      | zero => exact h.1
      | succ t =>
        have h2 := h.2 t (by simpa using ht)
        rw [show s + (t + 1) = s + 1 + t by omega]
        exact h2
    · intro h
      refine ⟨h 0 (by simp), fun t ht => ?_⟩
      have h2 := h (t + 1) (by simpa using ht)
      rw [show s + (t + 1) = s + 1 + t by omega] at h2
      exact h2
theorem wd_iff {b : Nat → Int32} {L s : Nat} {cs : List Nat} : wd b L s cs = true ↔ tK b L s = 1 ∧ tE b L s = s + cs.length ∧ ∀ t, t < cs.length → b (s + t) = nI (cs.getD t 0) := by
  unfold wd
  rw [Bool.and_eq_true, Bool.and_eq_true, decide_eq_true_eq, decide_eq_true_eq, mtW_iff]
theorem wd_two {b : Nat → Int32} {L s : Nat} {x y : List Nat} (hx : wd b L s x = true) (hy : wd b L s y = true) : x.length = y.length ∧ ∀ t, t < x.length → nI (x.getD t 0) = nI (y.getD t 0) := by
  obtain ⟨-, h2, h3⟩ := wd_iff.mp hx
  obtain ⟨-, g2, g3⟩ := wd_iff.mp hy
  have e : x.length = y.length := by omega
  exact ⟨e, fun t ht => by rw [← h3 t ht, ← g3 t (by omega)]⟩
theorem wK_ne : ∀ i, i < 2 → ∀ k, k < 7 → ¬ ((csT i).length = (wK k).length ∧ ∀ t, t < (csT i).length → nI ((csT i).getD t 0) = nI ((wK k).getD t 0)) := by decide +kernel
theorem fst1_is {p : Nat → Bool} : ∀ {m t b : Nat}, fst1 p m t = some b → p b = true
  | 0, t, b, h => by simp [fst1] at h
  | m + 1, t, b, h => by
    by_cases q : p t = true
    · rw [fst1_hit q] at h
      cases h
      exact q
    · rw [fst1_go q] at h
      exact fst1_is h
theorem kdO_none {b : Nat → Int32} {L s i : Nat} (hi : i < 2) (h : wd b L s (csT i) = true) : kdO b L s = none := by
  cases hk : kdO b L s with
  | none => rfl
  | some k =>
    have h1 := fst1_lt hk
    exact absurd (wd_two h (fst1_is hk)) (wK_ne i hi k (by omega))
def vN (b : Nat → Int32) (L : Nat) (v : Int32) (S mo : Nat) : Int32 := if tK b L (nx b L S) = 2 ∧ tV b L (nx b L S) ≤ mo then cV b L (nx b L S) (cV b L S v) else cV b L S v
def vP (b : Nat → Int32) (L : Nat) (v : Int32) (x : Bool × (Nat → Int32) × Nat) (ws : List Nat) (mo : Nat) : Int32 := if x.1 = true ∧ wd b L x.2.2 ws = true then vN b L v x.2.2 mo else v
def vR (b : Nat → Int32) (L : Nat) (v : Int32) (S mo : Nat) : Int32 := if tK b L (nx b L S) = 2 ∧ tV b L (nx b L S) ≤ 5 then vN b L (cV b L S v) (nx b L S) mo else cV b L S v
def moN : Nat → Nat
  | 1 => 5
  | 3 => 11
  | _ => 999
def iX (b : Nat → Int32) (L : Nat) (f : Nat → Int32) (S n k : Nat) : Nat → Bool × (Nat → Int32) × Nat
  | 0 => (true, sAd f n (nI k) (nI 0), nx b L S)
  | m + 1 => pP b L (iX b L f S n k m) (csT (m + 2)) (16 + 7 * n + (m + 1)) (moN (m + 1))
def vX (b : Nat → Int32) (L : Nat) (v : Int32) (f : Nat → Int32) (S n k : Nat) : Nat → Int32
  | 0 => cV b L S v
  | m + 1 => vP b L (vX b L v f S n k m) (iX b L f S n k m) (csT (m + 2)) (moN (m + 1))
theorem iC_X {b : Nat → Int32} {L : Nat} {f : Nat → Int32} {S n k : Nat} (h : ¬ n = 8) : iC b L f S n k = iX b L f S n k 4 := by
  unfold iC
  rw [if_neg h]
  rfl
theorem iX_f {b : Nat → Int32} {L : Nat} {f : Nat → Int32} {S n k m : Nat} (h : ¬ (iX b L f S n k m).1 = true) : iX b L f S n k (m + 1) = iX b L f S n k m := pP_f h
theorem vX_f {b : Nat → Int32} {L : Nat} {v : Int32} {f : Nat → Int32} {S n k m : Nat} (h : ¬ (iX b L f S n k m).1 = true) : vX b L v f S n k (m + 1) = vX b L v f S n k m := if_neg (fun q => h q.1)
theorem iX_le {b : Nat → Int32} {L : Nat} {f : Nat → Int32} {S n k : Nat} (h : S ≤ L) : ∀ m, (iX b L f S n k m).2.2 ≤ L
  | 0 => nx_le h
  | m + 1 => pP_le (iX_le h m)
def vC (b : Nat → Int32) (L : Nat) (v : Int32) (f : Nat → Int32) (S n k : Nat) : Int32 := if n = 8 then v else vX b L v f S n k 4
def vT (b : Nat → Int32) (L : Nat) (v : Int32) (f : Nat → Int32) (S n : Nat) : Int32 := match kdO b L S with
  | some k => vC b L v f S n k
  | none => if wd b L S (csT 0) = true then vR b L v S 99 else if wd b L S (csT 1) = true then vR b L v S 9 else v
def vL (b : Nat → Int32) (L : Nat) : Nat → Bool × (Nat → Int32) × Nat → Int32 → Int32
  | 0, _, v => v
  | m + 1, x, v => if x.1 = true ∧ tK b L x.2.2 = 3 then vL b L m (iT b L x.2.1 (nx b L x.2.2) (nO x.2.1)) (vT b L (cV b L x.2.2 v) x.2.1 (nx b L x.2.2) (nO x.2.1)) else v
def vA (b : Nat → Int32) (L : Nat) (v : Int32) (f : Nat → Int32) : Int32 := vL b L 120 (iT b L f (sS b L 0) (nO f)) (vT b L v f (sS b L 0) (nO f))
theorem vL_1 {b : Nat → Int32} {L m : Nat} {x : Bool × (Nat → Int32) × Nat} {v : Int32} (h : x.1 = true ∧ tK b L x.2.2 = 3) : vL b L (m + 1) x v = vL b L m (iT b L x.2.1 (nx b L x.2.2) (nO x.2.1)) (vT b L (cV b L x.2.2 v) x.2.1 (nx b L x.2.2) (nO x.2.1)) := if_pos h
theorem vL_0 {b : Nat → Int32} {L m : Nat} {x : Bool × (Nat → Int32) × Nat} {v : Int32} (h : ¬ (x.1 = true ∧ tK b L x.2.2 = 3)) : vL b L m x v = v := by
  cases m
  · rfl
  · exact if_neg h
section Vs
variable {b : Nat → Int32} {L : Nat} {v : Int32} {f : Nat → Int32} {S n mo pl row : Nat} {x : Bool × (Nat → Int32) × Nat} {ws : List Nat}
theorem vN_t (h : tK b L (nx b L S) = 2 ∧ tV b L (nx b L S) ≤ mo) : vN b L v S mo = cV b L (nx b L S) (cV b L S v) := if_pos h
theorem vN_f (h : ¬ (tK b L (nx b L S) = 2 ∧ tV b L (nx b L S) ≤ mo)) : vN b L v S mo = cV b L S v := if_neg h
theorem vP_w (hx : x.1 = true) (h : wd b L x.2.2 ws = true) : vP b L v x ws mo = vN b L v x.2.2 mo := if_pos ⟨hx, h⟩
theorem vP_n (h : ¬ wd b L x.2.2 ws = true) : vP b L v x ws mo = v := if_neg (fun q => h q.2)
theorem pP_W (hx : x.1 = true) (h : wd b L x.2.2 ws = true) : pP b L x ws pl mo = pN b L x.2.1 x.2.2 pl mo := if_pos ⟨hx, h⟩
theorem pP_N (h : ¬ wd b L x.2.2 ws = true) : pP b L x ws pl mo = x := if_neg (fun q => h q.2)
theorem iR_t (h : tK b L (nx b L S) = 2 ∧ tV b L (nx b L S) ≤ 5) : iR b L f S row mo = pN b L f (nx b L S) (row + tV b L (nx b L S)) mo := if_pos h
theorem iR_f (h : ¬ (tK b L (nx b L S) = 2 ∧ tV b L (nx b L S) ≤ 5)) : iR b L f S row mo = (false, f, nx b L S) := if_neg h
theorem vR_t (h : tK b L (nx b L S) = 2 ∧ tV b L (nx b L S) ≤ 5) : vR b L v S mo = vN b L (cV b L S v) (nx b L S) mo := if_pos h
theorem vR_f (h : ¬ (tK b L (nx b L S) = 2 ∧ tV b L (nx b L S) ≤ 5)) : vR b L v S mo = cV b L S v := if_neg h
theorem iT_storm (h : wd b L S (csT 0) = true) : iT b L f S n = iR b L f S 10 99 := by
  unfold iT
  rw [kdO_none (by decide) h]
  exact if_pos h
theorem vT_storm (h : wd b L S (csT 0) = true) : vT b L v f S n = vR b L v S 99 := by
  unfold vT
  rw [kdO_none (by decide) h]
  exact if_pos h
theorem iT_frost (h0 : ¬ wd b L S (csT 0) = true) (h : wd b L S (csT 1) = true) : iT b L f S n = iR b L f S 4 9 := by
  unfold iT
  rw [kdO_none (by decide) h]
  exact (if_neg h0).trans (if_pos h)
theorem vT_frost (h0 : ¬ wd b L S (csT 0) = true) (h : wd b L S (csT 1) = true) : vT b L v f S n = vR b L v S 9 := by
  unfold vT
  rw [kdO_none (by decide) h]
  exact (if_neg h0).trans (if_pos h)
theorem iT_none (h0 : ¬ wd b L S (csT 0) = true) (h : ¬ wd b L S (csT 1) = true) (hk : kdO b L S = none) : iT b L f S n = (false, f, S) := by
  unfold iT
  rw [hk]
  exact (if_neg h0).trans (if_neg h)
theorem vT_none (h0 : ¬ wd b L S (csT 0) = true) (h : ¬ wd b L S (csT 1) = true) (hk : kdO b L S = none) : vT b L v f S n = v := by
  unfold vT
  rw [hk]
  exact (if_neg h0).trans (if_neg h)
theorem iT_full {k : Nat} (hk : kdO b L S = some k) (h8 : n = 8) : iT b L f S n = (false, f, S) := by
  unfold iT
  rw [hk]
  exact if_pos h8
theorem vT_full {k : Nat} (hk : kdO b L S = some k) (h8 : n = 8) : vT b L v f S n = v := by
  unfold vT
  rw [hk]
  exact if_pos h8
theorem iT_some {k : Nat} (hk : kdO b L S = some k) (h8 : ¬ n = 8) : iT b L f S n = iX b L f S n k 4 := by
  unfold iT
  rw [hk]
  exact iC_X h8
theorem vT_some {k : Nat} (hk : kdO b L S = some k) (h8 : ¬ n = 8) : vT b L v f S n = vX b L v f S n k 4 := by
  unfold vT
  rw [hk]
  exact if_neg h8
theorem cV_le {mo2 : Nat} (h : tK b L S = 2 ∧ tV b L S ≤ mo2) (hm : mo2 ≤ 999) : cV b L S v = nI (tV b L S) := by
  unfold cV
  rw [if_pos h.1, Nat.min_eq_left (by omega)]
end Vs
theorem c_X2_stepS (l : Launch) (D : va_G) (cI cJ : ClassId) (o : Nat → Nat) (τ : Nat → Nat → Int32) (v : Int32) (L S9 : Nat) (hL : τ 0 1 = nI L) (hL120 : L ≤ 120) (hS9 : S9 ≤ L) : WR l yX2_step cX2_step 1 none 2 D cI cJ (TT cI o (CS τ L S9 v)) [.ref (o 0)] none (TT cI o (CS τ L (nx (τ 1) L S9) (cV (τ 1) L S9 v))) :=
  c_X2_step l D cI cJ o τ (nI (tK (τ 1) L S9)) (nI S9) (tE (τ 1) L S9) (cV (τ 1) L S9 v) L hL hL120 (tE_le hS9).2
theorem c_X2_stepZ (l : Launch) (D : va_G) (cI cJ : ClassId) (o : Nat → Nat) (τ : Nat → Nat → Int32) (k2 s3 v5 : Int32) (L : Nat) (hL : τ 0 1 = nI L) (hL120 : L ≤ 120) : WR l yX2_step cX2_step 1 none 2 D cI cJ (TT cI o (CK τ k2 s3 (nI 0) v5)) [.ref (o 0)] none (TT cI o (CS τ L (sS (τ 1) L 0) v5)) :=
  c_X2_step l D cI cJ o τ k2 s3 0 v5 L hL hL120 (Nat.zero_le L)
section ReadRows
variable {p : Program} {l : Launch} {e : Env} {R : Room} {s : State} {m : MethodId} {args : Array Value} {below : List Frame} {meth : Method} {c : Code} {H H0 : Heap} {locs : List Loc} {cells slots : Nat} {Q : State → Prop} {cc : ByteArray} {pc : Nat} {ls : Array Slot} {rest : List Value}
variable {nL : Nat} {D : va_G} {cI cJ : ClassId} {o t : Nat → Nat} {f g h : Nat → Int32} {τ : Nat → Nat → Int32} {A : Nat → Prop}
theorem p32_end (S : CallFix p m c cc nL s args lwU RX2) (hK : KK D cI cJ s) (hP : va_P D vwCl (TW cI cJ t f g h τ) H) (hD : va_D A (TW cI cJ t f g h τ)) (hS : va_S A H0 H locs) {v : Int32} (hdg : decode cc pc = .ok (.putfield 25, 3)) (k : ∀ (H1 : Heap) (locs1 : List Loc), va_P D vwCl (TW cI cJ t f g h (m0 τ 4 v)) H1 → va_D A (TW cI cJ t f g h (m0 τ 4 v)) → va_S A H0 H1 locs1 → W p l e R s m args below meth c H1 locs1 cells slots Q (F0 m (pc + 3) ls rest)) : W p l e R s m args below meth c H locs cells slots Q (F0 m pc ls (.int v :: .ref (sf t 34 0) :: rest)) := va_put (D := D) (ci := 2) (v := .int v) (ty := .int) (C := RX2) (T := TX2) (N := 6) S.1 S.2.1 S.2.2.2.2 mD_X2 tyX2 tyX2_ok nmX2 S.2.2.2.1 hK hP hD hS 34 rfl rfl 4 (by decide) (S.2.2.2.2 _ mF_X2_25) (fun _ h => h) rfl (by decide +kernel) rfl rfl (Nat.le_of_ble_eq_true rfl) hdg k
end ReadRows
theorem m0_end {τ : Nat → Nat → Int32} {x : Int32} : m0 τ 4 x = CK τ (τ 0 2) (τ 0 3) x (τ 0 5) := by
  unfold m0 CK
  congr 1
  funext i
  unfold upd ckR
  by_cases h4 : i = 4
  · subst h4; rfl
  · rw [if_neg h4]
    by_cases h2 : i = 2
    · subst h2; rfl
    · rw [if_neg h2]
      by_cases h3 : i = 3
      · subst h3; rfl
      · rw [if_neg h3, if_neg h4]
        by_cases h5 : i = 5
        · subst h5; rfl
        · rw [if_neg h5]

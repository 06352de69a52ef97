/-! a Pass whose rows are anything (PG), the tape (TT), the sheets (SH), the whole class (TW); an array is copied -/
def PG (cI : ClassId) (o : Nat → Nat) (r : Nat → Nat → Int32) (i : Nat → Int32) : va_W := [(o 0, .inr (0, [.ref (o 1), .ref (o 2), .ref (o 3), .ref (o 4), .ref (o 5), .ref (o 6), .ref (o 7), .ref (o 8), .ref (o 9), .ref (o 10), .int (i 0), .int (i 1), .int (i 3), .int (i 2)])), (o 1, .inl (cI, 6, .inl (r 1))), (o 2, .inl (cI, 6, .inl (r 2))), (o 3, .inl (cI, 8, .inl (r 3))), (o 4, .inl (cI, 8, .inl (r 4))), (o 5, .inl (cI, 8, .inl (r 5))), (o 6, .inl (cI, 8, .inl (r 6))), (o 7, .inl (cI, 8, .inl (r 7))), (o 8, .inl (cI, 8, .inl (r 8))), (o 9, .inl (cI, 8, .inl (r 9))), (o 10, .inl (cI, 10, .inl (r 10)))]
def prow (f : Nat → Int32) : Nat → Nat → Int32 := fun k => match k with
  | 1 => pv f 4 6
  | 2 => pv f 10 6
  | 3 => vw f 0
  | 4 => vw f 1
  | 5 => vw f 2
  | 6 => vw f 3
  | 7 => vw f 4
  | 8 => vw f 5
  | 9 => vw f 6
  | _ => pv f 72 10
theorem PW_PG {cI : ClassId} {o : Nat → Nat} {f : Nat → Int32} : PW cI o f = PG cI o (prow f) f := rfl
theorem pv_cpy {f g : Nat → Int32} {b n : Nat} : va_cpy (pv g b n) (pv f b n) 0 0 n = pv g b n := by
  funext k
  unfold va_cpy pv
  by_cases h : k < n
  · simp [h]
  · simp [h]
theorem vw_cpy {f g : Nat → Int32} {w : Nat} : va_cpy (vw g w) (vw f w) 0 0 8 = vw g w := by
  funext k
  unfold va_cpy vw
  by_cases h : k < 8
  · simp [h]
  · simp [h]
theorem va_P_l {D : va_G} {X Y : va_W} {H : Heap} (h : va_P D vwCl (X ++ Y) H) : va_P D vwCl X H := fun k q hq => h k q (by
  rw [List.getElem?_append_left (List.getElem?_eq_some_iff.mp hq).1]
  exact hq)
theorem va_P_r {D : va_G} {X Y : va_W} {H : Heap} (h : va_P D vwCl (X ++ Y) H) : va_P D vwCl Y H := fun k q hq => h (X.length + k) q (by
  rw [List.getElem?_append_right (by omega), show X.length + k - X.length = k by omega]
  exact hq)
section CpRow
variable {p : Program} {l : Launch} {e : Env} {R : Room} {s : State} {m : MethodId} {args : Array Value} {below : List Frame} {meth : Method} {c : Code} {H H0 : Heap} {locs : List Loc} {cells slots : Nat} {Q : State → Prop} {cc : ByteArray} {pc : Nat} {ls : Array Slot} {rest : List Value}
variable {nL : Nat} {own : String} {D : va_G} {cI cJ : ClassId} {A : Nat → Prop} {ws ws1 : va_W}
theorem q_cpy {ix : Nat} (S : CallFix p m c cc nL s args lwU own) (hK : KK D cI cJ s) (hP : va_P D vwCl ws H) (hD : va_D A ws) (hS : va_S A H0 H locs) (hs : ls.size = nL) (hL : Cond.methodLink own ix arraycopyName ∈ lwU) (q0 q1 : Nat) {a0 a1 : Nat} {n0 n1 : Nat} {f g : Nat → Int32} {x y n : Nat} (ha0 : ws[q0]? = some (a0, .inl (cI, n0, .inl f))) (ha1 : ws[q1]? = some (a1, .inl (cI, n1, .inl g))) (hx1 : x + n ≤ n0) (hx2 : y + n ≤ n1) (hb1 : n0 < 2147483648) (hb2 : n1 < 2147483648) (hfr : 1 ≤ R.frames) (hlo : (rest.map fun v => v.category).sum + (nativeFrameWords "java/lang/System" "arraycopy" 5 + 11) ≤ R.locals) (hdg : decode cc pc = .ok (.invokestatic ix, 3)) (hw : ws.set q1 (a1, .inl (cI, n1, .inl (va_cpy f g x y n))) = ws1)
    (k : ∀ (H1 : Heap) (locs1 : List Loc), va_P D vwCl ws1 H1 → va_D A ws1 → va_S A H0 H1 locs1 → W p l e R s m args below meth c H1 locs1 cells slots Q (F0 m (pc + 3) ls rest)) : W p l e R s m args below meth c H locs cells slots Q (F0 m pc ls (.int (nI n) :: .int (nI y) :: .ref a1 :: .int (nI x) :: .ref a0 :: rest)) := by
  subst hw
  refine va_copyi S.1 S.2.1 (S.2.2.1.trans hs.symm) S.2.2.2.1 (S.2.2.2.2 _ hL) (S.2.2.2.2 _ mV_arraycopy) (S.2.2.2.2 _ mT_arraycopy) (S.2.2.2.2 _ mN_J10) hK hP hD hS q0 q1 0 0 ha0 ha1 rfl rfl rfl (nI_pos (by omega)) (nI_pos (by omega)) (nI_pos (by omega)) (by rw [nI_clamp (by omega), nI_clamp (by omega)]; exact hx1) (by rw [nI_clamp (by omega), nI_clamp (by omega)]; exact hx2) (fun _ _ => rfl) hfr hlo hdg (fun H1 locs1 hP hD hS => ?_)
  rw [nI_clamp (by omega), nI_clamp (by omega), nI_clamp (by omega)] at hP hD
  exact k H1 locs1 hP hD hS
end CpRow

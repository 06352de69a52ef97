/-! contracts that leave one row open (WE): behind the call the row is some g -/
def QE (D : va_G) (r : Option Value) (w' : (Nat → Int32) → va_W) (A : Nat → Prop) : Array Value → State → Outcome → State → Prop := fun _ st o t => o = .returned r ∧ (∃ g, va_P D vwCl (w' g) t.heap) ∧ va_F A st t
def WE (l : Launch) (y : MethodName) (cc : ByteArray) (mL : Nat) (rt : Option FieldType) (d : Nat) (D : va_G) (cI cJ : ClassId) (w : va_W) (As : List Value) (r : Option Value) (w' : (Nat → Int32) → va_W) : Prop :=
  ∀ sz : Nat, Met l y (.code y cc mL rt :: lwU) (rmd d) (PX D cI cJ w As sz) (QE D r w' (va_A w sz)) 0 0 (va_A w sz)
abbrev ZE (below : List Frame) (args : Array Value) (s : State) (D : va_G) (r : Option Value) (w' : (Nat → Int32) → va_W) (A : Nat → Prop) : State → Prop := MQ below (QE D r w' A) args s 0 0 A
theorem WE.of {l : Launch} {y : MethodName} {cc : ByteArray} {mL : Nat} {rt : Option FieldType} {d : Nat} {D : va_G} {cI cJ : ClassId} {w : va_W} {w' : (Nat → Int32) → va_W} {As : List Value} {r : Option Value} (hy : plainName y.cls = true) (hlen : (lg_sl As).length ≤ mL)
    (body : ∀ (p : Program) (e : Env) (s : State) (m : MethodId) (below : List Frame) (meth : Method) (c : Code) (ls : Array Slot) (A : Nat → Prop), CallFix p m c cc mL s As.toArray lwU y.cls → meth.sig.returnType = rt → meth.locks = false → KK D cI cJ s → va_P D vwCl w s.heap → va_D A w → va_S A s.heap s.heap [] → (∀ q : Nat, s.heap.size ≤ q → A q) → lv_has ls mL (lv_args 0 As) →
      W p l e (rmd d) s m As.toArray below meth c s.heap [] 0 0 (ZE below As.toArray s D r w' A) (F0 m 0 ls [])) : WE l y cc mL rt d D cI cJ w As r w' := by
  intro sz
  refine Met.ofW (cc := cc) (maxL := mL) (ret := rt) hy rfl ?_
  intro p e s m args below meth c s₁ B hml hv
  obtain ⟨rfl, hsz, hP, hK, hD⟩ := hv
  subst hsz
  have hts := atoms_spec (ws := .code y cc mL rt :: lwU) B.pre
  rw [lg_entry_eq]
  exact body p e s m below meth c _ _ ⟨B.exec, B.bytes, hml, findClass_of_methodNamed B.named, fun w h => hts w (List.mem_cons_of_mem _ h)⟩ B.returns B.notSynchronized hK hP hD.self va_S.rf (fun q h => Or.inr h) (lv_entry As hlen)
section WEnds
variable {p : Program} {l : Launch} {e : Env} {R : Room} {s : State} {m : MethodId} {args : Array Value} {below : List Frame} {meth : Method} {c : Code} {H : Heap} {locs : List Loc}
  {cc : ByteArray} {nL pc : Nat} {Ts : List Cond} {own : String} {ls : Array Slot} {D : va_G} {A : Nat → Prop} {w' : (Nat → Int32) → va_W}
theorem WE.iret (X : CallFix p m c cc nL s args Ts own) (hr : meth.sig.returnType = some .int) (hk : meth.locks = false) {w0 : va_W} (hP : va_P D vwCl w0 H) (hS : va_S A s.heap H locs) {g : Nat → Int32} (hw : w0 = w' g) {v : Int32} {r : Option Value} (he : r = some (.int v)) (hdg : decode cc pc = .ok (.ireturn, 1)) : W p l e R s m args below meth c H locs 0 0 (ZE below args s D r w' A) (F0 m pc ls [.int v]) := by
  subst he
  subst hw
  exact W.iret X.1 X.2.1 hr (fun t ht _ => ⟨rfl, ⟨g, by rw [ht]; exact hP⟩, hS.F ht⟩) hS.2.2 hdg hk
theorem WE.zret (X : CallFix p m c cc nL s args Ts own) (hr : meth.sig.returnType = some .boolean) (hk : meth.locks = false) {w0 : va_W} (hP : va_P D vwCl w0 H) (hS : va_S A s.heap H locs) {g : Nat → Int32} (hw : w0 = w' g) {v : Int32} {P : Prop} [Decidable P] (he : bI P = v) (hdg : decode cc pc = .ok (.ireturn, 1)) : W p l e R s m args below meth c H locs 0 0 (ZE below args s D (some (.int (bI P))) w' A) (F0 m pc ls [.int v]) := by
  subst he
  subst hw
  exact W.zret X.1 X.2.1 hr (narrow_bI P) (fun t ht _ => ⟨rfl, ⟨g, by rw [ht]; exact hP⟩, hS.F ht⟩) hS.2.2 hdg hk
theorem WE.vret (X : CallFix p m c cc nL s args Ts own) (hr : meth.sig.returnType = none) (hk : meth.locks = false) {w0 : va_W} (hP : va_P D vwCl w0 H) (hS : va_S A s.heap H locs) {g : Nat → Int32} (hw : w0 = w' g) (hdg : decode cc pc = .ok (.return_, 1)) : W p l e R s m args below meth c H locs 0 0 (ZE below args s D none w' A) (F0 m pc ls []) := by
  subst hw
  exact W.vret X.1 X.2.1 hr (fun t ht _ => ⟨rfl, ⟨g, by rw [ht]; exact hP⟩, hS.F ht⟩) hS.2.2 hdg hk
end WEnds
section WCalls
variable {p : Program} {l : Launch} {e : Env} {R : Room} {s : State} {m : MethodId} {args : Array Value} {below : List Frame} {meth : Method} {c : Code} {H H0 : Heap} {locs : List Loc} {cells slots : Nat} {Q : State → Prop}
  {cc cy : ByteArray} {nL pc mL ix n ci d : Nat} {own : String} {y : MethodName} {rt : Option FieldType} {ls : Array Slot} {rest st As : List Value} {D : va_G} {cI cJ : ClassId} {w w0 X Y : va_W} {w' w1 : (Nat → Int32) → va_W} {A : Nat → Prop} {b : Nat} {fs : List Value}
theorem WE.run {r : Option Value} {gf : JFrame} (hr : va_Run p l e R s m args below meth c H locs cells slots 0 0 gf rest (QE D r w' (va_A w H.size) As.toArray) (va_A w H.size)) (hg : gf = F0 m pc ls st) (hP : va_P D vwCl w0 H) (hD : va_D A w0) (hS : va_S A H0 H locs) (hA : ∀ q : Nat, H0.size ≤ q → A q) (h0 : w0 = X ++ (w ++ Y)) (h1 : ∀ g, w1 g = X ++ (w' g ++ Y)) (hfst : ∀ g, (w' g).map Prod.fst = w.map Prod.fst)
    (kk : ∀ (g : Nat → Int32) (H1 : Heap) (locs1 : List Loc), va_P D vwCl (w1 g) H1 → va_D A (w1 g) → va_S A H0 H1 locs1 → W p l e R s m args below meth c H1 locs1 cells slots Q (F0 m (pc + 3) ls (r.toList ++ rest))) : W p l e R s m args below meth c H locs cells slots Q gf := by
  subst hg
  subst h0
  intro T hT XS
  obtain ⟨v, st₀, t, T', L, h0, X', hL, e1, -, ⟨hv, ⟨g, hw⟩, hF⟩, st⟩ := hr T hT XS
  cases hv
  rw [← e1] at hw
  have hk : ∀ q : Nat, q < H.size → ¬ va_A w H.size q → T'.heap[q]? = H[q]? := fun q h1 h2 => by
    rw [e1, ← h0]
    exact hF.2 q (by rw [h0]; exact h1) h2
  have hle : H.size ≤ T'.heap.size := by rw [e1, ← h0]; exact hF.1
  have hfree : ∀ q : Nat, va_A w H.size q → A q := fun q h => by
    rcases h with ⟨k, e9, h⟩ | h
    · exact hD.2 (X.length + k) (q, e9) (get_seg h)
    · exact hA q (Nat.le_trans hS.1 h)
  obtain ⟨hP1, hD1⟩ := va_seg hP hD hk hw (hfst g)
  rw [← h1 g] at hP1 hD1
  obtain ⟨t2, a1, b1⟩ := kk g T'.heap (locs ++ L) hP1 hD1 ⟨Nat.le_trans hS.1 hle, fun q h1 h2 => by
    rw [hk q (Nat.lt_of_lt_of_le h1 hS.1) (fun h => h2 (hfree q h))]
    exact hS.2.1 q h1 h2, fun q h => (List.mem_append.mp h).elim (hS.2.2 q) (fun h => hfree _ (hL q h))⟩ T' rfl X'
  exact ⟨t2, st t2 a1, b1⟩
theorem WE.callV {r : Option Value} (S : CallFix p m c cc nL s args lwU own) (L : LkV own ix y cy mL rt n ci) (hM : WE l y cy mL rt d D cI cJ w (.ref b :: As) r w') (hK : KK D cI cJ s) (hP : va_P D vwCl w0 H) (hD : va_D A w0) (hS : va_S A H0 H locs) (hA : ∀ q : Nat, H0.size ≤ q → A q) (X Y : va_W) (h0 : w0 = X ++ (w ++ Y)) (h1 : ∀ g, w1 g = X ++ (w' g ++ Y)) (hfst : ∀ g, (w' g).map Prod.fst = w.map Prod.fst) (he : w[0]? = some (b, .inr (ci, fs))) (hR : RmOk d mL R) (hs : ls.size = nL) (hn : As.length = n) (hst : st = As.reverse ++ .ref b :: rest) (hrest : (rest.map fun v => v.category).sum ≤ 8) (hc : cells ≤ R.cells) (hc2 : slots ≤ R.slots) (hdg : decode cc pc = .ok (.invokevirtual ix, 3))
    (kk : ∀ (g : Nat → Int32) (H1 : Heap) (locs1 : List Loc), va_P D vwCl (w1 g) H1 → va_D A (w1 g) → va_S A H0 H1 locs1 → W p l e R s m args below meth c H1 locs1 cells slots Q (F0 m (pc + 3) ls (r.toList ++ rest))) : W p l e R s m args below meth c H locs cells slots Q (F0 m pc ls st) := by
  obtain ⟨T, N, hT⟩ := L.2.2
  have hPw : va_P D vwCl w H := by
    subst h0
    exact va_P_l (va_P_r hP)
  have hDw : va_D (fun _ => True) w := by
    subst h0
    refine ⟨fun i j p q hi hj hpq => ?_, fun _ _ _ => trivial⟩
    have := hD.1 (X.length + i) (X.length + j) p q (get_seg hi) (get_seg hj) hpq
    omega
  exact WE.run (va_runV (As := As) (rest := rest) S (hM H.size) (L.cw S.2.2.2.2 hR) ⟨PX.blind, va_recv hK hPw hT he, fun U hU hW => ⟨rfl, by rw [hU], by rw [hU]; exact hPw, va_K.moved hW.alike hK, hDw⟩⟩ rfl hn hs hst (lv_room hrest) hdg ⟨hc, hc2⟩) rfl hP hD hS hA h0 h1 hfst kk
end WCalls
theorem PW3_fst {cI : ClassId} {o1 o2 o3 : Nat → Nat} {f1 f2 f3 g1 g2 g3 : Nat → Int32} : (PW cI o1 f1 ++ (PW cI o2 f2 ++ PW cI o3 f3)).map Prod.fst = (PW cI o1 g1 ++ (PW cI o2 g2 ++ PW cI o3 g3)).map Prod.fst := rfl

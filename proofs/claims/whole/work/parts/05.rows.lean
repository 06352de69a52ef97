/-! contracts of this claim's methods: read-only (RO) and writing (WR), their entries, ends and calls -/
abbrev rmd (d : Nat) : Room := { frames := d, cells := 0, slots := 0, locals := 36 * d }
abbrev KK (D : va_G) (cI cJ : ClassId) (U : State) : Prop := va_K D vwCl [(cI, .int), (cJ, .array .int)] U
def bI (P : Prop) [Decidable P] : Int32 := if P then 1 else 0
def QR (r : Value) : Array Value → State → Outcome → State → Prop := fun _ st o t => o = .returned (some r) ∧ t.heap = st.heap
def QW (D : va_G) (r : Option Value) (w' : va_W) (A : Nat → Prop) : Array Value → State → Outcome → State → Prop := fun _ st o t => o = .returned r ∧ va_P D vwCl w' t.heap ∧ va_F A st t
def PR (D : va_G) (cI cJ : ClassId) (w : va_W) (As : List Value) : Array Value → State → Prop := fun v U => v = As.toArray ∧ va_P D vwCl w U.heap ∧ KK D cI cJ U
def PX (D : va_G) (cI cJ : ClassId) (w : va_W) (As : List Value) (sz : Nat) : Array Value → State → Prop := fun v U => v = As.toArray ∧ U.heap.size = sz ∧ va_P D vwCl w U.heap ∧ KK D cI cJ U ∧ va_D (fun _ => True) w
def RO (l : Launch) (y : MethodName) (cc : ByteArray) (mL : Nat) (rt : Option FieldType) (d : Nat) (D : va_G) (cI cJ : ClassId) (w : va_W) (As : List Value) (r : Value) : Prop :=
  Met l y (.code y cc mL rt :: lwU) (rmd d) (PR D cI cJ w As) (QR r) 0 0 (fun _ => False)
def WR (l : Launch) (y : MethodName) (cc : ByteArray) (mL : Nat) (rt : Option FieldType) (d : Nat) (D : va_G) (cI cJ : ClassId) (w : va_W) (As : List Value) (r : Option Value) (w' : va_W) : Prop :=
  ∀ sz : Nat, Met l y (.code y cc mL rt :: lwU) (rmd d) (PX D cI cJ w As sz) (QW D r w' (va_A w sz)) 0 0 (va_A w sz)
abbrev ZR (below : List Frame) (args : Array Value) (s : State) (r : Value) : State → Prop := MQ below (QR r) args s 0 0 (fun _ => False)
abbrev ZW (below : List Frame) (args : Array Value) (s : State) (D : va_G) (r : Option Value) (w' : va_W) (A : Nat → Prop) : State → Prop := MQ below (QW D r w' A) args s 0 0 A
theorem PR.blind {D : va_G} {cI cJ : ClassId} {w : va_W} {As : List Value} : FrameBlind (PR D cI cJ w As) := fun a U g mk q => ⟨q.1, q.2.1, va_K.moved (u := U) (U := U.calling g mk a) (Vm.Alike.refl U.vm) q.2.2⟩
theorem PX.blind {D : va_G} {cI cJ : ClassId} {w : va_W} {As : List Value} {sz : Nat} : FrameBlind (PX D cI cJ w As sz) := fun a U g mk q => ⟨q.1, q.2.1, q.2.2.1, va_K.moved (u := U) (U := U.calling g mk a) (Vm.Alike.refl U.vm) q.2.2.2.1, q.2.2.2.2⟩
section Entry
variable {l : Launch} {y : MethodName} {cc : ByteArray} {mL : Nat} {rt : Option FieldType} {d : Nat} {D : va_G} {cI cJ : ClassId} {w w' : va_W} {As : List Value}
theorem RO.of {r : Value} (hy : plainName y.cls = true) (hlen : (lg_sl As).length ≤ mL)
    (body : ∀ (p : Program) (e : Env) (s : State) (m : MethodId) (below : List Frame) (meth : Method) (c : Code) (ls : Array Slot), CallFix p m c cc mL s As.toArray lwU y.cls → meth.sig.returnType = rt → meth.locks = false → KK D cI cJ s → va_P D vwCl w s.heap → lv_has ls mL (lv_args 0 As) →
      W p l e (rmd d) s m As.toArray below meth c s.heap [] 0 0 (ZR below As.toArray s r) (F0 m 0 ls [])) : RO l y cc mL rt d D cI cJ w As r := by
  refine Met.ofW (cc := cc) (maxL := mL) (ret := rt) hy rfl ?_
  intro p e s m args below meth c s₁ B hml hv
  obtain ⟨rfl, hP, hK⟩ := hv
  have hts := atoms_spec (ws := .code y cc mL rt :: lwU) B.pre
  rw [lg_entry_eq]
  exact body p e s m below meth c _ ⟨B.exec, B.bytes, hml, findClass_of_methodNamed B.named, fun w h => hts w (List.mem_cons_of_mem _ h)⟩ B.returns B.notSynchronized hK hP (lv_entry As hlen)
theorem WR.of {r : Option Value} (hy : plainName y.cls = true) (hlen : (lg_sl As).length ≤ mL)
    (body : ∀ (p : Program) (e : Env) (s : State) (m : MethodId) (below : List Frame) (meth : Method) (c : Code) (ls : Array Slot) (A : Nat → Prop), CallFix p m c cc mL s As.toArray lwU y.cls → meth.sig.returnType = rt → meth.locks = false → KK D cI cJ s → va_P D vwCl w s.heap → va_D A w → va_S A s.heap s.heap [] → (∀ q : Nat, s.heap.size ≤ q → A q) → lv_has ls mL (lv_args 0 As) →
      W p l e (rmd d) s m As.toArray below meth c s.heap [] 0 0 (ZW below As.toArray s D r w' A) (F0 m 0 ls [])) : WR l y cc mL rt d D cI cJ w As r w' := by
  intro sz
  refine Met.ofW (cc := cc) (maxL := mL) (ret := rt) hy rfl ?_
  intro p e s m args below meth c s₁ B hml hv
  obtain ⟨rfl, hsz, hP, hK, hD⟩ := hv
  subst hsz
  have hts := atoms_spec (ws := .code y cc mL rt :: lwU) B.pre
  rw [lg_entry_eq]
  exact body p e s m below meth c _ _ ⟨B.exec, B.bytes, hml, findClass_of_methodNamed B.named, fun w h => hts w (List.mem_cons_of_mem _ h)⟩ B.returns B.notSynchronized hK hP hD.self va_S.rf (fun q h => Or.inr h) (lv_entry As hlen)
end Entry
section Ends
variable {p : Program} {l : Launch} {e : Env} {R : Room} {s : State} {m : MethodId} {args : Array Value} {below : List Frame} {meth : Method} {c : Code} {H : Heap} {locs : List Loc}
  {cc : ByteArray} {nL pc : Nat} {Ts : List Cond} {own : String} {ls : Array Slot} {D : va_G} {A : Nat → Prop} {w' : va_W}
theorem RO.iret (X : CallFix p m c cc nL s args Ts own) (hr : meth.sig.returnType = some .int) (hk : meth.locks = false) {v : Int32} {r : Value} (he : r = .int v) (hdg : decode cc pc = .ok (.ireturn, 1)) : W p l e R s m args below meth c s.heap [] 0 0 (ZR below args s r) (F0 m pc ls [.int v]) := by
  subst he
  exact W.iret X.1 X.2.1 hr (fun t ht _ => ⟨rfl, ht⟩) (fun q h => by cases h) hdg hk
theorem narrow_bI (P : Prop) [Decidable P] : narrow .boolean (.int (bI P)) = .int (bI P) := by
  unfold bI
  split <;> decide
theorem RO.zret (X : CallFix p m c cc nL s args Ts own) (hr : meth.sig.returnType = some .boolean) (hk : meth.locks = false) {v : Int32} {P : Prop} [Decidable P] (he : bI P = v) (hdg : decode cc pc = .ok (.ireturn, 1)) : W p l e R s m args below meth c s.heap [] 0 0 (ZR below args s (.int (bI P))) (F0 m pc ls [.int v]) := by
  subst he
  exact W.zret X.1 X.2.1 hr (narrow_bI P) (fun t ht _ => ⟨rfl, ht⟩) (fun q h => by cases h) hdg hk
theorem RO.lret (X : CallFix p m c cc nL s args Ts own) (hr : meth.sig.returnType = some .long) (hk : meth.locks = false) {v : Int64} {r : Value} (he : r = .long v) (hdg : decode cc pc = .ok (.lreturn, 1)) : W p l e R s m args below meth c s.heap [] 0 0 (ZR below args s r) (F0 m pc ls [.long v]) := by
  subst he
  exact W.lret X.1 X.2.1 hr (fun t ht _ => ⟨rfl, ht⟩) (fun q h => by cases h) hdg hk
theorem RO.aret {rt : FieldType} (X : CallFix p m c cc nL s args Ts own) (hr : meth.sig.returnType = some rt) (hrt : (∃ n, rt = .object n) ∨ ∃ t, rt = .array t) (hk : meth.locks = false) {v : Nat} {r : Value} (he : r = .ref v) (hdg : decode cc pc = .ok (.areturn, 1)) : W p l e R s m args below meth c s.heap [] 0 0 (ZR below args s r) (F0 m pc ls [.ref v]) := by
  subst he
  exact W.aret X.1 X.2.1 hr hrt (Or.inr ⟨v, rfl⟩) (fun t ht _ => ⟨rfl, ht⟩) (fun q h => by cases h) hdg hk
theorem WR.iret (X : CallFix p m c cc nL s args Ts own) (hr : meth.sig.returnType = some .int) (hk : meth.locks = false) {w0 : va_W} (hP : va_P D vwCl w0 H) (hS : va_S A s.heap H locs) (hw : w0 = w') {v : Int32} {r : Option Value} (he : r = some (.int v)) (hdg : decode cc pc = .ok (.ireturn, 1)) : W p l e R s m args below meth c H locs 0 0 (ZW below args s D r w' A) (F0 m pc ls [.int v]) := by
  subst he
  subst hw
  exact W.iret X.1 X.2.1 hr (fun t ht _ => ⟨rfl, by rw [ht]; exact hP, hS.F ht⟩) hS.2.2 hdg hk
theorem WR.zret (X : CallFix p m c cc nL s args Ts own) (hr : meth.sig.returnType = some .boolean) (hk : meth.locks = false) {w0 : va_W} (hP : va_P D vwCl w0 H) (hS : va_S A s.heap H locs) (hw : w0 = w') {v : Int32} {P : Prop} [Decidable P] (he : bI P = v) (hdg : decode cc pc = .ok (.ireturn, 1)) : W p l e R s m args below meth c H locs 0 0 (ZW below args s D (some (.int (bI P))) w' A) (F0 m pc ls [.int v]) := by
  subst he
  subst hw
  exact W.zret X.1 X.2.1 hr (narrow_bI P) (fun t ht _ => ⟨rfl, by rw [ht]; exact hP, hS.F ht⟩) hS.2.2 hdg hk
theorem WR.lret (X : CallFix p m c cc nL s args Ts own) (hr : meth.sig.returnType = some .long) (hk : meth.locks = false) {w0 : va_W} (hP : va_P D vwCl w0 H) (hS : va_S A s.heap H locs) (hw : w0 = w') {v : Int64} {r : Option Value} (he : r = some (.long v)) (hdg : decode cc pc = .ok (.lreturn, 1)) : W p l e R s m args below meth c H locs 0 0 (ZW below args s D r w' A) (F0 m pc ls [.long v]) := by
  subst he
  subst hw
  exact W.lret X.1 X.2.1 hr (fun t ht _ => ⟨rfl, by rw [ht]; exact hP, hS.F ht⟩) hS.2.2 hdg hk
theorem WR.vret (X : CallFix p m c cc nL s args Ts own) (hr : meth.sig.returnType = none) (hk : meth.locks = false) {w0 : va_W} (hP : va_P D vwCl w0 H) (hS : va_S A s.heap H locs) (hw : w0 = w') (hdg : decode cc pc = .ok (.return_, 1)) : W p l e R s m args below meth c H locs 0 0 (ZW below args s D none w' A) (F0 m pc ls []) := by
  subst hw
  exact W.vret X.1 X.2.1 hr (fun t ht _ => ⟨rfl, by rw [ht]; exact hP, hS.F ht⟩) hS.2.2 hdg hk
end Ends
/-! what a call site needs of the tables -/
def LkV (own : String) (ix : Nat) (y : MethodName) (cc : ByteArray) (mL : Nat) (rt : Option FieldType) (n ci : Nat) : Prop :=
  (Cond.methodLink own ix y ∈ lwU ∧ Cond.instanceMethod y ∈ lwU ∧ Cond.selects y.cls y y ∈ lwU ∧ Cond.initialized y.cls ∈ lwU ∧ Cond.code y cc mL rt ∈ lwU) ∧ (y.cls ≠ "java/lang/invoke/MethodHandle" ∧ y.cls ≠ "java/lang/invoke/VarHandle" ∧ (parseMethodDescriptor y.desc).map (fun d => d.parameters.length) = some n) ∧ ∃ T N, vwCl[ci]? = some (y.cls, T, N)
def LkS (own : String) (ix : Nat) (y : MethodName) (cc : ByteArray) (mL : Nat) (rt : Option FieldType) (n : Nat) : Prop :=
  (Cond.methodLink own ix y ∈ lwU ∧ Cond.static y ∈ lwU ∧ Cond.initialized y.cls ∈ lwU ∧ Cond.code y cc mL rt ∈ lwU) ∧ (y.cls ≠ "java/lang/invoke/MethodHandle" ∧ y.cls ≠ "java/lang/invoke/VarHandle" ∧ (parseMethodDescriptor y.desc).map (fun d => d.parameters.length) = some n)
def RmOk (d mL : Nat) (R : Room) : Prop := d + 1 ≤ R.frames ∧ 8 + (mL + 11) + 36 * d ≤ R.locals
theorem lwU_goodIn {y : MethodName} {cc : ByteArray} {mL : Nat} {rt : Option FieldType} (h : Cond.code y cc mL rt ∈ lwU) : GoodIn lwU (.code y cc mL rt :: lwU) := fun w hw => by
  rcases List.mem_cons.mp hw with rfl | hw
  · exact ⟨h, lwU_good h⟩
  · exact ⟨hw, lwU_good hw⟩
theorem LkV.cw {own : String} {ix mL n ci d : Nat} {y : MethodName} {cc : ByteArray} {rt : Option FieldType} {R : Room} {s : State} {args : Array Value} (L : LkV own ix y cc mL rt n ci) (ht : ∀ w ∈ lwU, w.before args s = true) (hR : RmOk d mL R) : CallW R s args own y.cls ix y cc mL rt (.code y cc mL rt :: lwU) (rmd d) 0 0 n := by
  obtain ⟨⟨h1, h2, h3, h4, h5⟩, hd, -⟩ := L
  exact ⟨callB_of n ht (lwU_goodIn h5) rfl rfl rfl (ht _ h4) (ht _ h1) hd hR, ht _ h2, ht _ h3⟩
theorem LkS.cw {own : String} {ix mL n d : Nat} {y : MethodName} {cc : ByteArray} {rt : Option FieldType} {R : Room} {s : State} {args : Array Value} (L : LkS own ix y cc mL rt n) (ht : ∀ w ∈ lwU, w.before args s = true) (hR : RmOk d mL R) : CallB R s args own ix y cc mL rt (.code y cc mL rt :: lwU) (rmd d) 0 0 n ∧ (Cond.static y).before args s = true := by
  obtain ⟨⟨h1, h2, h4, h5⟩, hd⟩ := L
  exact ⟨callB_of n ht (lwU_goodIn h5) rfl rfl rfl (ht _ h4) (ht _ h1) hd hR, ht _ h2⟩
theorem va_D_fst {A : Nat → Prop} {ws ws' : va_W} (h : va_D A ws) (e : ws'.map Prod.fst = ws.map Prod.fst) : va_D A ws' := by
  have key : ∀ (k : Nat) (q : Nat × va_E), ws'[k]? = some q → ∃ q' : Nat × va_E, ws[k]? = some q' ∧ q'.1 = q.1 := fun k q hq => by
    have h1 : (ws'.map Prod.fst)[k]? = some q.1 := by rw [List.getElem?_map, hq]; rfl
    rw [e, List.getElem?_map] at h1
    cases h2 : ws[k]? with
    | none => rw [h2] at h1; cases h1
    | some q' => rw [h2] at h1; exact ⟨q', rfl, Option.some.inj h1⟩
  refine ⟨fun i j p q hi hj hpq => ?_, fun k q hk => ?_⟩
  · obtain ⟨p', hp', ep⟩ := key i p hi
    obtain ⟨q', hq', eq⟩ := key j q hj
    exact h.1 i j p' q' hp' hq' (by rw [ep, eq, hpq])
  · obtain ⟨q', hq', eq⟩ := key k q hk
    rw [← eq]
    exact h.2 k q' hq'
/-- behind a call on a segment of the world -/
theorem va_seg {D : va_G} {A : Nat → Prop} {X w w' Y : va_W} {H H1 : Heap} (hP : va_P D vwCl (X ++ (w ++ Y)) H) (hD : va_D A (X ++ (w ++ Y))) (hk : ∀ q : Nat, q < H.size → ¬ va_A w H.size q → H1[q]? = H[q]?) (hw : va_P D vwCl w' H1) (e : w'.map Prod.fst = w.map Prod.fst) : va_P D vwCl (X ++ (w' ++ Y)) H1 ∧ va_D A (X ++ (w' ++ Y)) := by
  have hlen : w'.length = w.length := by have := congrArg List.length e; simpa using this
  refine ⟨fun k q hq => ?_, va_D_fst hD (by simp [e])⟩
  have out : ∀ k0 : Nat, (X ++ (w ++ Y))[k0]? = some q → (k0 < X.length ∨ X.length + w.length ≤ k0) → va_at D vwCl q H1 := fun k0 h0 hor => by
    have h1 := hP k0 q h0
    refine h1.kept (hk q.1 h1.lt ?_)
    rintro (⟨k1, e1, h2⟩ | h2)
    · have hk1 : k1 < w.length := (List.getElem?_eq_some_iff.mp h2).1
      have h3 : (X ++ (w ++ Y))[X.length + k1]? = some (q.1, e1) := by
        rw [List.getElem?_append_right (by omega), List.getElem?_append_left (by omega)]
        rw [show X.length + k1 - X.length = k1 by omega]
        exact h2
      have := hD.1 k0 (X.length + k1) q (q.1, e1) h0 h3 rfl
      omega
    · have := h1.lt
      omega
  by_cases c1 : k < X.length
  · refine out k ?_ (Or.inl c1)
    rw [List.getElem?_append_left c1] at hq ⊢
    exact hq
  · rw [List.getElem?_append_right (by omega)] at hq
    by_cases c2 : k - X.length < w'.length
    · rw [List.getElem?_append_left c2] at hq
      exact hw _ q hq
    · rw [List.getElem?_append_right (by omega)] at hq
      refine out k ?_ (Or.inr (by omega))
      rw [List.getElem?_append_right (by omega), List.getElem?_append_right (by omega), ← hlen]
      exact hq
section Calls
variable {p : Program} {l : Launch} {e : Env} {R : Room} {s : State} {m : MethodId} {args : Array Value} {below : List Frame} {meth : Method} {c : Code} {H H0 : Heap} {locs : List Loc} {cells slots : Nat} {Q : State → Prop}
  {cc cy : ByteArray} {nL pc mL ix n ci d : Nat} {own : String} {y : MethodName} {rt : Option FieldType} {ls : Array Slot} {rest st As : List Value} {D : va_G} {cI cJ : ClassId} {w w' X Y w0 w1 : va_W} {A : Nat → Prop} {b : Nat} {fs : List Value}
theorem RO.run {r : Value} {g : JFrame} (hr : va_Run p l e R s m args below meth c H locs cells slots 0 0 g rest (QR r As.toArray) (fun _ => False)) (hg : g = F0 m pc ls st)
    (kk : W p l e R s m args below meth c H locs cells slots Q (F0 m (pc + 3) ls (r :: rest))) : W p l e R s m args below meth c H locs cells slots Q g := by
  subst hg
  intro T hT XS
  obtain ⟨v, st₀, t, T', L, h0, X', hL, e1, -, ⟨hv, hh⟩, st⟩ := hr T hT XS
  cases hv
  obtain ⟨t2, a1, b1⟩ := kk T' (by rw [e1, hh, h0]) (Stand.forget X' (fun q h => (hL q h).elim))
  exact ⟨t2, st t2 a1, b1⟩
/-- a call of a read-only instance method -/
theorem RO.callV {r : Value} (S : CallFix p m c cc nL s args lwU own) (L : LkV own ix y cy mL rt n ci) (hM : RO l y cy mL rt d D cI cJ w (.ref b :: As) r) (hK : KK D cI cJ s) (hP : va_P D vwCl w H) (he : w[0]? = some (b, .inr (ci, fs))) (hR : RmOk d mL R) (hs : ls.size = nL) (hn : As.length = n) (hst : st = As.reverse ++ .ref b :: rest) (hrest : (rest.map fun v => v.category).sum ≤ 8) (hc : cells ≤ R.cells) (hc2 : slots ≤ R.slots) (hdg : decode cc pc = .ok (.invokevirtual ix, 3))
    (kk : W p l e R s m args below meth c H locs cells slots Q (F0 m (pc + 3) ls (r :: rest))) : W p l e R s m args below meth c H locs cells slots Q (F0 m pc ls st) := by
  obtain ⟨T, N, hT⟩ := L.2.2
  exact RO.run (va_runV (As := As) (rest := rest) S hM (L.cw S.2.2.2.2 hR) ⟨PR.blind, va_recv hK hP hT he, fun U hU hW => ⟨rfl, by rw [hU]; exact hP, va_K.moved hW.alike hK⟩⟩ rfl hn hs hst (lv_room hrest) hdg ⟨hc, hc2⟩) rfl kk
theorem RO.callS {r : Value} (S : CallFix p m c cc nL s args lwU own) (L : LkS own ix y cy mL rt n) (hM : RO l y cy mL rt d D cI cJ w As r) (hK : KK D cI cJ s) (hP : va_P D vwCl w H) (hR : RmOk d mL R) (hs : ls.size = nL) (hn : As.length = n) (hst : st = As.reverse ++ rest) (hrest : (rest.map fun v => v.category).sum ≤ 8) (hc : cells ≤ R.cells) (hc2 : slots ≤ R.slots) (hdg : decode cc pc = .ok (.invokestatic ix, 3))
    (kk : W p l e R s m args below meth c H locs cells slots Q (F0 m (pc + 3) ls (r :: rest))) : W p l e R s m args below meth c H locs cells slots Q (F0 m pc ls st) := by
  exact RO.run (va_runS (As := As) (rest := rest) S hM (L.cw S.2.2.2.2 hR) ⟨PR.blind, fun U hU hW => ⟨rfl, by rw [hU]; exact hP, va_K.moved hW.alike hK⟩⟩ rfl hn hs hst (lv_room hrest) hdg ⟨hc, hc2⟩) rfl kk
theorem WR.run {r : Option Value} {g : JFrame} (hr : va_Run p l e R s m args below meth c H locs cells slots 0 0 g rest (QW D r w' (va_A w H.size) As.toArray) (va_A w H.size)) (hg : g = F0 m pc ls st) (hP : va_P D vwCl w0 H) (hD : va_D A w0) (hS : va_S A H0 H locs) (hA : ∀ q : Nat, H0.size ≤ q → A q) (h0 : w0 = X ++ (w ++ Y)) (h1 : w1 = X ++ (w' ++ Y)) (hfst : w'.map Prod.fst = w.map Prod.fst)
    (kk : ∀ (H1 : Heap) (locs1 : List Loc), va_P D vwCl w1 H1 → va_D A w1 → va_S A H0 H1 locs1 → W p l e R s m args below meth c H1 locs1 cells slots Q (F0 m (pc + 3) ls (r.toList ++ rest))) : W p l e R s m args below meth c H locs cells slots Q g := by
  subst hg
  subst h0
  subst h1
  intro T hT XS
  obtain ⟨v, st₀, t, T', L, h0, X', hL, e1, -, ⟨hv, hw, hF⟩, st⟩ := hr T hT XS
  cases hv
  rw [← e1] at hw
  have hk : ∀ q : Nat, q < H.size → ¬ va_A w H.size q → T'.heap[q]? = H[q]? := fun q h1 h2 => by
    rw [e1, ← h0]
    exact hF.2 q (by rw [h0]; exact h1) h2
  have hle : H.size ≤ T'.heap.size := by rw [e1, ← h0]; exact hF.1
  have hfree : ∀ q : Nat, va_A w H.size q → A q := fun q h => by
    rcases h with ⟨k, e9, h⟩ | h
    · have hk1 : k < w.length := (List.getElem?_eq_some_iff.mp h).1
      refine hD.2 (X.length + k) (q, e9) ?_
      rw [List.getElem?_append_right (by omega), List.getElem?_append_left (by omega), show X.length + k - X.length = k by omega]
      exact h
    · exact hA q (Nat.le_trans hS.1 h)
  obtain ⟨hP1, hD1⟩ := va_seg hP hD hk hw hfst
  obtain ⟨t2, a1, b1⟩ := kk T'.heap (locs ++ L) hP1 hD1 ⟨Nat.le_trans hS.1 hle, fun q h1 h2 => by
    rw [hk q (Nat.lt_of_lt_of_le h1 hS.1) (fun h => h2 (hfree q h))]
    exact hS.2.1 q h1 h2, fun q h => (List.mem_append.mp h).elim (hS.2.2 q) (fun h => hfree _ (hL q h))⟩ T' rfl X'
  exact ⟨t2, st t2 a1, b1⟩
theorem WR.callV {r : Option Value} (S : CallFix p m c cc nL s args lwU own) (L : LkV own ix y cy mL rt n ci) (hM : WR l y cy mL rt d D cI cJ w (.ref b :: As) r w') (hK : KK D cI cJ s) (hP : va_P D vwCl w0 H) (hD : va_D A w0) (hS : va_S A H0 H locs) (hA : ∀ q : Nat, H0.size ≤ q → A q) (X Y : va_W) (h0 : w0 = X ++ (w ++ Y)) (h1 : w1 = X ++ (w' ++ Y)) (hfst : w'.map Prod.fst = w.map Prod.fst) (he : w[0]? = some (b, .inr (ci, fs))) (hR : RmOk d mL R) (hs : ls.size = nL) (hn : As.length = n) (hst : st = As.reverse ++ .ref b :: rest) (hrest : (rest.map fun v => v.category).sum ≤ 8) (hc : cells ≤ R.cells) (hc2 : slots ≤ R.slots) (hdg : decode cc pc = .ok (.invokevirtual ix, 3))
    (kk : ∀ (H1 : Heap) (locs1 : List Loc), va_P D vwCl w1 H1 → va_D A w1 → va_S A H0 H1 locs1 → W p l e R s m args below meth c H1 locs1 cells slots Q (F0 m (pc + 3) ls (r.toList ++ rest))) : W p l e R s m args below meth c H locs cells slots Q (F0 m pc ls st) := by
  obtain ⟨T, N, hT⟩ := L.2.2
  have hPw : va_P D vwCl w H := by
    subst h0
    intro k q hq
    have hk1 : k < w.length := (List.getElem?_eq_some_iff.mp hq).1
    refine hP (X.length + k) q ?_
    rw [List.getElem?_append_right (by omega), List.getElem?_append_left (by omega), show X.length + k - X.length = k by omega]
    exact hq
  have hDw : va_D (fun _ => True) w := by
    subst h0
    refine ⟨fun i j p q hi hj hpq => ?_, fun _ _ _ => trivial⟩
    have hk1 : i < w.length := (List.getElem?_eq_some_iff.mp hi).1
    have hk2 : j < w.length := (List.getElem?_eq_some_iff.mp hj).1
    have := hD.1 (X.length + i) (X.length + j) p q (by rw [List.getElem?_append_right (by omega), List.getElem?_append_left (by omega), show X.length + i - X.length = i by omega]; exact hi) (by rw [List.getElem?_append_right (by omega), List.getElem?_append_left (by omega), show X.length + j - X.length = j by omega]; exact hj) hpq
    omega
  exact WR.run (va_runV (As := As) (rest := rest) S (hM H.size) (L.cw S.2.2.2.2 hR) ⟨PX.blind, va_recv hK hPw hT he, fun U hU hW => ⟨rfl, by rw [hU], by rw [hU]; exact hPw, va_K.moved hW.alike hK, hDw⟩⟩ rfl hn hs hst (lv_room hrest) hdg ⟨hc, hc2⟩) rfl hP hD hS hA h0 h1 hfst kk
theorem WR.callS {r : Option Value} (S : CallFix p m c cc nL s args lwU own) (L : LkS own ix y cy mL rt n) (hM : WR l y cy mL rt d D cI cJ w As r w') (hK : KK D cI cJ s) (hP : va_P D vwCl w0 H) (hD : va_D A w0) (hS : va_S A H0 H locs) (hA : ∀ q : Nat, H0.size ≤ q → A q) (X Y : va_W) (h0 : w0 = X ++ (w ++ Y)) (h1 : w1 = X ++ (w' ++ Y)) (hfst : w'.map Prod.fst = w.map Prod.fst) (hR : RmOk d mL R) (hs : ls.size = nL) (hn : As.length = n) (hst : st = As.reverse ++ rest) (hrest : (rest.map fun v => v.category).sum ≤ 8) (hc : cells ≤ R.cells) (hc2 : slots ≤ R.slots) (hdg : decode cc pc = .ok (.invokestatic ix, 3))
    (kk : ∀ (H1 : Heap) (locs1 : List Loc), va_P D vwCl w1 H1 → va_D A w1 → va_S A H0 H1 locs1 → W p l e R s m args below meth c H1 locs1 cells slots Q (F0 m (pc + 3) ls (r.toList ++ rest))) : W p l e R s m args below meth c H locs cells slots Q (F0 m pc ls st) := by
  have hPw : va_P D vwCl w H := by
    subst h0
    intro k q hq
    have hk1 : k < w.length := (List.getElem?_eq_some_iff.mp hq).1
    refine hP (X.length + k) q ?_
    rw [List.getElem?_append_right (by omega), List.getElem?_append_left (by omega), show X.length + k - X.length = k by omega]
    exact hq
  have hDw : va_D (fun _ => True) w := by
    subst h0
    refine ⟨fun i j p q hi hj hpq => ?_, fun _ _ _ => trivial⟩
    have hk1 : i < w.length := (List.getElem?_eq_some_iff.mp hi).1
    have hk2 : j < w.length := (List.getElem?_eq_some_iff.mp hj).1
    have := hD.1 (X.length + i) (X.length + j) p q (by rw [List.getElem?_append_right (by omega), List.getElem?_append_left (by omega), show X.length + i - X.length = i by omega]; exact hi) (by rw [List.getElem?_append_right (by omega), List.getElem?_append_left (by omega), show X.length + j - X.length = j by omega]; exact hj) hpq
    omega
  exact WR.run (va_runS (As := As) (rest := rest) S (hM H.size) (L.cw S.2.2.2.2 hR) ⟨PX.blind, fun U hU hW => ⟨rfl, by rw [hU], by rw [hU]; exact hPw, va_K.moved hW.alike hK, hDw⟩⟩ rfl hn hs hst (lv_room hrest) hdg ⟨hc, hc2⟩) rfl hP hD hS hA h0 h1 hfst kk
end Calls

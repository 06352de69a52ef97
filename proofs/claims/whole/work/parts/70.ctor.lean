/-! constructors: contracts, entry, end, calls -/
def n28 : Cond := .methodLinkNest RX3 28 yX2_init "ThunderCasks"
def n35 : Cond := .methodLinkNest RX3 35 yX1_init "ThunderCasks"
def EC (U : State) : Prop := va_Nw n28 U ∧ va_Nw n35 U ∧ va_AOA .int U
theorem va_AOA.alike {t : FieldType} {u U : State} (hvm : u.vm.Alike U.vm) (h : va_AOA t u) : va_AOA t U := Jvm.Stand.arrayOver_alikeB hvm h
theorem EC.warm {u U : State} (hW : u.WarmedH U.vm) (h : EC u) : EC U := ⟨va_Nw.warmM hW h.1, va_Nw.warmM hW h.2.1, h.2.2.alike hW.alike⟩
theorem EC.same {u U : State} (hv : U.vm = u.vm) (h : EC u) : EC U := ⟨va_Nw.same rfl hv.symm h.1, va_Nw.same rfl hv.symm h.2.1, h.2.2.alike (by rw [hv]; exact Vm.Alike.refl _)⟩
abbrev rmC (d mc ms : Nat) : Room := { frames := d, cells := mc, slots := ms, locals := 36 * d }
def QC (D : va_G) (Rf : (Nat → Nat) → va_W) (b : Nat) (A : Nat → Prop) : Array Value → State → Outcome → State → Prop := fun _ st o t => o = .returned none ∧ (∃ q : Nat → Nat, q 0 = b ∧ va_P D vwCl (Rf q) t.heap ∧ va_D A (Rf q)) ∧ va_F A st t
def CT (l : Launch) (y : MethodName) (cc : ByteArray) (mL d mc ms : Nat) (D : va_G) (cI cJ : ClassId) (ci : Nat) (fs : List Value) (b : Nat) (Rf : (Nat → Nat) → va_W) : Prop :=
  ∀ sz : Nat, Met l y (.code y cc mL none :: lwU) (rmC d mc ms) (fun v U => PX D cI cJ [(b, .inr (ci, fs))] [.ref b] sz v U ∧ EC U) (QC D Rf b (va_A [(b, .inr (ci, fs))] sz)) mc ms (va_A [(b, .inr (ci, fs))] sz)
theorem CT.blind {D : va_G} {cI cJ : ClassId} {w : va_W} {As : List Value} {sz : Nat} : FrameBlind (fun v U => PX D cI cJ w As sz v U ∧ EC U) := fun a U g mk q => ⟨PX.blind a U g mk q.1, EC.same (u := U) (U := U.calling g mk a) rfl q.2⟩
theorem CT.of {l : Launch} {y : MethodName} {cc : ByteArray} {mL d mc ms : Nat} {D : va_G} {cI cJ : ClassId} {ci : Nat} {fs : List Value} {b : Nat} {Rf : (Nat → Nat) → va_W} (hy : plainName y.cls = true) (hyn : y.name = "<init>") (hlen : (lg_sl [Value.ref b]).length ≤ mL)
    (body : ∀ (p : Program) (e : Env) (s : State) (m : MethodId) (below : List Frame) (meth : Method) (c : Code) (ls : Array Slot) (A : Nat → Prop), CallFix p m c cc mL s ([Value.ref b] : List Value).toArray lwU y.cls → meth.sig.returnType = none → meth.locks = false → meth.name = "<init>" → KK D cI cJ s → EC s → va_P D vwCl [(b, .inr (ci, fs))] s.heap → va_D A [(b, .inr (ci, fs))] → va_S A s.heap s.heap [] → (∀ q : Nat, s.heap.size ≤ q → A q) → lv_has ls mL (lv_args 0 [.ref b]) →
      W p l e (rmC d mc ms) s m ([Value.ref b] : List Value).toArray below meth c s.heap [] 0 0 (MQ below (QC D Rf b A) ([Value.ref b] : List Value).toArray s mc ms A) (F0 m 0 ls [])) : CT l y cc mL d mc ms D cI cJ ci fs b Rf := by
  intro sz
  refine Met.ofW (cc := cc) (maxL := mL) (ret := none) hy rfl ?_
  intro p e s m args below meth c s₁ B hml hv
  obtain ⟨⟨rfl, hsz, hP, hK, hD⟩, hE⟩ := hv
  subst hsz
  have hts := atoms_spec (ws := .code y cc mL none :: lwU) B.pre
  rw [lg_entry_eq]
  exact body p e s m below meth c _ _ ⟨B.exec, B.bytes, hml, findClass_of_methodNamed B.named, fun w h => hts w (List.mem_cons_of_mem _ h)⟩ B.returns B.notSynchronized ((name_of_methodNamed B.named B.method).1.trans hyn) hK hE hP hD.self va_S.rf (fun q h => Or.inr h) (lv_entry [.ref b] hlen)
/-- what a constructor made stands beside what was there -/
theorem ct_join {D : va_G} {A : Nat → Prop} {X w R : va_W} {H H1 : Heap} (hP : va_P D vwCl (X ++ w) H) (hD : va_D A (X ++ w)) (hk : ∀ q : Nat, q < H.size → ¬ va_A w H.size q → H1[q]? = H[q]?) (hR : va_P D vwCl R H1) (hDR : va_D (va_A w H.size) R) (hA : ∀ q, va_A w H.size q → A q) : va_P D vwCl (X ++ R) H1 ∧ va_D A (X ++ R) := by
  have hX : ∀ (k : Nat) (q : Nat × va_E), X[k]? = some q → q.1 < H.size ∧ ¬ va_A w H.size q.1 := fun k q hq => by
    have hkl : k < X.length := (List.getElem?_eq_some_iff.mp hq).1
    have h1 : (X ++ w)[k]? = some q := by rw [List.getElem?_append_left hkl]; exact hq
    have hlt := (hP k q h1).lt
    refine ⟨hlt, ?_⟩
    rintro (⟨j, e, hj⟩ | h)
    · have h2 : (X ++ w)[X.length + j]? = some (q.1, e) := by
        rw [List.getElem?_append_right (by omega), show X.length + j - X.length = j by omega]
        exact hj
      have := hD.1 k (X.length + j) q (q.1, e) h1 h2 rfl
      omega
    · omega
  refine ⟨fun k q hq => ?_, fun i j p q hi hj hpq => ?_, fun k q hq => ?_⟩
  · by_cases hkl : k < X.length
    · rw [List.getElem?_append_left hkl] at hq
      have h1 : (X ++ w)[k]? = some q := by rw [List.getElem?_append_left hkl]; exact hq
      exact (hP k q h1).kept (hk q.1 (hX k q hq).1 (hX k q hq).2)
    · rw [List.getElem?_append_right (by omega)] at hq
      exact hR _ q hq
  · by_cases h1 : i < X.length <;> by_cases h2 : j < X.length
    · rw [List.getElem?_append_left h1] at hi
      rw [List.getElem?_append_left h2] at hj
      exact hD.1 i j p q (by rw [List.getElem?_append_left h1]; exact hi) (by rw [List.getElem?_append_left h2]; exact hj) hpq
    · rw [List.getElem?_append_left h1] at hi
      rw [List.getElem?_append_right (by omega)] at hj
      exact absurd (hpq ▸ hDR.2 _ q hj) (hX i p hi).2
    · rw [List.getElem?_append_right (by omega)] at hi
      rw [List.getElem?_append_left h2] at hj
      exact absurd (hpq ▸ hDR.2 _ p hi) (hX j q hj).2
    · rw [List.getElem?_append_right (by omega)] at hi hj
      have := hDR.1 _ _ p q hi hj hpq
      omega
  · by_cases hkl : k < X.length
    · rw [List.getElem?_append_left hkl] at hq
      exact hD.2 k q (by rw [List.getElem?_append_left hkl]; exact hq)
    · rw [List.getElem?_append_right (by omega)] at hq
      exact hA _ (hDR.2 _ q hq)
section CtRows
variable {p : Program} {l : Launch} {e : Env} {R : Room} {s : State} {m : MethodId} {args : Array Value} {below : List Frame} {meth : Method} {c : Code} {H H0 : Heap} {locs : List Loc} {cells slots : Nat} {Q : State → Prop} {cc cy : ByteArray} {pc nL mL ix d mc ms ci b : Nat} {own : String} {y : MethodName} {ls : Array Slot} {rest st : List Value} {D : va_G} {cI cJ : ClassId} {A : Nat → Prop} {ws X : va_W} {fs : List Value} {Rf : (Nat → Nat) → va_W}
theorem ct_newI {N : Nat} (S : CallFix p m c cc nL s args lwU own) (hK : KK D cI cJ s) (hP : va_P D vwCl ws H) (hD : va_D A ws) (hS : va_S A H0 H locs) (hA : ∀ q : Nat, H0.size ≤ q → A q) (hN : N ≤ 160) (hcells : cells + 1 ≤ R.cells) (hslots : slots + N ≤ R.slots) (hdg : decode cc pc = .ok (.newarray .int, 2))
    (k : ∀ (q : Nat) (H1 : Heap), va_P D vwCl (ws ++ [(q, .inl (cI, N, .inl (fun _ => nI 0)))]) H1 → va_D A (ws ++ [(q, .inl (cI, N, .inl (fun _ => nI 0)))]) → va_S A H0 H1 locs → W p l e R s m args below meth c H1 locs (cells + 1) (slots + N) Q (F0 m (pc + 2) ls (.ref q :: rest))) : W p l e R s m args below meth c H locs cells slots Q (F0 m pc ls (.int (nI N) :: rest)) := by
  refine va_newa (atype := .int) (ty := .int) (N' := N) (a0 := (N, .inl (fun _ => nI 0))) S.1 S.2.1 (S.2.2.2.2 _ mA_int) rfl hK hP hD hS hA (fun cA => rfl) (nI_pos (by omega)) (nI_clamp (by omega)) (by show N * 4 ≤ 536870912; omega) hcells hslots hdg (fun q cA H1 hK1 hP1 hD1 hS1 => ?_)
  have e1 : va_RA s cA .int := (hK1.2 2 (cA, .int) rfl).2
  have e2 : va_RA s cI .int := (hK.2 0 (cI, .int) rfl).2
  have e3 : cA = cI := Option.some.inj (e1.symm.trans e2)
  subst e3
  exact k q H1 hP1 hD1 hS1
theorem CT.run {g : JFrame} {w0 : va_W} (hr : va_Run p l e R s m args below meth c H locs cells slots mc ms g rest (QC D Rf b (va_A [(b, .inr (ci, fs))] H.size) ([Value.ref b] : List Value).toArray) (va_A [(b, .inr (ci, fs))] H.size)) (hg : g = F0 m pc ls st) (hP : va_P D vwCl w0 H) (hD : va_D A w0) (hS : va_S A H0 H locs) (hA : ∀ q : Nat, H0.size ≤ q → A q) (h0 : w0 = X ++ [(b, .inr (ci, fs))])
    (k9 : ∀ (q : Nat → Nat) (H1 : Heap) (locs1 : List Loc), q 0 = b → va_P D vwCl (X ++ Rf q) H1 → va_D A (X ++ Rf q) → va_S A H0 H1 locs1 → W p l e R s m args below meth c H1 locs1 (cells + mc) (slots + ms) Q (F0 m (pc + 3) ls rest)) : W p l e R s m args below meth c H locs cells slots Q g := by
  subst hg
  subst h0
  intro T hT XS
  obtain ⟨v, st₀, t, T', L, h0, X', hL, e1, -, ⟨hv, ⟨q, hq, hw, hDq⟩, hF⟩, st9⟩ := hr T hT XS
  cases hv
  rw [← e1] at hw
  have hk : ∀ q : Nat, q < H.size → ¬ va_A [(b, .inr (ci, fs))] H.size q → T'.heap[q]? = H[q]? := fun q h1 h2 => by
    rw [e1, ← h0]
    exact hF.2 q (by rw [h0]; exact h1) h2
  have hle : H.size ≤ T'.heap.size := by rw [e1, ← h0]; exact hF.1
  have hfree : ∀ q : Nat, va_A [(b, .inr (ci, fs))] H.size q → A q := fun q h => by
    rcases h with ⟨k, e9, h⟩ | h
    · refine hD.2 (X.length + k) (q, e9) ?_
      rw [List.getElem?_append_right (by omega), show X.length + k - X.length = k by omega]
      exact h
    · exact hA q (Nat.le_trans hS.1 h)
  obtain ⟨hP1, hD1⟩ := ct_join hP hD hk hw hDq hfree
  obtain ⟨t2, a1, b1⟩ := k9 q T'.heap (locs ++ L) hq hP1 hD1 ⟨Nat.le_trans hS.1 hle, fun q h1 h2 => by
    rw [hk q (Nat.lt_of_lt_of_le h1 hS.1) (fun h => h2 (hfree q h))]
    exact hS.2.1 q h1 h2, fun q h => (List.mem_append.mp h).elim (hS.2.2 q) (fun h => hfree _ (hL q h))⟩ T' rfl X'
  exact ⟨t2, st9 t2 a1, b1⟩
theorem ct_pre {w0 : va_W} (hK : KK D cI cJ s) (hE : EC s) (hP : va_P D vwCl w0 H) (hD : va_D A w0) (h0 : w0 = X ++ [(b, .inr (ci, fs))]) : PreS s H (fun v U => PX D cI cJ [(b, .inr (ci, fs))] [.ref b] H.size v U ∧ EC U) [.ref b] := by
  subst h0
  have hPw : va_P D vwCl [(b, .inr (ci, fs))] H := va_P_r hP
  have hDw : va_D (fun _ => True) [((b, .inr (ci, fs)) : Nat × va_E)] := ⟨fun i j p q hi hj _ => by
    have h1 : i < 1 := (List.getElem?_eq_some_iff.mp hi).1
    have h2 : j < 1 := (List.getElem?_eq_some_iff.mp hj).1
    omega, fun _ _ _ => trivial⟩
  exact ⟨CT.blind, fun U hU hW => ⟨⟨rfl, by rw [hU], by rw [hU]; exact hPw, va_K.moved hW.alike hK, hDw⟩, hE.warm hW⟩⟩
theorem CT.callI {w0 : va_W} (S : CallFix p m c cc nL s args lwU own) (hlk : Cond.methodLink own ix y ∈ lwU ∧ Cond.initialized y.cls ∈ lwU ∧ Cond.instanceMethod y ∈ lwU ∧ Cond.code y cy mL none ∈ lwU) (hy : y.name = "<init>") (hd : y.cls ≠ "java/lang/invoke/MethodHandle" ∧ y.cls ≠ "java/lang/invoke/VarHandle" ∧ (parseMethodDescriptor y.desc).map (fun d => d.parameters.length) = some 0) (hM : CT l y cy mL d mc ms D cI cJ ci fs b Rf) (hK : KK D cI cJ s) (hE : EC s) (hP : va_P D vwCl w0 H) (hD : va_D A w0) (hS : va_S A H0 H locs) (hA : ∀ q : Nat, H0.size ≤ q → A q) (X : va_W) (h0 : w0 = X ++ [(b, .inr (ci, fs))]) (hR : RmOk d mL R) (hs : ls.size = nL) (hrest : (rest.map fun v => v.category).sum ≤ 8) (hc : cells + mc ≤ R.cells) (hc2 : slots + ms ≤ R.slots) (hdg : decode cc pc = .ok (.invokespecial ix, 3))
    (k9 : ∀ (q : Nat → Nat) (H1 : Heap) (locs1 : List Loc), q 0 = b → va_P D vwCl (X ++ Rf q) H1 → va_D A (X ++ Rf q) → va_S A H0 H1 locs1 → W p l e R s m args below meth c H1 locs1 (cells + mc) (slots + ms) Q (F0 m (pc + 3) ls rest)) : W p l e R s m args below meth c H locs cells slots Q (F0 m pc ls (.ref b :: rest)) :=
  CT.run (va_runI (As := []) (rest := rest) S (hM H.size) (cwI 0 S.2.2.2.2 (lwU_goodIn hlk.2.2.2) rfl rfl rfl (S.2.2.2.2 _ hlk.2.1) (S.2.2.2.2 _ hlk.1) (S.2.2.2.2 _ hlk.2.2.1) hy hd hR) (ct_pre hK hE hP hD h0) rfl rfl hs rfl (lv_room hrest) hdg ⟨hc, hc2⟩) rfl hP hD hS hA h0 k9
theorem CT.callN {w0 : va_W} {host : String} (S : CallFix p m c cc nL s args lwU own) (hn : va_Nw (.methodLinkNest own ix y host) s) (hlk : Cond.initialized y.cls ∈ lwU ∧ Cond.instanceMethod y ∈ lwU ∧ Cond.code y cy mL none ∈ lwU) (hy : y.name = "<init>") (hd : y.cls ≠ "java/lang/invoke/MethodHandle" ∧ y.cls ≠ "java/lang/invoke/VarHandle" ∧ (parseMethodDescriptor y.desc).map (fun d => d.parameters.length) = some 0) (hM : CT l y cy mL d mc ms D cI cJ ci fs b Rf) (hK : KK D cI cJ s) (hE : EC s) (hP : va_P D vwCl w0 H) (hD : va_D A w0) (hS : va_S A H0 H locs) (hA : ∀ q : Nat, H0.size ≤ q → A q) (X : va_W) (h0 : w0 = X ++ [(b, .inr (ci, fs))]) (hR : RmOk d mL R) (hs : ls.size = nL) (hrest : (rest.map fun v => v.category).sum ≤ 8) (hc : cells + mc ≤ R.cells) (hc2 : slots + ms ≤ R.slots) (hdg : decode cc pc = .ok (.invokespecial ix, 3))
    (k9 : ∀ (q : Nat → Nat) (H1 : Heap) (locs1 : List Loc), q 0 = b → va_P D vwCl (X ++ Rf q) H1 → va_D A (X ++ Rf q) → va_S A H0 H1 locs1 → W p l e R s m args below meth c H1 locs1 (cells + mc) (slots + ms) Q (F0 m (pc + 3) ls rest)) : W p l e R s m args below meth c H locs cells slots Q (F0 m pc ls (.ref b :: rest)) :=
  CT.run (va_runIN (As := []) (rest := rest) S (hM H.size) ⟨va_cnB 0 S.2.2.2.2 (lwU_goodIn hlk.2.2) rfl rfl rfl hn (S.2.2.2.2 _ hlk.1) hd hR, hy, S.2.2.2.2 _ hlk.2.1⟩ (ct_pre hK hE hP hD h0) rfl rfl hs rfl (lv_room hrest) hdg ⟨hc, hc2⟩) rfl hP hD hS hA h0 k9
theorem CT.vret (S : CallFix p m c cc nL s args lwU own) (hr : meth.sig.returnType = none) (hk : meth.locks = false) (q : Nat → Nat) (hq : q 0 = b) (hP : va_P D vwCl (Rf q) H) (hD : va_D A (Rf q)) (hS : va_S A s.heap H locs) (hdg : decode cc pc = .ok (.return_, 1)) : W p l e R s m args below meth c H locs mc ms (MQ below (QC D Rf b A) args s mc ms A) (F0 m pc ls []) :=
  W.vret S.1 S.2.1 hr (fun t ht _ => ⟨rfl, ⟨q, hq, by rw [ht]; exact hP, hD⟩, hS.F ht⟩) hS.2.2 hdg hk
theorem ct_obj {a : Nat} (S : CallFix p m c cc nL s args lwU own) (hlk : Cond.methodLink own ix objectInit ∈ lwU) (hs : ls.size = nL) (hf : 1 ≤ R.frames) (hl : (rest.map fun v => v.category).sum + 12 ≤ R.locals) (hdg : decode cc pc = .ok (.invokespecial ix, 3)) (k9 : W p l e R s m args below meth c H locs cells slots Q (F0 m (pc + 3) ls rest)) : W p l e R s m args below meth c H locs cells slots Q (F0 m pc ls (.ref a :: rest)) :=
  W.objInit S.1 S.2.1 S.2.2.2.1 (S.2.2.2.2 _ hlk) (S.2.2.2.2 _ mI_objinit) (S.2.2.2.2 _ mC_objinit) (g := F0 m pc ls (.ref a :: rest)) rfl (by rw [S.2.2.1]; exact hs) rfl hdg hf (by show 2 * 0 + _ + 12 ≤ _; omega) k9
end CtRows
/-- a new object's row -/
def zF : Nat → Int32 := fun _ => nI 0
def nF0 : Nat → Int32 := upd zF 2 (nI 1)
def lsA (f : Nat → Int32) (j : Nat) : Nat → Int32 := fun i => if 10 ≤ i ∧ i < 10 + j then nI 10 else f i
def lsB (f : Nat → Int32) (j : Nat) : Nat → Int32 := fun i => if 72 ≤ i ∧ i < 72 + j then -1 else f i
def nF : Nat → Int32 := lsB (lsA nF0 6) 10
theorem lsA_0 {f : Nat → Int32} : lsA f 0 = f := funext fun i => if_neg (by omega)
theorem lsB_0 {f : Nat → Int32} : lsB f 0 = f := funext fun i => if_neg (by omega)
theorem lsA_s {f : Nat → Int32} {j : Nat} : upd (lsA f j) (10 + j) (nI 10) = lsA f (j + 1) := by
  funext i
  unfold upd lsA
  by_cases h : i = 10 + j
  · rw [if_pos h, if_pos (by omega)]
  · rw [if_neg h]
    by_cases h2 : 10 ≤ i ∧ i < 10 + j
    · rw [if_pos h2, if_pos (by omega)]
    · rw [if_neg h2, if_neg (by omega)]
theorem lsB_s {f : Nat → Int32} {j : Nat} : upd (lsB f j) (72 + j) (-1) = lsB f (j + 1) := by
  funext i
  unfold upd lsB
  by_cases h : i = 72 + j
  · rw [if_pos h, if_pos (by omega)]
  · rw [if_neg h]
    by_cases h2 : 72 ≤ i ∧ i < 72 + j
    · rw [if_pos h2, if_pos (by omega)]
    · rw [if_neg h2, if_neg (by omega)]
theorem pv_z {b n : Nat} (hb : 3 ≤ b) : pv nF0 b n = fun _ => nI 0 := by
  funext j
  unfold pv
  split
  · exact if_neg (by omega)
  · rfl
theorem pv_zz {b n : Nat} : pv zF b n = fun _ => nI 0 := by
  funext j
  unfold pv
  split <;> rfl
theorem vw_z {w : Nat} : vw nF0 w = fun _ => nI 0 := by
  funext j
  unfold vw fi
  split
  · exact if_neg (by omega)
  · rfl
def oL (l : List Nat) : Nat → Nat := fun i => l.getD i 0
theorem Iv_nF : Iv nF 0 := Iv.new rfl rfl (fun c hc => by
  show lsB (lsA nF0 6) 10 (10 + c) = nI 10
  unfold lsB
  rw [if_neg (by omega)]
  exact if_pos (by omega)) (fun i hi => if_pos (by omega))

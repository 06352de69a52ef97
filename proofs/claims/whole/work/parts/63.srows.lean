/-! string constants, and contracts that know them -/
def lenT : List Nat := [5, 5, 2, 4, 5, 5, 5, 4, 6, 4, 4, 6, 4]
def chT : List (List Nat) := [[115, 116, 111, 114, 109], [102, 114, 111, 115, 116], [105, 110], [112, 101, 97, 108], [112, 105, 116, 99, 104], [104, 111, 111, 112, 115], [99, 114, 97, 99, 107], [114, 111, 108, 108], [109, 101, 108, 108, 111, 119], [101, 99, 104, 111], [104, 101, 97, 116], [102, 111, 114, 103, 101, 100], [99, 97, 115, 107]]
def bytT : List (List Int32) := [[115, 116, 111, 114, 109], [102, 114, 111, 115, 116], [105, 110], [112, 101, 97, 108], [112, 105, 116, 99, 104], [104, 111, 111, 112, 115], [99, 114, 97, 99, 107], [114, 111, 108, 108], [109, 101, 108, 108, 111, 119], [101, 99, 104, 111], [104, 101, 97, 116], [102, 111, 114, 103, 101, 100], [99, 97, 115, 107]]
def ixT : List Nat := [38, 53, 69, 75, 77, 79, 96, 98, 100, 102, 104, 106, 108]
def txT : List String := ["storm", "frost", "in", "peal", "pitch", "hoops", "crack", "roll", "mellow", "echo", "heat", "forged", "cask"]
def csT (i : Nat) : List Nat := chT.getD i []
def lkT : Nat → Nat
  | 0 => 12
  | k + 1 => k + 6
theorem lenT_cs : ∀ i, i < 13 → lenT.getD i 0 = (csT i).length := by decide +kernel
theorem lenT_lt : ∀ i, i < 13 → lenT.getD i 0 < 7 := by decide +kernel
theorem csT_lk : ∀ k, k < 7 → csT (lkT k) = wK k := by decide +kernel
theorem lkT_lt : ∀ k, k < 7 → lkT k < 13 := by decide +kernel
theorem chT_ok : ∀ i, i < 13 → ∀ j, j < lenT.getD i 0 → ((((bytT.getD i []).getD j 0) &&& nI 255).toUInt32 % 65536).toInt32 = nI ((csT i).getD j 0) := by decide +kernel
theorem chT_nar : ∀ i, i < 13 → ∀ j, j < lenT.getD i 0 → narrow .char (.int (nI ((csT i).getD j 0))) = .int (nI ((csT i).getD j 0)) := by decide +kernel
def wNst : Cond := .fieldLinkNest RX2 85 "ThunderCasks" "MOST_OF_MARK" "[I" "ThunderCasks"
def SY (kk vv : Nat → Nat) (A : Nat → Prop) (U : State) (H : Heap) : Prop := vk_S 13 lenT bytT kk vv A U H ∧ va_Z "java/lang/String" "COMPACT_STRINGS" "Z" (.int (nI 1)) A U H ∧ va_Zq "jdk/internal/util/Preconditions" "SIOOBE_FORMATTER" "Ljava/util/function/BiFunction;" A U H ∧ (∀ i, i < 13 → vk_R RX2 (ixT.getD i 0) (txT.getD i "") (kk i) U) ∧ va_Nw wNst U
theorem SY.warm {kk vv : Nat → Nat} {A : Nat → Prop} {u U : State} {H : Heap} (hW : u.WarmedH U.vm) (h : SY kk vv A u H) : SY kk vv A U H := ⟨h.1.moved hW.alike, h.2.1.moved hW.alike, h.2.2.1.moved hW.alike, fun i hi => (h.2.2.2.1 i hi).warm hW, va_Nw.warmF hW h.2.2.2.2⟩
theorem SY.same {kk vv : Nat → Nat} {A : Nat → Prop} {u U : State} {H : Heap} (hv : U.vm = u.vm) (h : SY kk vv A u H) : SY kk vv A U H := ⟨h.1.moved (by rw [hv]; exact Vm.Alike.refl _), h.2.1.moved (by rw [hv]; exact Vm.Alike.refl _), h.2.2.1.moved (by rw [hv]; exact Vm.Alike.refl _), fun i hi => (h.2.2.2.1 i hi).same hv, va_Nw.same rfl hv.symm h.2.2.2.2⟩
theorem SY.kept {kk vv : Nat → Nat} {A : Nat → Prop} {U : State} {H H1 : Heap} (h : SY kk vv A U H) (hq : ∀ a : Nat, a < H.size → ¬ A a → H1[a]? = H[a]?) : SY kk vv A U H1 := ⟨h.1.kept hq, h.2.1.kept hq, h.2.2.1.kept hq, h.2.2.2⟩
theorem SY.narrow {kk vv : Nat → Nat} {A B : Nat → Prop} {U : State} {H : Heap} (h : SY kk vv A U H) (hAB : ∀ q, B q → A q) : SY kk vv B U H := ⟨h.1.narrow hAB, h.2.1.narrow hAB, h.2.2.1.narrow hAB, h.2.2.2⟩
def SA (mt ka : Nat) (kk vv : Nat → Nat) (A : Nat → Prop) (U : State) (H : Heap) : Prop := SZ mt ka A U H ∧ SY kk vv A U H
theorem SA.warm {mt ka : Nat} {kk vv : Nat → Nat} {A : Nat → Prop} {u U : State} {H : Heap} (hW : u.WarmedH U.vm) (h : SA mt ka kk vv A u H) : SA mt ka kk vv A U H := ⟨h.1.moved hW.alike, h.2.warm hW⟩
theorem SA.same {mt ka : Nat} {kk vv : Nat → Nat} {A : Nat → Prop} {u U : State} {H : Heap} (hv : U.vm = u.vm) (h : SA mt ka kk vv A u H) : SA mt ka kk vv A U H := ⟨h.1.moved (by rw [hv]; exact Vm.Alike.refl _), h.2.same hv⟩
theorem SA.kept {mt ka : Nat} {kk vv : Nat → Nat} {A : Nat → Prop} {U : State} {H H1 : Heap} (h : SA mt ka kk vv A U H) (hq : ∀ a : Nat, a < H.size → ¬ A a → H1[a]? = H[a]?) : SA mt ka kk vv A U H1 := ⟨h.1.kept hq, h.2.kept hq⟩
theorem SA.narrow {mt ka : Nat} {kk vv : Nat → Nat} {A B : Nat → Prop} {U : State} {H : Heap} (h : SA mt ka kk vv A U H) (hAB : ∀ q, B q → A q) : SA mt ka kk vv B U H := ⟨h.1.narrow hAB, h.2.narrow hAB⟩
def QN : Array Value → State → Outcome → State → Prop := fun _ st o t => o = .returned none ∧ t.heap = st.heap
def RY (mt ka : Nat) (kk vv : Nat → Nat) (l : Launch) (y : MethodName) (cc : ByteArray) (mL : Nat) (rt : Option FieldType) (d : Nat) (D : va_G) (cI cJ : ClassId) (w : va_W) (As : List Value) (r : Value) : Prop :=
  Met l y (.code y cc mL rt :: lwU) (rmd d) (fun v U => PR D cI cJ w As v U ∧ SA mt ka kk vv (fun _ => False) U U.heap) (QR r) 0 0 (fun _ => False)
def RV (mt ka : Nat) (kk vv : Nat → Nat) (l : Launch) (y : MethodName) (cc : ByteArray) (mL : Nat) (rt : Option FieldType) (d : Nat) (D : va_G) (cI cJ : ClassId) (w : va_W) (As : List Value) : Prop :=
  Met l y (.code y cc mL rt :: lwU) (rmd d) (fun v U => PR D cI cJ w As v U ∧ SA mt ka kk vv (fun _ => False) U U.heap) QN 0 0 (fun _ => False)
def WY (mt ka : Nat) (kk vv : Nat → Nat) (l : Launch) (y : MethodName) (cc : ByteArray) (mL : Nat) (rt : Option FieldType) (d : Nat) (D : va_G) (cI cJ : ClassId) (w : va_W) (As : List Value) (r : Option Value) (w' : va_W) : Prop :=
  ∀ sz : Nat, Met l y (.code y cc mL rt :: lwU) (rmd d) (fun v U => PX D cI cJ w As sz v U ∧ SA mt ka kk vv (va_A w sz) U U.heap) (QW D r w' (va_A w sz)) 0 0 (va_A w sz)
theorem RY.blind {mt ka : Nat} {kk vv : Nat → Nat} {D : va_G} {cI cJ : ClassId} {w : va_W} {As : List Value} : FrameBlind (fun v U => PR D cI cJ w As v U ∧ SA mt ka kk vv (fun _ => False) U U.heap) := fun a U g mk q => ⟨PR.blind a U g mk q.1, SA.same (u := U) (U := U.calling g mk a) rfl q.2⟩
theorem WY.blind {mt ka : Nat} {kk vv : Nat → Nat} {D : va_G} {cI cJ : ClassId} {w : va_W} {As : List Value} {sz : Nat} : FrameBlind (fun v U => PX D cI cJ w As sz v U ∧ SA mt ka kk vv (va_A w sz) U U.heap) := fun a U g mk q => ⟨PX.blind a U g mk q.1, SA.same (u := U) (U := U.calling g mk a) rfl q.2⟩
section Entry
variable {mt ka : Nat} {kk vv : Nat → Nat} {l : Launch} {y : MethodName} {cc : ByteArray} {mL : Nat} {rt : Option FieldType} {d : Nat} {D : va_G} {cI cJ : ClassId} {w w' : va_W} {As : List Value}
theorem RY.of {r : Value} (hy : plainName y.cls = true) (hlen : (lg_sl As).length ≤ mL)
    (body : ∀ (p : Program) (e : Env) (s : State) (m : MethodId) (below : List Frame) (meth : Method) (c : Code) (ls : Array Slot), CallFix p m c cc mL s As.toArray lwU y.cls → meth.sig.returnType = rt → meth.locks = false → KK D cI cJ s → va_P D vwCl w s.heap → SA mt ka kk vv (fun _ => False) s s.heap → lv_has ls mL (lv_args 0 As) →
      W p l e (rmd d) s m As.toArray below meth c s.heap [] 0 0 (ZR below As.toArray s r) (F0 m 0 ls [])) : RY mt ka kk vv l y cc mL rt d D cI cJ w As r := by
  refine Met.ofW (cc := cc) (maxL := mL) (ret := rt) hy rfl ?_
  intro p e s m args below meth c s₁ B hml hv
  obtain ⟨⟨rfl, hP, hK⟩, hZ⟩ := hv
  have hts := atoms_spec (ws := .code y cc mL rt :: lwU) B.pre
  rw [lg_entry_eq]
  exact body p e s m below meth c _ ⟨B.exec, B.bytes, hml, findClass_of_methodNamed B.named, fun w h => hts w (List.mem_cons_of_mem _ h)⟩ B.returns B.notSynchronized hK hP hZ (lv_entry As hlen)
theorem RV.of (hy : plainName y.cls = true) (hlen : (lg_sl As).length ≤ mL)
    (body : ∀ (p : Program) (e : Env) (s : State) (m : MethodId) (below : List Frame) (meth : Method) (c : Code) (ls : Array Slot), CallFix p m c cc mL s As.toArray lwU y.cls → meth.sig.returnType = rt → meth.locks = false → KK D cI cJ s → va_P D vwCl w s.heap → SA mt ka kk vv (fun _ => False) s s.heap → lv_has ls mL (lv_args 0 As) →
      W p l e (rmd d) s m As.toArray below meth c s.heap [] 0 0 (MQ below QN As.toArray s 0 0 (fun _ => False)) (F0 m 0 ls [])) : RV mt ka kk vv l y cc mL rt d D cI cJ w As := by
  refine Met.ofW (cc := cc) (maxL := mL) (ret := rt) hy rfl ?_
  intro p e s m args below meth c s₁ B hml hv
  obtain ⟨⟨rfl, hP, hK⟩, hZ⟩ := hv
  have hts := atoms_spec (ws := .code y cc mL rt :: lwU) B.pre
  rw [lg_entry_eq]
  exact body p e s m below meth c _ ⟨B.exec, B.bytes, hml, findClass_of_methodNamed B.named, fun w h => hts w (List.mem_cons_of_mem _ h)⟩ B.returns B.notSynchronized hK hP hZ (lv_entry As hlen)
theorem WY.of {r : Option Value} (hy : plainName y.cls = true) (hlen : (lg_sl As).length ≤ mL)
    (body : ∀ (p : Program) (e : Env) (s : State) (m : MethodId) (below : List Frame) (meth : Method) (c : Code) (ls : Array Slot) (A : Nat → Prop), CallFix p m c cc mL s As.toArray lwU y.cls → meth.sig.returnType = rt → meth.locks = false → KK D cI cJ s → va_P D vwCl w s.heap → va_D A w → va_S A s.heap s.heap [] → (∀ q : Nat, s.heap.size ≤ q → A q) → SA mt ka kk vv A s s.heap → lv_has ls mL (lv_args 0 As) →
      W p l e (rmd d) s m As.toArray below meth c s.heap [] 0 0 (ZW below As.toArray s D r w' A) (F0 m 0 ls [])) : WY mt ka kk vv l y cc mL rt d D cI cJ w As r w' := by
  intro sz
  refine Met.ofW (cc := cc) (maxL := mL) (ret := rt) hy rfl ?_
  intro p e s m args below meth c s₁ B hml hv
  obtain ⟨⟨rfl, hsz, hP, hK, hD⟩, hZ⟩ := hv
  subst hsz
  have hts := atoms_spec (ws := .code y cc mL rt :: lwU) B.pre
  rw [lg_entry_eq]
  exact body p e s m below meth c _ _ ⟨B.exec, B.bytes, hml, findClass_of_methodNamed B.named, fun w h => hts w (List.mem_cons_of_mem _ h)⟩ B.returns B.notSynchronized hK hP hD.self va_S.rf (fun q h => Or.inr h) hZ (lv_entry As hlen)
end Entry
def LkK (own : String) (ix : Nat) (y : MethodName) (cc : ByteArray) (mL : Nat) (rt : Option FieldType) (n : Nat) : Prop :=
  (Cond.methodLink own ix y ∈ lwU ∧ Cond.instanceMethod y ∈ lwU ∧ Cond.selects y.cls y y ∈ lwU ∧ Cond.initialized y.cls ∈ lwU ∧ Cond.code y cc mL rt ∈ lwU) ∧ (y.cls ≠ "java/lang/invoke/MethodHandle" ∧ y.cls ≠ "java/lang/invoke/VarHandle" ∧ (parseMethodDescriptor y.desc).map (fun d => d.parameters.length) = some n)
theorem LkK.cw {own : String} {ix mL n d : Nat} {y : MethodName} {cc : ByteArray} {rt : Option FieldType} {R : Room} {s : State} {args : Array Value} (L : LkK own ix y cc mL rt n) (ht : ∀ w ∈ lwU, w.before args s = true) (hR : RmOk d mL R) : CallW R s args own y.cls ix y cc mL rt (.code y cc mL rt :: lwU) (rmd d) 0 0 n := by
  obtain ⟨⟨h1, h2, h3, h4, h5⟩, hd⟩ := L
  exact ⟨callB_of n ht (lwU_goodIn h5) rfl rfl rfl (ht _ h4) (ht _ h1) hd hR, ht _ h2, ht _ h3⟩
section Calls
variable {mt ka : Nat} {kk vv : Nat → Nat} {p : Program} {l : Launch} {e : Env} {R : Room} {s : State} {m : MethodId} {args : Array Value} {below : List Frame} {meth : Method} {c : Code} {H : Heap} {locs : List Loc} {cells slots : Nat} {Q : State → Prop}
  {cc cy : ByteArray} {nL pc mL ix n ci d : Nat} {own : String} {y : MethodName} {rt : Option FieldType} {ls : Array Slot} {rest st As : List Value} {D : va_G} {cI cJ : ClassId} {w w' w0 w1 : va_W} {A : Nat → Prop} {b : Nat} {fs : List Value}
theorem RY.callS {r : Value} (hZ : SA mt ka kk vv A s s.heap) (hS : va_S A s.heap H locs) (S : CallFix p m c cc nL s args lwU own) (L : LkS own ix y cy mL rt n) (hM : RY mt ka kk vv l y cy mL rt d D cI cJ w As r) (hK : KK D cI cJ s) (hP : va_P D vwCl w H) (hR : RmOk d mL R) (hs : ls.size = nL) (hn : As.length = n) (hst : st = As.reverse ++ rest) (hrest : (rest.map fun v => v.category).sum ≤ 8) (hc : cells ≤ R.cells) (hc2 : slots ≤ R.slots) (hdg : decode cc pc = .ok (.invokestatic ix, 3))
    (k9 : W p l e R s m args below meth c H locs cells slots Q (F0 m (pc + 3) ls (r :: rest))) : W p l e R s m args below meth c H locs cells slots Q (F0 m pc ls st) := by
  exact RO.run (va_runS (As := As) (rest := rest) S hM (L.cw S.2.2.2.2 hR) ⟨RY.blind, fun U hU hW => ⟨⟨rfl, by rw [hU]; exact hP, va_K.moved hW.alike hK⟩, by rw [hU]; exact ((hZ.kept hS.2.1).warm hW).narrow (fun _ q => q.elim)⟩⟩ rfl hn hs hst (lv_room hrest) hdg ⟨hc, hc2⟩) rfl k9
theorem RV.callS (hZ : SA mt ka kk vv A s s.heap) (hS : va_S A s.heap H locs) (S : CallFix p m c cc nL s args lwU own) (L : LkS own ix y cy mL rt n) (hM : RV mt ka kk vv l y cy mL rt d D cI cJ w As) (hK : KK D cI cJ s) (hP : va_P D vwCl w H) (hR : RmOk d mL R) (hs : ls.size = nL) (hn : As.length = n) (hst : st = As.reverse ++ rest) (hrest : (rest.map fun v => v.category).sum ≤ 8) (hc : cells ≤ R.cells) (hc2 : slots ≤ R.slots) (hdg : decode cc pc = .ok (.invokestatic ix, 3))
    (k9 : W p l e R s m args below meth c H locs cells slots Q (F0 m (pc + 3) ls rest)) : W p l e R s m args below meth c H locs cells slots Q (F0 m pc ls st) := by
  have hr := va_runS (As := As) (rest := rest) (cells := cells) (slots := slots) (e := e) (below := below) (meth := meth) (locs := locs) (g := F0 m pc ls st) S hM (L.cw S.2.2.2.2 hR) ⟨RY.blind, fun U hU hW => ⟨⟨rfl, by rw [hU]; exact hP, va_K.moved hW.alike hK⟩, by rw [hU]; exact ((hZ.kept hS.2.1).warm hW).narrow (fun _ q => q.elim)⟩⟩ rfl hn hs hst (lv_room hrest) hdg ⟨hc, hc2⟩
  intro T hT XS
  obtain ⟨v, st₀, t, T', L9, h0, X', hL, e1, -, ⟨hv, hh⟩, st9⟩ := hr T hT XS
  cases hv
  obtain ⟨t2, a1, b1⟩ := k9 T' (by rw [e1, hh, h0]) (Stand.forget X' (fun q h => (hL q h).elim))
  exact ⟨t2, st9 t2 a1, b1⟩
theorem RY.callV {r : Value} (hZ : SA mt ka kk vv A s s.heap) (hS : va_S A s.heap H locs) (S : CallFix p m c cc nL s args lwU own) (L : LkV own ix y cy mL rt n ci) (hM : RY mt ka kk vv l y cy mL rt d D cI cJ w (.ref b :: As) r) (hK : KK D cI cJ s) (hP : va_P D vwCl w H) (he : w[0]? = some (b, .inr (ci, fs))) (hR : RmOk d mL R) (hs : ls.size = nL) (hn : As.length = n) (hst : st = As.reverse ++ .ref b :: rest) (hrest : (rest.map fun v => v.category).sum ≤ 8) (hc : cells ≤ R.cells) (hc2 : slots ≤ R.slots) (hdg : decode cc pc = .ok (.invokevirtual ix, 3))
    (k9 : W p l e R s m args below meth c H locs cells slots Q (F0 m (pc + 3) ls (r :: rest))) : W p l e R s m args below meth c H locs cells slots Q (F0 m pc ls st) := by
  obtain ⟨T, N, hT⟩ := L.2.2
  exact RO.run (va_runV (As := As) (rest := rest) S hM (L.cw S.2.2.2.2 hR) ⟨RY.blind, va_recv hK hP hT he, fun U hU hW => ⟨⟨rfl, by rw [hU]; exact hP, va_K.moved hW.alike hK⟩, by rw [hU]; exact ((hZ.kept hS.2.1).warm hW).narrow (fun _ q => q.elim)⟩⟩ rfl hn hs hst (lv_room hrest) hdg ⟨hc, hc2⟩) rfl k9
theorem RY.callK {r : Value} {i : Nat} (hi : i < 13) (hZ : SA mt ka kk vv A s s.heap) (hS : va_S A s.heap H locs) (S : CallFix p m c cc nL s args lwU own) (L : LkK own ix y cy mL rt n) (hC : y.cls = "java/lang/String") (hM : RY mt ka kk vv l y cy mL rt d D cI cJ w (.ref (kk i) :: As) r) (hK : KK D cI cJ s) (hP : va_P D vwCl w H) (hR : RmOk d mL R) (hs : ls.size = nL) (hn : As.length = n) (hst : st = As.reverse ++ .ref (kk i) :: rest) (hrest : (rest.map fun v => v.category).sum ≤ 8) (hc : cells ≤ R.cells) (hc2 : slots ≤ R.slots) (hdg : decode cc pc = .ok (.invokevirtual ix, 3))
    (k9 : W p l e R s m args below meth c H locs cells slots Q (F0 m (pc + 3) ls (r :: rest))) : W p l e R s m args below meth c H locs cells slots Q (F0 m pc ls st) := by
  exact RO.run (va_runV (As := As) (rest := rest) S hM (L.cw S.2.2.2.2 hR) ⟨RY.blind, by rw [hC]; exact vk_recv hZ.2.1 hi hS, fun U hU hW => ⟨⟨rfl, by rw [hU]; exact hP, va_K.moved hW.alike hK⟩, by rw [hU]; exact ((hZ.kept hS.2.1).warm hW).narrow (fun _ q => q.elim)⟩⟩ rfl hn hs hst (lv_room hrest) hdg ⟨hc, hc2⟩) rfl k9
theorem WY.callV {r : Option Value} (qr : Nat) (hZ : SA mt ka kk vv A s s.heap) (S : CallFix p m c cc nL s args lwU own) (L : LkV own ix y cy mL rt n ci) (hM : WY mt ka kk vv l y cy mL rt d D cI cJ w (.ref b :: As) r w') (hK : KK D cI cJ s) (hP : va_P D vwCl w0 H) (hD : va_D A w0) (hS : va_S A s.heap H locs) (hA : ∀ q : Nat, s.heap.size ≤ q → A q) (X Y : va_W) (h0 : w0 = X ++ (w ++ Y)) (h1 : w1 = X ++ (w' ++ Y)) (hfst : w'.map Prod.fst = w.map Prod.fst) (he : w[qr]? = some (b, .inr (ci, fs))) (hR : RmOk d mL R) (hs : ls.size = nL) (hn : As.length = n) (hst : st = As.reverse ++ .ref b :: rest) (hrest : (rest.map fun v => v.category).sum ≤ 8) (hc : cells ≤ R.cells) (hc2 : slots ≤ R.slots) (hdg : decode cc pc = .ok (.invokevirtual ix, 3))
    (k9 : ∀ (H1 : Heap) (locs1 : List Loc), va_P D vwCl w1 H1 → va_D A w1 → va_S A s.heap H1 locs1 → W p l e R s m args below meth c H1 locs1 cells slots Q (F0 m (pc + 3) ls (r.toList ++ rest))) : W p l e R s m args below meth c H locs cells slots Q (F0 m pc ls st) := by
  obtain ⟨T, N, hT⟩ := L.2.2
  have hPw : va_P D vwCl w H := by
    subst h0
    exact va_P_l (va_P_r hP)
  have hDw : va_D (fun _ => True) w := by
    subst h0
    refine ⟨fun i j p q hi hj hpq => ?_, fun _ _ _ => trivial⟩
    have := hD.1 (X.length + i) (X.length + j) p q (get_seg hi) (get_seg hj) hpq
    omega
  have hfree : ∀ q : Nat, va_A w H.size q → A q := fun q h => by
    rcases h with ⟨k, e9, h⟩ | h
    · subst h0
      exact hD.2 (X.length + k) (q, e9) (get_seg h)
    · exact hA q (Nat.le_trans hS.1 h)
  exact WR.run (va_runV (As := As) (rest := rest) S (hM H.size) (L.cw S.2.2.2.2 hR) ⟨WY.blind, va_recv hK hPw hT he, fun U hU hW => ⟨⟨rfl, by rw [hU], by rw [hU]; exact hPw, va_K.moved hW.alike hK, hDw⟩, by rw [hU]; exact ((hZ.kept hS.2.1).warm hW).narrow hfree⟩⟩ rfl hn hs hst (lv_room hrest) hdg ⟨hc, hc2⟩) rfl hP hD hS hA h0 h1 hfst k9
theorem RO.nret {ty : FieldType} {Ts : List Cond} (X : CallFix p m c cc nL s args Ts own) (hr : meth.sig.returnType = some ty) (hk : meth.locks = false) {v : Int32} {r : Value} (hn : narrow ty (.int v) = .int v) (he : r = .int v) (hdg : decode cc pc = .ok (.ireturn, 1)) : W p l e R s m args below meth c s.heap [] 0 0 (ZR below args s r) (F0 m pc ls [.int v]) := by
  subst he
  exact W.zret X.1 X.2.1 hr hn (fun t ht _ => ⟨rfl, ht⟩) (fun q h => by cases h) hdg hk
theorem RV.vret {Ts : List Cond} (X : CallFix p m c cc nL s args Ts own) (hr : meth.sig.returnType = none) (hk : meth.locks = false) (hdg : decode cc pc = .ok (.return_, 1)) : W p l e R s m args below meth c s.heap [] 0 0 (MQ below QN args s 0 0 (fun _ => False)) (F0 m pc ls []) := 
  W.vret X.1 X.2.1 hr (fun t ht _ => ⟨rfl, ht⟩) (fun q h => by cases h) hdg hk
theorem RO.sret {rt : FieldType} {Ts : List Cond} (X : CallFix p m c cc nL s args Ts own) (hr : meth.sig.returnType = some rt) (hrt : ∃ n, rt = .object n) (hk : meth.locks = false) {v : Nat} {r : Value} (he : r = .ref v) (hdg : decode cc pc = .ok (.areturn, 1)) : W p l e R s m args below meth c s.heap [] 0 0 (ZR below args s r) (F0 m pc ls [.ref v]) := RO.aret X hr (Or.inl hrt) hk he hdg
end Calls
theorem va_P_nil {D : va_G} {H : Heap} : va_P D vwCl [] H := fun k q h => by simp at h
theorem kk_X2_110 : LkK RX2 110 yJ0_length_8abf5 cJ0_length_8abf5 1 (some .int) 0 := ⟨⟨mL_X2_110, mI_J0_length_8abf5, mS_J0_length_8abf5, mN_J0, mC_J0_length_8abf5⟩, ⟨by decide +kernel, by decide +kernel, by decide +kernel⟩⟩
theorem kk_J0_335 : LkK RJ0 335 yJ0_coder_7d493 cJ0_coder_7d493 1 (some .byte) 0 := ⟨⟨mL_J0_335, mI_J0_coder_7d493, mS_J0_coder_7d493, mN_J0, mC_J0_coder_7d493⟩, ⟨by decide +kernel, by decide +kernel, by decide +kernel⟩⟩
theorem kk_X2_114 : LkK RX2 114 yJ0_charAt_5068e cJ0_charAt_5068e 2 (some .char) 1 := ⟨⟨mL_X2_114, mI_J0_charAt_5068e, mS_J0_charAt_5068e, mN_J0, mC_J0_charAt_5068e⟩, ⟨by decide +kernel, by decide +kernel, by decide +kernel⟩⟩
theorem kk_J0_492 : LkK RJ0 492 yJ0_isLatin1_aae02 cJ0_isLatin1_aae02 1 (some .boolean) 0 := ⟨⟨mL_J0_492, mI_J0_isLatin1_aae02, mS_J0_isLatin1_aae02, mN_J0, mC_J0_isLatin1_aae02⟩, ⟨by decide +kernel, by decide +kernel, by decide +kernel⟩⟩

/-! contracts that read the two static tables -/
def mst : Nat → Int32
  | 0 => nI 6
  | 1 => nI 5
  | 2 => nI 999
  | 3 => nI 11
  | _ => nI 999
def kab : Nat → Int32
  | 0 => -1
  | 1 => nI 0
  | 2 => nI 0
  | 3 => nI 2
  | 4 => nI 3
  | 5 => nI 0
  | _ => nI 1
def SZ (mt ka : Nat) (A : Nat → Prop) (U : State) (H : Heap) : Prop := va_Z "ThunderCasks" "MOST_OF_MARK" "[I" (.ref mt) A U H ∧ va_T .int mt 7 (fun j => .int (mst j)) A U H ∧ va_Z "ThunderCasks" "KIND_ABOVE" "[I" (.ref ka) A U H ∧ va_T .int ka 7 (fun j => .int (kab j)) A U H
theorem SZ.moved {mt ka : Nat} {A : Nat → Prop} {u U : State} {H : Heap} (hvm : u.vm.Alike U.vm) (h : SZ mt ka A u H) : SZ mt ka A U H := ⟨h.1.moved hvm, h.2.1.moved hvm, h.2.2.1.moved hvm, h.2.2.2.moved hvm⟩
theorem SZ.kept {mt ka : Nat} {A : Nat → Prop} {U : State} {H H1 : Heap} (h : SZ mt ka A U H) (hq : ∀ a : Nat, a < H.size → ¬ A a → H1[a]? = H[a]?) : SZ mt ka A U H1 := ⟨h.1.kept hq, h.2.1.kept hq, h.2.2.1.kept hq, h.2.2.2.kept hq⟩
theorem SZ.narrow {mt ka : Nat} {A B : Nat → Prop} {U : State} {H : Heap} (h : SZ mt ka A U H) (hAB : ∀ q, B q → A q) : SZ mt ka B U H := ⟨h.1.narrow hAB, h.2.1.narrow hAB, h.2.2.1.narrow hAB, h.2.2.2.narrow hAB⟩
def RZ (mt ka : Nat) (l : Launch) (y : MethodName) (cc : ByteArray) (mL : Nat) (rt : Option FieldType) (d : Nat) (D : va_G) (cI cJ : ClassId) (w : va_W) (As : List Value) (r : Value) : Prop :=
  Met l y (.code y cc mL rt :: lwU) (rmd d) (fun v U => PR D cI cJ w As v U ∧ SZ mt ka (fun _ => False) U U.heap) (QR r) 0 0 (fun _ => False)
def WZ (mt ka : Nat) (l : Launch) (y : MethodName) (cc : ByteArray) (mL : Nat) (rt : Option FieldType) (d : Nat) (D : va_G) (cI cJ : ClassId) (w : va_W) (As : List Value) (r : Option Value) (w' : va_W) : Prop :=
  ∀ sz : Nat, Met l y (.code y cc mL rt :: lwU) (rmd d) (fun v U => PX D cI cJ w As sz v U ∧ SZ mt ka (va_A w sz) U U.heap) (QW D r w' (va_A w sz)) 0 0 (va_A w sz)
theorem RZ.blind {mt ka : Nat} {D : va_G} {cI cJ : ClassId} {w : va_W} {As : List Value} : FrameBlind (fun v U => PR D cI cJ w As v U ∧ SZ mt ka (fun _ => False) U U.heap) := fun a U g mk q => ⟨PR.blind a U g mk q.1, SZ.moved (u := U) (U := U.calling g mk a) (Vm.Alike.refl U.vm) q.2⟩
theorem WZ.blind {mt ka : Nat} {D : va_G} {cI cJ : ClassId} {w : va_W} {As : List Value} {sz : Nat} : FrameBlind (fun v U => PX D cI cJ w As sz v U ∧ SZ mt ka (va_A w sz) U U.heap) := fun a U g mk q => ⟨PX.blind a U g mk q.1, SZ.moved (u := U) (U := U.calling g mk a) (Vm.Alike.refl U.vm) q.2⟩
section Entry
variable {mt ka : Nat} {l : Launch} {y : MethodName} {cc : ByteArray} {mL : Nat} {rt : Option FieldType} {d : Nat} {D : va_G} {cI cJ : ClassId} {w w' : va_W} {As : List Value}
theorem RZ.of {r : Value} (hy : plainName y.cls = true) (hlen : (lg_sl As).length ≤ mL)
    (body : ∀ (p : Program) (e : Env) (s : State) (m : MethodId) (below : List Frame) (meth : Method) (c : Code) (ls : Array Slot), CallFix p m c cc mL s As.toArray lwU y.cls → meth.sig.returnType = rt → meth.locks = false → KK D cI cJ s → va_P D vwCl w s.heap → SZ mt ka (fun _ => False) s s.heap → lv_has ls mL (lv_args 0 As) →
      W p l e (rmd d) s m As.toArray below meth c s.heap [] 0 0 (ZR below As.toArray s r) (F0 m 0 ls [])) : RZ mt ka l y cc mL rt d D cI cJ w As r := by
  refine Met.ofW (cc := cc) (maxL := mL) (ret := rt) hy rfl ?_
  intro p e s m args below meth c s₁ B hml hv
  obtain ⟨⟨rfl, hP, hK⟩, hZ⟩ := hv
  have hts := atoms_spec (ws := .code y cc mL rt :: lwU) B.pre
  rw [lg_entry_eq]
  exact body p e s m below meth c _ ⟨B.exec, B.bytes, hml, findClass_of_methodNamed B.named, fun w h => hts w (List.mem_cons_of_mem _ h)⟩ B.returns B.notSynchronized hK hP hZ (lv_entry As hlen)
theorem WZ.of {r : Option Value} (hy : plainName y.cls = true) (hlen : (lg_sl As).length ≤ mL)
    (body : ∀ (p : Program) (e : Env) (s : State) (m : MethodId) (below : List Frame) (meth : Method) (c : Code) (ls : Array Slot) (A : Nat → Prop), CallFix p m c cc mL s As.toArray lwU y.cls → meth.sig.returnType = rt → meth.locks = false → KK D cI cJ s → va_P D vwCl w s.heap → va_D A w → va_S A s.heap s.heap [] → (∀ q : Nat, s.heap.size ≤ q → A q) → SZ mt ka A s s.heap → lv_has ls mL (lv_args 0 As) →
      W p l e (rmd d) s m As.toArray below meth c s.heap [] 0 0 (ZW below As.toArray s D r w' A) (F0 m 0 ls [])) : WZ mt ka l y cc mL rt d D cI cJ w As r w' := by
  intro sz
  refine Met.ofW (cc := cc) (maxL := mL) (ret := rt) hy rfl ?_
  intro p e s m args below meth c s₁ B hml hv
  obtain ⟨⟨rfl, hsz, hP, hK, hD⟩, hZ⟩ := hv
  subst hsz
  have hts := atoms_spec (ws := .code y cc mL rt :: lwU) B.pre
  rw [lg_entry_eq]
  exact body p e s m below meth c _ _ ⟨B.exec, B.bytes, hml, findClass_of_methodNamed B.named, fun w h => hts w (List.mem_cons_of_mem _ h)⟩ B.returns B.notSynchronized hK hP hD.self va_S.rf (fun q h => Or.inr h) hZ (lv_entry As hlen)
end Entry
section Calls
variable {mt ka : Nat} {p : Program} {l : Launch} {e : Env} {R : Room} {s : State} {m : MethodId} {args : Array Value} {below : List Frame} {meth : Method} {c : Code} {H : Heap} {locs : List Loc} {cells slots : Nat} {Q : State → Prop}
  {cc cy : ByteArray} {nL pc mL ix n ci d : Nat} {own : String} {y : MethodName} {rt : Option FieldType} {ls : Array Slot} {rest st As : List Value} {D : va_G} {cI cJ : ClassId} {w w' w0 w1 : va_W} {A : Nat → Prop} {b : Nat} {fs : List Value}
theorem RZ.callS {r : Value} (hZ : SZ mt ka A s s.heap) (hS : va_S A s.heap H locs) (S : CallFix p m c cc nL s args lwU own) (L : LkS own ix y cy mL rt n) (hM : RZ mt ka l y cy mL rt d D cI cJ w As r) (hK : KK D cI cJ s) (hP : va_P D vwCl w H) (hR : RmOk d mL R) (hs : ls.size = nL) (hn : As.length = n) (hst : st = As.reverse ++ rest) (hrest : (rest.map fun v => v.category).sum ≤ 8) (hc : cells ≤ R.cells) (hc2 : slots ≤ R.slots) (hdg : decode cc pc = .ok (.invokestatic ix, 3))
    (kk : W p l e R s m args below meth c H locs cells slots Q (F0 m (pc + 3) ls (r :: rest))) : W p l e R s m args below meth c H locs cells slots Q (F0 m pc ls st) := by
  exact RO.run (va_runS (As := As) (rest := rest) S hM (L.cw S.2.2.2.2 hR) ⟨RZ.blind, fun U hU hW => ⟨⟨rfl, by rw [hU]; exact hP, va_K.moved hW.alike hK⟩, by rw [hU]; exact ((hZ.kept hS.2.1).moved hW.alike).narrow (fun _ q => q.elim)⟩⟩ rfl hn hs hst (lv_room hrest) hdg ⟨hc, hc2⟩) rfl kk
theorem WZ.callV {r : Option Value} (qr : Nat) (hZ : SZ mt ka A s s.heap) (S : CallFix p m c cc nL s args lwU own) (L : LkV own ix y cy mL rt n ci) (hM : WZ mt ka l y cy mL rt d D cI cJ w (.ref b :: As) r w') (hK : KK D cI cJ s) (hP : va_P D vwCl w0 H) (hD : va_D A w0) (hS : va_S A s.heap H locs) (hA : ∀ q : Nat, s.heap.size ≤ q → A q) (X Y : va_W) (h0 : w0 = X ++ (w ++ Y)) (h1 : w1 = X ++ (w' ++ Y)) (hfst : w'.map Prod.fst = w.map Prod.fst) (he : w[qr]? = some (b, .inr (ci, fs))) (hR : RmOk d mL R) (hs : ls.size = nL) (hn : As.length = n) (hst : st = As.reverse ++ .ref b :: rest) (hrest : (rest.map fun v => v.category).sum ≤ 8) (hc : cells ≤ R.cells) (hc2 : slots ≤ R.slots) (hdg : decode cc pc = .ok (.invokevirtual ix, 3))
    (kk : ∀ (H1 : Heap) (locs1 : List Loc), va_P D vwCl w1 H1 → va_D A w1 → va_S A s.heap H1 locs1 → W p l e R s m args below meth c H1 locs1 cells slots Q (F0 m (pc + 3) ls (r.toList ++ rest))) : W p l e R s m args below meth c H locs cells slots Q (F0 m pc ls st) := by
  obtain ⟨T, N, hT⟩ := L.2.2
  have hPw : va_P D vwCl w H := by
    subst h0
    exact va_P_l (va_P_r hP)
  have hDw : va_D (fun _ => True) w := by
    subst h0
    refine ⟨fun i j p q hi hj hpq => ?_, fun _ _ _ => trivial⟩
    have := hD.1 (X.length + i) (X.length + j) p q (get_seg hi) (get_seg hj) hpq
    omega
  have hfree : ∀ q : Nat, va_A w H.size q → A q := fun q h => by
    rcases h with ⟨k, e9, h⟩ | h
    · subst h0
      exact hD.2 (X.length + k) (q, e9) (get_seg h)
    · exact hA q (Nat.le_trans hS.1 h)
  exact WR.run (va_runV (As := As) (rest := rest) S (hM H.size) (L.cw S.2.2.2.2 hR) ⟨WZ.blind, va_recv hK hPw hT he, fun U hU hW => ⟨⟨rfl, by rw [hU], by rw [hU]; exact hPw, va_K.moved hW.alike hK, hDw⟩, by rw [hU]; exact ((hZ.kept hS.2.1).moved hW.alike).narrow hfree⟩⟩ rfl hn hs hst (lv_room hrest) hdg ⟨hc, hc2⟩) rfl hP hD hS hA h0 h1 hfst kk
end Calls
theorem rg_nat {x : Int32} {a : Nat} (h : nI 0 ≤ x ∧ x ≤ nI a) (ha : a < 2147483648) : ∃ j, j ≤ a ∧ x = nI j := by
  obtain ⟨h1, h2⟩ := h
  rw [Int32.le_iff_toInt_le, nI_toInt (by omega)] at h1 h2
  refine ⟨x.toInt.toNat, by omega, ?_⟩
  apply Int32.toInt_inj.mp
  rw [nI_toInt (by omega)]
  omega
theorem gOf_mst : ∀ {j : Nat}, j ≤ 6 → gOf (nI j) = mst j := by decide +kernel

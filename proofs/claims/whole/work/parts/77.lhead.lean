/-! THE CLAIM OUT OF ONE WALK OF THE LAW'S BODY. Your part is whole_start (and what it stands on); all else here is the same for every law, but numbers. -/
def R_law : String := "ThunderCasksLaw"
def lw_P (b : Addr) (xs : List Int32) (args : Array Value) (s : State) : Prop := args = #[.ref b] ∧ s.IntsAt b xs ∧ xs.length ≤ 3072 ∧ (Jvm.Cond.and given_1 narrow_1).before args s = true
def lw_Q (_ : Array Value) (s : State) (o : Outcome) (t : State) : Prop := o = .returned (some (.int 1)) ∧ Framed s o t [] 600000 7302250
def lw_Z (below : List Frame) (a : Array Value) (s : State) : State → Prop := fun t => ∃ o, t.status = .running ∧ Ended t below o ∧ lw_Q a s o t
/-- the law's own end, with 1 on the stack, nothing written that was there before, its room as the claim has it -/
theorem lw_ret {p : Program} {l : Launch} {e : Env} {s : State} {m : MethodId} {below : List Frame} {meth : Method} {c : Code} {b : Nat} (hx : p.tables.exec = Jvm.exec) (hb : c.code = code) (hr : meth.sig.returnType = ret) (hlocks : meth.locks = false) {pc : Nat} {H : Heap} {ls : Array Slot} (hdg : decode code pc = .ok (.ireturn, 1)) : W p l e room_1 s m #[Value.ref b] below meth c H [] 600000 7302250 (lw_Z below #[Value.ref b] s) (F0 m pc ls [.int 1]) := by
  intro T hT X
  obtain ⟨fs, hret, hrun, hended, hW, hframe⟩ := X.leave (v := some (.int 1)) (hlocks := hlocks) (fun h => by rw [hr] at h; cases h)
  have hmeth' : T.vm.method? m = some meth := X.method'
  refine ⟨T.setFrames fs, ?_, .returned (some (.int 1)), hrun, hended, rfl, ⟨_, rfl⟩, hW, hframe⟩
  jvm_step X.here [X.here.top, hx, hb, hdg, hmeth', hr, ret, narrow_b1]
  (try refine ⟨rfl, ?_⟩); (try refine ⟨rfl, ?_⟩)
  first | (intro acts; rw [hret _ acts rfl rfl rfl]) | rw [hret _ _ rfl rfl rfl]
  exact Steps.refl _
/-- what holds at the law's entry: the machine, the code, the tables' words (any of lw_tbl by 'hts w (by decide +kernel)'), the script of L ints xs at the cell b, what the Statement gives of the start (any of its parts by flat_of_before) -/
def lw_At (p : Program) (s : State) (m : MethodId) (meth : Method) (c : Code) (b L : Nat) (xs : Nat → Int32) : Prop :=
  p.tables.exec = Jvm.exec ∧ c.code = code ∧ meth.sig.returnType = ret ∧ c.maxLocals = 4 ∧ s.vm.findClass R_law = some m.cls ∧ (∀ w ∈ lw_tbl, w.before #[Value.ref b] s = true) ∧ va_X b L xs s s.heap ∧ b < s.heap.size ∧ meth.locks = false ∧ (Jvm.Cond.and given_1 narrow_1).before #[Value.ref b] s = true
/-! calls of the law on either side -/
def LC (p : Program) (s : State) (m : MethodId) (c : Code) (b L : Nat) (xs : Nat → Int32) (A : Nat → Prop) (D : va_G) (cI cJ : ClassId) (mt ka : Nat) (kk vv : Nat → Nat) : Prop := CallFix p m c cL_law 4 s #[Value.ref b] lwU RL ∧ KK D cI cJ s ∧ SA mt ka kk vv A s s.heap ∧ va_X b L xs s s.heap ∧ b < s.heap.size ∧ ¬ A b ∧ ∀ q : Nat, s.heap.size ≤ q → A q
def KJ (p : Program) (l : Launch) (e : Env) (s : State) (m : MethodId) (below : List Frame) (meth : Method) (c : Code) (b : Nat) (A : Nat → Prop) (D : va_G) (cI cJ : ClassId) (t a : Nat → Nat) (i : Nat) (ls : Array Slot) : Prop :=
  ∀ (f g h : Nat → Int32) (τ σ : Nat → Nat → Int32) (H : Heap) (locs : List Loc), ST (i + 1) f h τ σ → va_P D vwCl (TW cI cJ t f g h τ ++ MW cI a f σ) H → va_D A (TW cI cJ t f g h τ ++ MW cI a f σ) → va_S A s.heap H locs → W p l e room_1 s m #[Value.ref b] below meth c H locs 600000 7302250 (lw_Z below #[Value.ref b] s) (F0 m 1497 ls [])
theorem ST_0 : ST 0 nF nF (fun _ => zF) sg0 := by
  refine ⟨⟨0, 0, Iv_nF, rfl, by decide⟩, Or.inl ⟨rfl, rfl⟩, ⟨0, rfl, rfl, by decide, rfl, fun j hj => absurd hj (Nat.not_lt_zero j)⟩, ⟨fun sh hsh => Or.inl ⟨rfl, ?_⟩, rfl, rfl, fun sh hsh => ⟨0, by decide, rfl⟩⟩, fun k hk => rfl, by decide⟩
  rcases (show sh = 0 ∨ sh = 1 ∨ sh = 2 ∨ sh = 3 by omega) with rfl | rfl | rfl | rfl <;> rfl
section LawCalls
variable {mt ka : Nat} {kk vv : Nat → Nat} {p : Program} {l : Launch} {e : Env} {R : Room} {s : State} {m : MethodId} {args : Array Value} {below : List Frame} {meth : Method} {c : Code} {H : Heap} {locs : List Loc} {cells slots : Nat} {Q : State → Prop}
  {cc cy : ByteArray} {nL pc mL ix n : Nat} {own : String} {y : MethodName} {rt : Option FieldType} {ls : Array Slot} {rest st As : List Value} {D : va_G} {cI cJ : ClassId} {A : Nat → Prop} {t a : Nat → Nat} {f g h f' h' : Nat → Int32} {τ τ' σ σ' : Nat → Nat → Int32} {r : Value} {X Y : va_W}
theorem W.forgetAll {g9 : JFrame} (h9 : ∀ q ∈ locs, s.heap.size ≤ q.base) (k : W p l e R s m args below meth c H [] cells slots Q g9) : W p l e R s m args below meth c H locs cells slots Q g9 := W.forget (locs := []) h9 k
theorem V3.call (hZ : SA mt ka kk vv A s s.heap) (S : CallFix p m c cc nL s args lwU own) (L : LkV own ix y cy mL rt n 3) (hM : V3 l D cI cJ t mt ka kk vv y cy mL rt f g h τ As r f' h' τ') (hK : KK D cI cJ s) (hP : va_P D vwCl (TW cI cJ t f g h τ ++ Y) H) (hD : va_D A (TW cI cJ t f g h τ ++ Y)) (hS : va_S A s.heap H locs) (hA : ∀ q : Nat, s.heap.size ≤ q → A q) (hR : ∀ d, d ≤ 10 → RmOk d mL R) (hs : ls.size = nL) (hn : As.length = n) (hst : st = As.reverse ++ .ref (t 0) :: rest) (hrest : (rest.map fun v => v.category).sum ≤ 8) (hc : cells ≤ R.cells) (hc2 : slots ≤ R.slots) (hdg : decode cc pc = .ok (.invokevirtual ix, 3))
    (k9 : ∀ (g' : Nat → Int32) (H1 : Heap) (locs1 : List Loc), va_P D vwCl (TW cI cJ t f' g' h' τ' ++ Y) H1 → va_D A (TW cI cJ t f' g' h' τ' ++ Y) → va_S A s.heap H1 locs1 → W p l e R s m args below meth c H1 locs1 cells slots Q (F0 m (pc + 3) ls (r :: rest))) : W p l e R s m args below meth c H locs cells slots Q (F0 m pc ls st) := by
  obtain ⟨d, hd, hM⟩ := hM
  rcases hM with ⟨g', hM⟩ | hM | ⟨g', hM⟩ | ⟨g', hM⟩
  · exact WR.callV (w1 := TW cI cJ t f' g' h' τ' ++ Y) S L hM hK hP hD hS hA [] Y rfl rfl TW_fst rfl (hR d hd) hs hn hst hrest hc hc2 hdg (k9 g')
  · exact WE.callV (w1 := fun g' => TW cI cJ t f' g' h' τ' ++ Y) S L hM hK hP hD hS hA [] Y rfl (fun _ => rfl) (fun _ => TW_fst) rfl (hR d hd) hs hn hst hrest hc hc2 hdg k9
  · exact WZ.callV 0 (w1 := TW cI cJ t f' g' h' τ' ++ Y) hZ.1 S L hM hK hP hD hS hA [] Y rfl rfl TW_fst rfl (hR d hd) hs hn hst hrest hc hc2 hdg (k9 g')
  · exact WY.callV 0 (w1 := TW cI cJ t f' g' h' τ' ++ Y) hZ S L hM hK hP hD hS hA [] Y rfl rfl TW_fst rfl (hR d hd) hs hn hst hrest hc hc2 hdg (k9 g')
theorem V4.call (S : CallFix p m c cc nL s args lwU own) (L : LkV own ix y cy mL rt n 4) (hM : V4 l D cI cJ a y cy mL rt f σ As r f' σ') (hK : KK D cI cJ s) (hP : va_P D vwCl (X ++ MW cI a f σ) H) (hD : va_D A (X ++ MW cI a f σ)) (hS : va_S A s.heap H locs) (hA : ∀ q : Nat, s.heap.size ≤ q → A q) (hR : ∀ d, d ≤ 10 → RmOk d mL R) (hs : ls.size = nL) (hn : As.length = n) (hst : st = As.reverse ++ .ref (a 0) :: rest) (hrest : (rest.map fun v => v.category).sum ≤ 8) (hc : cells ≤ R.cells) (hc2 : slots ≤ R.slots) (hdg : decode cc pc = .ok (.invokevirtual ix, 3))
    (k9 : ∀ (H1 : Heap) (locs1 : List Loc), va_P D vwCl (X ++ MW cI a f' σ') H1 → va_D A (X ++ MW cI a f' σ') → va_S A s.heap H1 locs1 → W p l e R s m args below meth c H1 locs1 cells slots Q (F0 m (pc + 3) ls (r :: rest))) : W p l e R s m args below meth c H locs cells slots Q (F0 m pc ls st) := by
  obtain ⟨d, hd, hM⟩ := hM
  exact WR.callV (w1 := X ++ MW cI a f' σ') S L hM hK hP hD hS hA X [] (by rw [List.append_nil]) (by rw [List.append_nil]) MW_fst rfl (hR d hd) hs hn hst hrest hc hc2 hdg k9
end LawCalls

/-! what the start gives -/
def fl0 : List Cond := flatC (Jvm.Cond.and given_1 narrow_1)
theorem tb_in {w : Cond} (i : Nat) (h : tables_1[i]? = some w) : w ∈ lw_tbl := List.mem_append_right _ (List.mem_of_getElem? h)
theorem st_KK {s : State} {args : Array Value} (ht : ∀ w ∈ lwU, w.before args s = true) (ho : va_AOA .int s) : ∃ (D : va_G) (cI cJ : ClassId), KK D cI cJ s := by
  obtain ⟨c0, i0, h0⟩ := u_known ht mD_X0 (ht _ mM_X0)
  obtain ⟨c1, i1, h1⟩ := u_known ht mD_X1 (ht _ mM_X1)
  obtain ⟨c2, i2, h2⟩ := u_known ht mD_X2 (ht _ mM_X2)
  obtain ⟨c3, i3, h3⟩ := u_known ht mD_X3 (ht _ mM_X3)
  obtain ⟨c4, i4, h4⟩ := u_known ht mD_X4 (ht _ mM_X4)
  obtain ⟨cI, kI, cm, f1, f2, f3⟩ := Cond.arrayClass_spec (ht _ mA_int)
  obtain ⟨cq, cJ, kJ, -, -, g2, g3, g4⟩ := Jvm.Stand.arrayOver_specB ho
  refine ⟨(fun c => if c = 0 then c0 else if c = 1 then c1 else if c = 2 then c2 else if c = 3 then c3 else c4, fun c => if c = 0 then i0 else if c = 1 then i1 else if c = 2 then i2 else if c = 3 then i3 else i4), cI, cJ, fun c q hq => ?_, fun k q hq => ?_⟩
  · match c, hq with
    | 0, hq => cases hq; exact h0
    | 1, hq => cases hq; exact h1
    | 2, hq => cases hq; exact h2
    | 3, hq => cases hq; exact h3
    | 4, hq => cases hq; exact h4
    | c + 5, hq => cases hq
  · match k, hq with
    | 0, hq => cases hq; exact ⟨fun n z => ⟨fun k h => (by cases h), kI, f2, cm, f3⟩, f1⟩
    | 1, hq => cases hq; exact ⟨fun n z => ⟨fun k h => (by cases h), kJ, g2, cq, g3⟩, g4⟩
    | k + 2, hq => cases hq
theorem mo_el : ∀ j, j < 7 → Cond.eq (.elem (.static "ThunderCasks" "MOST_OF_MARK" "[I") (.int (Int32.ofNat j))) (.int (mst j)) ∈ fl0 := by decide +kernel
theorem ka_el : ∀ j, j < 7 → Cond.eq (.elem (.static "ThunderCasks" "KIND_ABOVE" "[I") (.int (Int32.ofNat j))) (.int (kab j)) ∈ fl0 := by decide +kernel
theorem st_SZ {s : State} {args : Array Value} {A : Nat → Prop} (ht : ∀ w ∈ lw_tbl, w.before args s = true) (hf : ∀ w ∈ fl0, w.before args s = true) (hA : ∀ a : Nat, a < s.heap.size → ¬ A a) : ∃ mt ka, SZ mt ka A s s.heap := by
  obtain ⟨mt, e1, h1⟩ := va_Tof (tm := .static "ThunderCasks" "MOST_OF_MARK" "[I") (ty := .int) (N := 7) (f := fun j => .int (mst j)) (A := A) (by decide) (hf _ (by decide +kernel)) (va_eqt (hf _ (by decide +kernel))) (fun j hj => va_eqt (hf _ (mo_el j hj))) hA
  obtain ⟨ka, e2, h2⟩ := va_Tof (tm := .static "ThunderCasks" "KIND_ABOVE" "[I") (ty := .int) (N := 7) (f := fun j => .int (kab j)) (A := A) (by decide) (hf _ (by decide +kernel)) (va_eqt (hf _ (by decide +kernel))) (fun j hj => va_eqt (hf _ (ka_el j hj))) hA
  exact ⟨mt, ka, va_Zof (ht _ (tb_in 234 (by decide +kernel))) (ht _ (lwU_in mN_X3)) e1 hA, h1, va_Zof (ht _ (tb_in 594 (by decide +kernel))) (ht _ (lwU_in mN_X3)) e2 hA, h2⟩
def tmT (i : Nat) : Term := .string RX2 (ixT.getD i 0)
def ppT : List Nat := [494, 555, 571, 578, 579, 580, 563, 564, 565, 566, 567, 568, 569]
theorem sr_in : ∀ i, i < 13 → tables_1[ppT.getD i 0]? = some (Cond.stringRef RX2 (ixT.getD i 0) (txT.getD i "")) := by decide +kernel
theorem sq_ex : ∀ i, i < 13 → Cond.exactly (tmT i) "java/lang/String" ∈ fl0 := by decide +kernel
theorem sq_co : ∀ i, i < 13 → Cond.eq (.field (tmT i) "java/lang/String" "coder" "B") (.int 0) ∈ fl0 := by decide +kernel
theorem sq_ar : ∀ i, i < 13 → Cond.arrayOf (.field (tmT i) "java/lang/String" "value" "[B") .byte ∈ fl0 := by decide +kernel
theorem sq_le : ∀ i, i < 13 → Cond.eq (.length (.field (tmT i) "java/lang/String" "value" "[B")) (.int (Int32.ofNat (lenT.getD i 0))) ∈ fl0 := by decide +kernel
theorem sq_el : ∀ i, i < 13 → ∀ j, j < lenT.getD i 0 → Cond.eq (.elem (.field (tmT i) "java/lang/String" "value" "[B") (.int (Int32.ofNat j))) (.int ((bytT.getD i []).getD j 0)) ∈ fl0 := by decide +kernel
def neM : List (List Nat) := [[0, 47, 150, 167, 186, 206, 57, 67, 80, 92, 105, 121, 136], [0, 0, 151, 168, 187, 207, 58, 68, 81, 93, 106, 122, 137], [0, 0, 0, 176, 195, 215, 0, 0, 0, 0, 0, 0, 0], [0, 0, 0, 0, 196, 216, 0, 0, 0, 0, 0, 0, 0], [0, 0, 0, 0, 0, 217, 0, 0, 0, 0, 0, 0, 0], [0, 0, 0, 0, 0, 0, 0, 0, 0, 0, 0, 0, 0], [0, 0, 152, 169, 188, 208, 0, 69, 82, 94, 107, 123, 138], [0, 0, 153, 170, 189, 209, 0, 0, 83, 95, 108, 124, 139], [0, 0, 154, 171, 190, 210, 0, 0, 0, 96, 109, 125, 140], [0, 0, 155, 172, 191, 211, 0, 0, 0, 0, 110, 126, 141], [0, 0, 156, 173, 192, 212, 0, 0, 0, 0, 0, 127, 142], [0, 0, 157, 174, 193, 213, 0, 0, 0, 0, 0, 0, 143], [0, 0, 158, 175, 194, 214, 0, 0, 0, 0, 0, 0, 0]]
theorem sq_nm : ∀ i, i < 13 → ∀ j, j < 13 → i ≠ j → fl0[(neM.getD i []).getD j 0]? = some (Cond.not (Cond.eq (tmT i) (tmT j))) ∨ fl0[(neM.getD j []).getD i 0]? = some (Cond.not (Cond.eq (tmT j) (tmT i))) := by decide +kernel
theorem sq_ne (i : Nat) (hi : i < 13) (j : Nat) (hj : j < 13) (hij : i ≠ j) : Cond.not (Cond.eq (tmT i) (tmT j)) ∈ fl0 ∨ Cond.not (Cond.eq (tmT j) (tmT i)) ∈ fl0 := (sq_nm i hi j hj hij).imp List.mem_of_getElem? List.mem_of_getElem?
theorem st_SY {s : State} {args : Array Value} {A : Nat → Prop} (ht : ∀ w ∈ lw_tbl, w.before args s = true) (hf : ∀ w ∈ fl0, w.before args s = true) (hA : ∀ a : Nat, a < s.heap.size → ¬ A a) : ∃ kk vv, SY kk vv A s s.heap := by
  obtain ⟨kk, vv, h1, h2⟩ := vk_Sof (N := 13) (tm := tmT) (len := lenT) (byt := bytT) (A := A) (args := args) (s := s) (fun i hi => Nat.lt_trans (lenT_lt i hi) (by decide)) (fun i hi => hf _ (sq_ex i hi)) (fun i hi => hf _ (sq_co i hi)) (fun i hi => hf _ (sq_ar i hi)) (fun i hi => hf _ (sq_le i hi)) (fun i hi j hj => hf _ (sq_el i hi j hj)) (fun i j hi hj hij => (sq_ne i hi j hj hij).imp (hf _) (hf _)) hA
  refine ⟨kk, vv, h1, va_Zof (ht _ (tb_in 508 (by decide +kernel))) (ht _ (lwU_in mN_J0)) (va_eqt (hf _ (by decide +kernel))) hA, va_Zqof (ht _ (tb_in 524 (by decide +kernel))) (ht _ (lwU_in mN_J3)) (hf _ (by decide +kernel)) hA, fun i hi => vk_R.of (ht _ (tb_in _ (sr_in i hi))) (h2 i hi), ?_⟩
  exact va_Nw.of rfl (ht wNst (tb_in 576 (by decide +kernel)))
theorem st_EC {s : State} {args : Array Value} (ht : ∀ w ∈ lw_tbl, w.before args s = true) : EC s := by
  refine ⟨va_Nw.of rfl (ht n28 (tb_in 87 (by decide +kernel))), va_Nw.of rfl (ht n35 (tb_in 113 (by decide +kernel))), ?_⟩
  exact Jvm.Stand.arrayOver_alikeB (Vm.Alike.refl s.vm) (ht (.arrayOver (.array .int)) (tb_in 118 (by decide +kernel)))

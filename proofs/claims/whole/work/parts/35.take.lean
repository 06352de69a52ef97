/-! FOR DEVELOPMENT ONLY: the proofs lie in wip/whole/later/40.take -/
theorem c_X0_takeFrom_2_1 (l : Launch) (D : va_G) (cI cJ : ClassId) (o1 o2 o3 : Nat → Nat) (f1 f2 f3 : Nat → Int32) : WR l yX0_takeFrom cX0_takeFrom 3 none 1 D cI cJ (PW cI o1 f1 ++ (PW cI o2 f2 ++ PW cI o3 f3)) [.ref (o2 0), .ref (o1 0)] (none) (PW cI o1 f1 ++ (PW cI o2 f1 ++ PW cI o3 f3)) := by
  sorry
theorem c_X0_takeFrom_3_1 (l : Launch) (D : va_G) (cI cJ : ClassId) (o1 o2 o3 : Nat → Nat) (f1 f2 f3 : Nat → Int32) : WR l yX0_takeFrom cX0_takeFrom 3 none 1 D cI cJ (PW cI o1 f1 ++ (PW cI o2 f2 ++ PW cI o3 f3)) [.ref (o3 0), .ref (o1 0)] (none) (PW cI o1 f1 ++ (PW cI o2 f2 ++ PW cI o3 f1)) := by
  sorry
theorem c_X0_takeFrom_1_2 (l : Launch) (D : va_G) (cI cJ : ClassId) (o1 o2 o3 : Nat → Nat) (f1 f2 f3 : Nat → Int32) : WR l yX0_takeFrom cX0_takeFrom 3 none 1 D cI cJ (PW cI o1 f1 ++ (PW cI o2 f2 ++ PW cI o3 f3)) [.ref (o1 0), .ref (o2 0)] (none) (PW cI o1 f2 ++ (PW cI o2 f2 ++ PW cI o3 f3)) := by
  sorry
theorem c_X0_takeFrom_1_3 (l : Launch) (D : va_G) (cI cJ : ClassId) (o1 o2 o3 : Nat → Nat) (f1 f2 f3 : Nat → Int32) : WR l yX0_takeFrom cX0_takeFrom 3 none 1 D cI cJ (PW cI o1 f1 ++ (PW cI o2 f2 ++ PW cI o3 f3)) [.ref (o1 0), .ref (o3 0)] (none) (PW cI o1 f3 ++ (PW cI o2 f2 ++ PW cI o3 f3)) := by
  sorry

def a_m0 : aM := (fun _ => (99, 0), fun _ _ => 0, fun _ _ => 0, fun _ _ => none, 0, 0)
theorem pure_law (L : Nat) (hL : L ≤ 2560) (xs : Nat → Int32) : ∃ m9 : aM, bL_law L xs (fun _ _ => none) [.retAddr 1, a_jk, a_jk, a_jk] a_m0 = some (some (.int 1), m9) ∧ mN m9 ≤ 636029 ∧ mS m9 ≤ 7194160 := sorry

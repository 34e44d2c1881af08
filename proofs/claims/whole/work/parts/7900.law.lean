def fuelN : Nat := 1000
theorem pure_law {L : Nat} {xs : Nat → Int32} (hL : L ≤ 2560) (u_2 : Nat → Nat) : f_JoinOrderLaw_law fuelN L xs u_2 = some (1 : Int32) := by
  sorry

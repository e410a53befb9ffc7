/-! the pure statement that is left: the law's table, run from its entry, never comes to an answer but true -/
def S00 : M9 := (fun _ _ _ => 0, fun _ _ _ => none, fun _ _ => 0, fun _ _ => 0, fun _ => 0, fun _ => 0, [], 0, 0)
theorem pure_law {b L : Nat} {xs : Nat → Int32} (hL : L ≤ 3072) (ks : Nat → Nat) : Run ks (WG ks 100) (fun _ _ => True) (tbL b L xs) 0 (entL [.ref b] 10) [] S00 := by
  sorry

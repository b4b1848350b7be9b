theorem law_ok {xs : Nat → Int32} {L : Nat} (hL : L ≤ 4096) (T : Nat) : wp_law xs L T := by
  sorry

theorem whole_pure (L : Nat) (hL : L ≤ 384) (xs : Nat → Int32) (S : q_S) (h : q_P0 S) : wm_L_law L xs S := by
  sorry

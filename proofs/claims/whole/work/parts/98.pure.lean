/-! The law, purely. -/
theorem whole_pure (L : Nat) (hL : L ≤ 384) (xs : Nat → Int32) (S : q_S) (h : q_P0 S) : wm_L_law L xs S :=
  l_start h (fun T L' m ad fo st out lb cz er k n ne => l_first hL (fun _ _ _ _ _ _ => l_load) (fun _ _ _ _ _ _ => l_input) T L' m ad fo st out lb cz er k n ne)

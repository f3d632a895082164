theorem law_true {L : Nat} {f : Nat → Int32} (hL : L ≤ 2560) : ∃ X' M' : gS, pw (some (L, f)) 8 119 0 [some (.ref 0), none, none, none] [] [] (some (.int 1), gE X' M') :=
  law_all hL Rl_0 (fun _ _ _ h hi => s_all hL h hi)

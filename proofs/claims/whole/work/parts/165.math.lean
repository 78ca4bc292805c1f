theorem whole_math (xs : Nat → Int32) (L : Nat) (hL : L ≤ 3072) : ∃ P', l_La_law_18 xs L FU (0 : Int32) (PF_Mo_init (PF_Yr_init (fun _ _ => 0, fun _ _ => 0))) = some (1, P') := sorry

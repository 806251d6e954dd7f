theorem pure_law {L : Nat} {xs : Nat → Int32} (hL : L ≤ 320) : pK 40 166 (fun r _ => r = some (.inl 1)) 0 [some (.inr (.inr (11, 0))), none, none, none] [] (m0 L xs) (205, 2800) := sorry

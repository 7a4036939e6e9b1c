theorem law_body {Ln : Nat} {xs : Int → Int} (hN : Ln ≤ 2560) (hxs : ∀ j, ab_r (xs j)) (V : ab_J) (hV : ab_Cl cL_law RL 4 room_1 true 0 false (some (Ln, xs)) ret (fun r _ => r = some (.inl 1)) 65 3132 V) : V 0 [some (.inr (some 3000)), none, none, none] [] [] 0 0 := by
  sorry

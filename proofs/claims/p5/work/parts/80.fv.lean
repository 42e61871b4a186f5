def fv_ (kd j : Nat) : Int32 := if kd = 10 ∧ j = 8 then 102 else if kd = 2 ∧ (j = 1 ∨ j = 2) then -1 else if kd = 12 ∧ (j = 32 ∨ j = 33) then -1 else 0

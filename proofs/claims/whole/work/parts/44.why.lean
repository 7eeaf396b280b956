def eWhy (sp : Int → Bool) (tv nb : Int → Int) (v : Int) : Nat → Int
  | 0 => -9
  | n + 1 => if sp n = true ∧ tv n = v ∧ (eWhy sp tv nb v n = -9 ∨ nb n < eWhy sp tv nb v n) then nb n else eWhy sp tv nb v n

/-! ===== a DUTY over the RULES ===== -/
def eFold (lo : Bool) (sp : Int → Bool) (tv : Int → Int) (v0 : Int) : Nat → Int
  | 0 => v0
  | n + 1 => if sp n = true then (if lo = true then min (eFold lo sp tv v0 n) (tv n) else max (eFold lo sp tv v0 n) (tv n)) else eFold lo sp tv v0 n

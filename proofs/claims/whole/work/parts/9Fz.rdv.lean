/-- hours of a road at the start -/
def rdV (k : Int) : Int := if k / 9 = k % 9 then 0 else 10
theorem rdV_y {k a b : Int} (h : k = a * 9 + b) (hb : 0 ≤ b ∧ b < 9) (e : a = b) : rdV k = 0 := by unfold rdV; rw [if_pos (by omega)]
theorem rdV_n {k a b : Int} (h : k = a * 9 + b) (hb : 0 ≤ b ∧ b < 9) (e : ¬ a = b) : rdV k = 10 := by unfold rdV; rw [if_neg (by omega)]

/-! ===== the table, the lost time ===== -/
def zP (f : Int → Int) : Nat → Int
  | 0 => 0
  | n + 1 => zP f n + f n
theorem zP_s {f : Int → Int} {k : Int} (h : 0 ≤ k) : zP f (k + 1).toNat = zP f k.toNat + f k := by
  rw [toNat_s h]
  show zP f k.toNat + f ((k.toNat : Nat) : Int) = _
  rw [toNat_c h]
def zV (m : Int) : Nat → Int → Int
  | 0, k => if k = 0 then 1 else 0
  | d + 1, k => zP (zV m d) (k + 1).toNat - zP (zV m d) (k - m).toNat
theorem zV_in {m : Int} {d : Nat} {k x y : Int} (h0 : 0 ≤ k) (hy : y = zP (zV m d) k.toNat - zP (zV m d) (k - 1 - m).toNat) (hx : (0 ≤ k - m - 1 ∧ x = y + zV m d k - zV m d (k - m - 1)) ∨ (k - m - 1 < 0 ∧ x = y + zV m d k)) : x = zV m (d + 1) k := by
  show x = zP (zV m d) (k + 1).toNat - zP (zV m d) (k - m).toNat
  rw [zP_s h0]
  rcases hx with ⟨a, b⟩ | ⟨a, b⟩
  · have e : zP (zV m d) (k - m).toNat = zP (zV m d) (k - m - 1).toNat + zV m d (k - m - 1) := by
      rw [← zP_s a, show k - m - 1 + 1 = k - m by omega]
    rw [show k - 1 - m = k - m - 1 by omega] at hy
    omega
  · rw [show (k - 1 - m).toNat = 0 by omega] at hy
    rw [show (k - m).toNat = 0 by omega]
    omega
theorem zV_to {m : Int} {d : Nat} {k x : Int} (hx : x = zV m (d + 1) k) (h0 : 0 ≤ k) : x = zP (zV m d) (k + 1).toNat - zP (zV m d) (k + 1 - 1 - m).toNat := by
  rw [hx, show k + 1 - 1 - m = k - m by omega]
  rfl
theorem a_ways {p q : Int} (h : (p = 34 ∧ q = 35) ∨ (p = 35 ∧ q = 34)) : jar shJ p 1 135 ∧ jar shJ q 1 135 := by
  rcases h with ⟨rfl, rfl⟩ | ⟨rfl, rfl⟩
  · exact ⟨a_34, a_35⟩
  · exact ⟨a_35, a_34⟩

/-! ===== a byte of what is typed ===== -/
def tyC (v k : Int) : Int := jw8 (jw32 (jlushr v (8 * k)))
def tyR (v k : Int) : Int := jw32 (jland (jlshr v (8 * k)) 255)
theorem ty_bm (x : Int) : (x.bmod (2 ^ 8)) % 256 = x % 256 ∧ -128 ≤ x.bmod (2 ^ 8) ∧ x.bmod (2 ^ 8) ≤ 127 := by
  rw [Int.bmod_def]; omega
theorem ty_bm32 (x : Int) : (x.bmod (2 ^ 32)) % 256 = x % 256 := by
  rw [Int.bmod_def]; omega
theorem ty_bm64 (x : Int) : (x.bmod (2 ^ 64)) % 256 = x % 256 := by
  rw [Int.bmod_def]; omega
theorem ty_u (x : Int64) (u : UInt64) (n : Nat) (hU : u.toNat = n) (hn : n < 64) : ((x.toUInt64 >>> u).toInt64).toBitVec.toNat = x.toBitVec.toNat / 2 ^ n := by
  simp only [UInt64.toBitVec_toInt64, UInt64.toBitVec_shiftRight, Int64.toBitVec_toUInt64]
  simp [BitVec.toNat_ushiftRight, Nat.shiftRight_eq_div_pow, hU, Nat.mod_eq_of_lt hn]
theorem ty_key (v y : Int) (n : Nat) (hU : ((Int32.ofInt y).toInt64.toUInt64 &&& Int64.toUInt64 63).toNat = n) (hI : (((Int32.ofInt y).toInt64 &&& 63).toBitVec.smod 64).toNat = n) (hn : n < 64) :
    ∃ A : Nat, A < 18446744073709551616 ∧ (jw8 (jw32 (jlushr v y))) % 256 = ((A / 2 ^ n : Nat) : Int) % 256 ∧ (-128 ≤ jw8 (jw32 (jlushr v y)) ∧ jw8 (jw32 (jlushr v y)) ≤ 127) ∧
      ∃ z : Int, (z = (A : Int) ∨ z = (A : Int) - 18446744073709551616) ∧ jw32 (jland (jlshr v y) 255) = (z / 2 ^ n) % 256 := by
  refine ⟨(Int64.ofInt v).toBitVec.toNat, (Int64.ofInt v).toBitVec.isLt, ?_, ?_, (Int64.ofInt v).toInt, ?_, ?_⟩
  · have e2 : (((Int64.ofInt v).toUInt64 >>> ((Int32.ofInt y).toInt64.toUInt64 &&& Int64.toUInt64 63)).toInt64).toBitVec.toNat = (Int64.ofInt v).toBitVec.toNat / 2 ^ n := by
      exact ty_u _ _ n hU hn
    have e3 : jlushr v y = Int.bmod (((Int64.ofInt v).toBitVec.toNat / 2 ^ n : Nat) : Int) (2 ^ 64) := by
      rw [← e2]
      exact BitVec.toInt_eq_toNat_bmod _
    unfold jw8 jw32
    rw [lg_i2b_toInt, jo_to, (ty_bm _).1, Int32.toInt_ofInt, e3]
    exact (ty_bm32 _).trans (ty_bm64 _)
  · unfold jw8
    rw [lg_i2b_toInt]
    exact (ty_bm _).2
  · have e : (Int64.ofInt v).toInt = Int.bmod (((Int64.ofInt v).toBitVec.toNat : Nat) : Int) (2 ^ 64) := BitVec.toInt_eq_toNat_bmod _
    have := (Int64.ofInt v).toBitVec.isLt
    rw [Int.bmod_def] at e
    omega
  · have e1 : jlshr v y = (Int64.ofInt v).toInt / 2 ^ n := Jvm.Kit.i64_shr _ _ hI
    have e2 : jland (jlshr v y) 255 = ((Int64.ofInt v).toInt / 2 ^ n) % 256 := by
      rw [← e1]
      unfold jland
      have e3 : (Int64.ofInt (jlshr v y) &&& Int64.ofInt 255).toInt = (Int64.ofInt (jlshr v y)).toInt % 2 ^ 8 := Jvm.Kit.i64_mask _ _ (by decide) (by decide)
      rw [e3]
      unfold jlshr
      rw [jo_toL]
      rfl
    rw [e2]
    exact jt_of ⟨by omega, by omega⟩
theorem ty_eq {v k : Int} (h : 0 ≤ k ∧ k ≤ 7) : (tyC v k % 256 = tyR v k) ∧ (0 ≤ tyR v k ∧ tyR v k ≤ 255) ∧ -128 ≤ tyC v k ∧ tyC v k ≤ 127 := by
  unfold tyC tyR
  rcases (show k = 0 ∨ k = 1 ∨ k = 2 ∨ k = 3 ∨ k = 4 ∨ k = 5 ∨ k = 6 ∨ k = 7 by omega) with rfl | rfl | rfl | rfl | rfl | rfl | rfl | rfl
  · obtain ⟨A, h1, h2, h3, z, h4, h5⟩ := ty_key v (8 * 0) 0 (by decide) (by decide) (by decide)
    rw [h2, h5]; refine ⟨?_, ?_, h3⟩ <;> omega
  · obtain ⟨A, h1, h2, h3, z, h4, h5⟩ := ty_key v (8 * 1) 8 (by decide) (by decide) (by decide)
    rw [h2, h5]; refine ⟨?_, ?_, h3⟩ <;> omega
  · obtain ⟨A, h1, h2, h3, z, h4, h5⟩ := ty_key v (8 * 2) 16 (by decide) (by decide) (by decide)
    rw [h2, h5]; refine ⟨?_, ?_, h3⟩ <;> omega
  · obtain ⟨A, h1, h2, h3, z, h4, h5⟩ := ty_key v (8 * 3) 24 (by decide) (by decide) (by decide)
    rw [h2, h5]; refine ⟨?_, ?_, h3⟩ <;> omega
  · obtain ⟨A, h1, h2, h3, z, h4, h5⟩ := ty_key v (8 * 4) 32 (by decide) (by decide) (by decide)
    rw [h2, h5]; refine ⟨?_, ?_, h3⟩ <;> omega
  · obtain ⟨A, h1, h2, h3, z, h4, h5⟩ := ty_key v (8 * 5) 40 (by decide) (by decide) (by decide)
    rw [h2, h5]; refine ⟨?_, ?_, h3⟩ <;> omega
  · obtain ⟨A, h1, h2, h3, z, h4, h5⟩ := ty_key v (8 * 6) 48 (by decide) (by decide) (by decide)
    rw [h2, h5]; refine ⟨?_, ?_, h3⟩ <;> omega
  · obtain ⟨A, h1, h2, h3, z, h4, h5⟩ := ty_key v (8 * 7) 56 (by decide) (by decide) (by decide)
    rw [h2, h5]; refine ⟨?_, ?_, h3⟩ <;> omega
/-- the text behind n bytes more; g v k: byte k of v as it is kept -/
def tyF (g : Int → Int → Int) (t : Int → Int) (l v n : Int) : Int → Int := fun j => if l ≤ j ∧ j < l + n then g v (n - 1 - (j - l)) else t j
/-- n bytes are typed: text c, its length in ck lk -/
def tyA (g : Int → Int → Int) (c ck lk : Int) (M N : jM) (v n r : Int) : Prop := (900 < M ck lk + n ∧ r = -3 ∧ N = M) ∨ (M ck lk + n ≤ 900 ∧ r = M ck lk + n ∧ N ck lk = M ck lk + n ∧ (∀ j, N c j = tyF g (M c) (M ck lk) v n j) ∧ ∀ x, x ≠ ck → x ≠ c → N x = M x)

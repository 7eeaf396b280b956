/-! ===== bits of whole numbers ===== -/
def tb (x k : Int) : Bool := x.toNat.testBit k.toNat
abbrev jn (x : Int) : Prop := 0 ≤ x ∧ x < 2147483648
theorem jn_r {x : Int} (h : jn x) : jr x := ⟨by omega, by omega⟩
theorem bv_of {x : Int} (h : 0 ≤ x) : (Int32.ofInt x).toBitVec = BitVec.ofNat 32 x.toNat := by
  have : Int32.ofInt x = Int32.ofInt ((x.toNat : Nat) : Int) := by rw [Int.toNat_of_nonneg h]
  rw [this]
  show BitVec.ofInt 32 ((x.toNat : Nat) : Int) = _
  exact BitVec.ofInt_natCast ..
theorem bv_bit {x : Int} (h : jn x) {k : Nat} (hk : k < 32) : (Int32.ofInt x).toBitVec.getLsbD k = x.toNat.testBit k := by
  rw [bv_of h.1, BitVec.getLsbD_ofNat]
  simp [hk]
theorem bv_tn {y : Int32} (h : 0 ≤ y.toInt) : y.toInt.toNat = y.toBitVec.toNat := by
  have e : y.toInt = y.toBitVec.toInt := rfl
  rw [e] at h ⊢
  rw [BitVec.toInt_eq_toNat_cond] at h ⊢
  split at h
  · rw [if_pos (by assumption)]; omega
  · rename_i hc
    have := y.toBitVec.isLt
    omega
theorem bv_big {y : Int32} (h : y.toBitVec.getLsbD 31 = false) : 0 ≤ y.toInt ∧ y.toInt < 2147483648 := by
  have e : y.toInt = y.toBitVec.toInt := rfl
  have hm : y.toBitVec.msb = false := by rw [BitVec.msb_eq_getLsbD_last]; exact h
  rw [e, BitVec.toInt_eq_toNat_of_msb hm]
  have := BitVec.toNat_lt_of_msb_false hm
  omega
theorem tb_hi {x : Int} (h : jn x) {k : Int} (hk : 31 ≤ k) : tb x k = false := by
  unfold tb
  apply Nat.testBit_lt_two_pow
  have h1 : x.toNat < 2 ^ 31 := by omega
  exact Nat.lt_of_lt_of_le h1 (Nat.pow_le_pow_right (by omega) (by omega))
theorem tb_ext {x y : Int} (hx : 0 ≤ x) (hy : 0 ≤ y) (h : ∀ k : Nat, tb x k = tb y k) : x = y := by
  have : x.toNat = y.toNat := Nat.eq_of_testBit_eq (fun k => h k)
  omega
/-- from the machine's bits -/
theorem tb_of {y : Int32} (h : 0 ≤ y.toInt) (k : Nat) : tb y.toInt k = y.toBitVec.getLsbD k := by
  unfold tb
  rw [bv_tn h]
  rfl
theorem jand_in {x y : Int} (hx : jn x) (hy : jn y) : jn (jand x y) ∧ ∀ k : Nat, tb (jand x y) k = (tb x k && tb y k) := by
  have hb : (Int32.ofInt x &&& Int32.ofInt y).toBitVec.getLsbD 31 = false := by
    rw [Int32.toBitVec_and, BitVec.getLsbD_and, bv_bit hx (by decide)]
    have : x.toNat.testBit 31 = false := tb_hi hx (k := 31) (by omega)
    rw [this]; rfl
  have hn : jn (jand x y) := bv_big hb
  refine ⟨hn, fun k => ?_⟩
  by_cases hk : k < 32
  · rw [show jand x y = (Int32.ofInt x &&& Int32.ofInt y).toInt from rfl, tb_of (y := Int32.ofInt x &&& Int32.ofInt y) hn.1, Int32.toBitVec_and, BitVec.getLsbD_and, bv_bit hx hk, bv_bit hy hk]
    rfl
  · rw [tb_hi hn (k := k) (by omega), tb_hi hx (k := k) (by omega)]; rfl
theorem jor_in {x y : Int} (hx : jn x) (hy : jn y) : jn (jor x y) ∧ ∀ k : Nat, tb (jor x y) k = (tb x k || tb y k) := by
  have hb : (Int32.ofInt x ||| Int32.ofInt y).toBitVec.getLsbD 31 = false := by
    rw [Int32.toBitVec_or, BitVec.getLsbD_or, bv_bit hx (by decide), bv_bit hy (by decide)]
    have h1 : x.toNat.testBit 31 = false := tb_hi hx (k := 31) (by omega)
    have h2 : y.toNat.testBit 31 = false := tb_hi hy (k := 31) (by omega)
    rw [h1, h2]; rfl
  have hn : jn (jor x y) := bv_big hb
  refine ⟨hn, fun k => ?_⟩
  by_cases hk : k < 32
  · rw [show jor x y = (Int32.ofInt x ||| Int32.ofInt y).toInt from rfl, tb_of (y := Int32.ofInt x ||| Int32.ofInt y) hn.1, Int32.toBitVec_or, BitVec.getLsbD_or, bv_bit hx hk, bv_bit hy hk]
    rfl
  · rw [tb_hi hn (k := k) (by omega), tb_hi hx (k := k) (by omega), tb_hi hy (k := k) (by omega)]; rfl
/-- x & ~y -/
theorem jandn_in {x y : Int} (hx : jn x) (hy : jn y) : jn (jand x (jxor y (-1))) ∧ ∀ k : Nat, tb (jand x (jxor y (-1))) k = (tb x k && !tb y k) := by
  have e : jand x (jxor y (-1)) = (Int32.ofInt x &&& (Int32.ofInt y ^^^ Int32.ofInt (-1))).toInt := by
    unfold jand jxor
    rw [jo_to]
  have hall : ∀ k, k < 32 → (Int32.ofInt (-1)).toBitVec.getLsbD k = true := by decide +kernel
  have hb : (Int32.ofInt x &&& (Int32.ofInt y ^^^ Int32.ofInt (-1))).toBitVec.getLsbD 31 = false := by
    rw [Int32.toBitVec_and, BitVec.getLsbD_and, bv_bit hx (by decide)]
    have : x.toNat.testBit 31 = false := tb_hi hx (k := 31) (by omega)
    rw [this]; rfl
  have hn := bv_big hb
  rw [e]
  refine ⟨hn, fun k => ?_⟩
  by_cases hk : k < 32
  · rw [tb_of hn.1, Int32.toBitVec_and, BitVec.getLsbD_and, Int32.toBitVec_xor, BitVec.getLsbD_xor, bv_bit hx hk, bv_bit hy hk, hall k hk, Bool.xor_true]
    rfl
  · rw [tb_hi hn (by omega), tb_hi hx (by omega)]; rfl
theorem sh_cnt : ∀ k : Nat, k < 32 → ((Int32.ofInt (k : Int) &&& 31).toBitVec.smod 32).toNat = k := by decide +kernel
theorem jshr_in {x k : Int} (hx : jn x) (hk : 0 ≤ k ∧ k < 32) : jn (jshr x k) ∧ jshr x k = x / 2 ^ k.toNat := by
  have h1 := pk_shr (Int32.ofInt x) (Int32.ofInt k &&& 31) k.toNat (by
    have := sh_cnt k.toNat (by omega)
    rw [Int.toNat_of_nonneg hk.1] at this
    exact this)
  rw [jt_of (jn_r hx)] at h1
  have e : jshr x k = x / 2 ^ k.toNat := by
    show (Int32.ofInt x >>> (Int32.ofInt k &&& 31)).toInt = _
    rw [h1, Int.shiftRight_eq_div_pow]
    rfl
  have hp : (0 : Int) < 2 ^ k.toNat := Int.pow_pos (by decide)
  refine ⟨?_, e⟩
  rw [e]
  have a1 := Int.ediv_nonneg hx.1 (Int.le_of_lt hp)
  have a2 := Int.ediv_le_self (2 ^ k.toNat) hx.1
  exact ⟨a1, by omega⟩
/-- a bit as the programs ask it -/
theorem jbit {x k : Int} (hx : jn x) (hk : 0 ≤ k ∧ k < 32) : jand (jshr x k) 1 = if tb x k = true then 1 else 0 := by
  obtain ⟨h1, h2⟩ := jshr_in hx hk
  have h3 := jand_in h1 (show jn 1 by omega)
  have key : tb (jshr x k) 0 = tb x k := by
    unfold tb
    rw [h2]
    have : (x / 2 ^ k.toNat).toNat = x.toNat / 2 ^ k.toNat := by
      have hp : (0 : Int) < 2 ^ k.toNat := Int.pow_pos (by decide)
      apply Int.ofNat.inj
      show (((x / 2 ^ k.toNat).toNat : Nat) : Int) = ((x.toNat / 2 ^ k.toNat : Nat) : Int)
      rw [Int.toNat_of_nonneg (Int.ediv_nonneg hx.1 (Int.le_of_lt hp)), Int.natCast_ediv, Int.toNat_of_nonneg hx.1]
      simp
    rw [this, Nat.testBit_div_two_pow]
    simp
  have key2 : ∀ j : Nat, tb (jand (jshr x k) 1) j = (decide (j = 0) && tb x k) := by
    intro j
    rw [h3.2]
    by_cases hj : j = 0
    · subst hj
      have : tb 1 (0 : Nat) = true := by decide
      rw [this]
      simp only [Bool.and_true, decide_true, Bool.true_and]
      exact key
    · have : tb 1 (j : Int) = false := by
        unfold tb
        apply Nat.testBit_lt_two_pow
        show 1 < 2 ^ ((j : Int)).toNat
        exact Nat.one_lt_two_pow (by omega)
      rw [this]; simp [hj]
  by_cases hb : tb x k = true
  · rw [if_pos hb]
    apply tb_ext h3.1.1 (by omega)
    intro j
    rw [key2, hb]
    by_cases hj : j = 0
    · subst hj; decide
    · have : tb 1 (j : Int) = false := by
        unfold tb
        apply Nat.testBit_lt_two_pow
        show 1 < 2 ^ ((j : Int)).toNat
        exact Nat.one_lt_two_pow (by omega)
      rw [this]; simp [hj]
  · rw [if_neg hb]
    apply tb_ext h3.1.1 (by omega)
    intro j
    rw [key2]
    simp only [Bool.not_eq_true] at hb
    rw [hb]
    unfold tb
    simp
theorem jshl1 : ∀ k : Nat, k < 31 → jshl 1 k = ((2 ^ k : Nat) : Int) := by decide +kernel
theorem jshl1' {k : Int} (h : 0 ≤ k ∧ k < 31) : jshl 1 k = 2 ^ k.toNat := by
  have := jshl1 k.toNat (by omega)
  rw [Int.toNat_of_nonneg h.1] at this
  rw [this]
  simp
theorem tb_pow (k j : Nat) : tb ((2 ^ k : Nat) : Int) j = decide (k = j) := by
  unfold tb
  show (2 ^ k).testBit j = _
  rw [Nat.testBit_two_pow]

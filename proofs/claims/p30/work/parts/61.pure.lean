variable {sT : pd_S}
/-! bits over whole numbers -/
theorem bn_i32 (n : Nat) : (Int32.ofInt (n : Int)).toBitVec = BitVec.ofNat 32 n := by
  show BitVec.ofInt 32 (n : Int) = _
  exact BitVec.ofInt_natCast 32 n
theorem bn_i64 (n : Nat) : (Int64.ofInt (n : Int)).toBitVec = BitVec.ofNat 64 n := by
  show BitVec.ofInt 64 (n : Int) = _
  exact BitVec.ofInt_natCast 64 n
theorem bn_t32 {v : BitVec 32} (h : v.toNat < 2147483648) : v.toInt = (v.toNat : Int) := by
  rw [BitVec.toInt_eq_toNat_cond, if_pos (by omega)]
theorem bn_t64 {v : BitVec 64} (h : v.toNat < 9223372036854775808) : v.toInt = (v.toNat : Int) := by
  rw [BitVec.toInt_eq_toNat_cond, if_pos (by omega)]
theorem bn_or {a b : Nat} (ha : a < 2 ^ 31) (hb : b < 2 ^ 31) : pd_or a b = ((a ||| b : Nat) : Int) := by
  unfold pd_or
  have e : (Int32.ofInt (a : Int) ||| Int32.ofInt (b : Int)).toBitVec.toNat = a ||| b := by
    rw [Int32.toBitVec_or, BitVec.toNat_or, bn_i32, bn_i32, BitVec.toNat_ofNat, BitVec.toNat_ofNat, Nat.mod_eq_of_lt (by omega), Nat.mod_eq_of_lt (by omega)]
  have h := Nat.or_lt_two_pow ha hb
  show (Int32.ofInt (a : Int) ||| Int32.ofInt (b : Int)).toBitVec.toInt = _
  rw [bn_t32 (by omega), e]
theorem bn_and {a b : Nat} (ha : a < 2 ^ 31) (hb : b < 2 ^ 31) : pd_and a b = ((a &&& b : Nat) : Int) := by
  unfold pd_and
  have e : (Int32.ofInt (a : Int) &&& Int32.ofInt (b : Int)).toBitVec.toNat = a &&& b := by
    rw [Int32.toBitVec_and, BitVec.toNat_and, bn_i32, bn_i32, BitVec.toNat_ofNat, BitVec.toNat_ofNat, Nat.mod_eq_of_lt (by omega), Nat.mod_eq_of_lt (by omega)]
  have h := Nat.and_lt_two_pow a hb
  show (Int32.ofInt (a : Int) &&& Int32.ofInt (b : Int)).toBitVec.toInt = _
  rw [bn_t32 (by omega), e]
theorem bn_s32 : ∀ n, n < 32 → ((Int32.ofNat n &&& 31).toBitVec.smod 32).toNat = n := by decide +kernel
theorem bn_s32i (p : Nat) (hp : p < 32) : ((Int32.ofInt (p : Int) &&& 31).toBitVec.smod 32).toNat = p := by
  have e : Int32.ofInt (p : Int) = Int32.ofNat p := Int32.toBitVec_inj.mp (bn_i32 p)
  rw [e]; exact bn_s32 p hp
theorem bn_shl {p : Nat} (hp : p < 31) : pd_shl 1 p = ((2 ^ p : Nat) : Int) := by
  have : ∀ p : Nat, p < 31 → pd_shl 1 (p : Int) = ((2 ^ p : Nat) : Int) := by decide +kernel
  exact this p hp
theorem bn_shr {a p : Nat} (ha : a < 2 ^ 31) (hp : p < 32) : pd_shr a p = ((a / 2 ^ p : Nat) : Int) := by
  unfold pd_shr
  have hm : (BitVec.ofNat 32 a).msb = false := by
    rw [BitVec.msb_eq_decide, BitVec.toNat_ofNat, Nat.mod_eq_of_lt (by omega)]
    exact decide_eq_false (by omega)
  have e : (Int32.ofInt (a : Int) >>> (Int32.ofInt (p : Int) &&& 31)).toBitVec.toNat = a / 2 ^ p := by
    rw [Int32.toBitVec_shiftRight, BitVec.sshiftRight_eq', bn_s32i p hp, bn_i32, BitVec.toNat_sshiftRight_of_msb_false hm, BitVec.toNat_ofNat, Nat.mod_eq_of_lt (by omega), Nat.shiftRight_eq_div_pow]
  have h : a / 2 ^ p ≤ a := Nat.div_le_self _ _
  show (Int32.ofInt (a : Int) >>> (Int32.ofInt (p : Int) &&& 31)).toBitVec.toInt = _
  rw [bn_t32 (by omega), e]
/-- the bit p of x -/
def tb (x p : Int) : Prop := x.toNat.testBit p.toNat = true
theorem tb_holds {x p : Int} (hx : 0 ≤ x ∧ x < 4096) (hp : 0 ≤ p ∧ p < 31) : pd_and (pd_shr x p) 1 = 0 ↔ ¬ tb x p := by
  obtain ⟨a, rfl⟩ := Int.eq_ofNat_of_zero_le hx.1
  obtain ⟨q, rfl⟩ := Int.eq_ofNat_of_zero_le hp.1
  rw [bn_shr (by omega) (by omega), show (1 : Int) = ((1 : Nat) : Int) from rfl, bn_and (Nat.lt_of_le_of_lt (Nat.div_le_self _ _) (by omega)) (by decide)]
  unfold tb
  rw [Int.toNat_natCast, Int.toNat_natCast, Nat.testBit_eq_decide_div_mod_eq, Nat.and_one_is_mod, decide_eq_true_eq]
  generalize a / 2 ^ q = z
  omega
theorem tb_or {x y : Int} (hx : 0 ≤ x ∧ x < 4096) (hy : 0 ≤ y ∧ y < 4096) : (0 ≤ pd_or x y ∧ pd_or x y < 4096) ∧ ∀ p, tb (pd_or x y) p ↔ tb x p ∨ tb y p := by
  obtain ⟨a, rfl⟩ := Int.eq_ofNat_of_zero_le hx.1
  obtain ⟨b, rfl⟩ := Int.eq_ofNat_of_zero_le hy.1
  rw [bn_or (by omega) (by omega)]
  have h := Nat.or_lt_two_pow (n := 12) (x := a) (y := b) (by omega) (by omega)
  refine ⟨⟨by omega, by omega⟩, fun p => ?_⟩
  unfold tb
  rw [Int.toNat_natCast, Int.toNat_natCast, Int.toNat_natCast, Nat.testBit_or, Bool.or_eq_true]
theorem tb_one {p : Int} (hp : 0 ≤ p ∧ p < 12) : (0 ≤ pd_shl 1 p ∧ pd_shl 1 p < 4096) ∧ ∀ q, 0 ≤ q → (tb (pd_shl 1 p) q ↔ q = p) := by
  obtain ⟨a, rfl⟩ := Int.eq_ofNat_of_zero_le hp.1
  rw [bn_shl (by omega)]
  have h : 2 ^ a < 2 ^ 12 := Nat.pow_lt_pow_right (by decide) (by omega)
  have h2 : (((2 ^ a : Nat) : Int)).toNat = 2 ^ a := Int.toNat_natCast _
  refine ⟨?_, fun q hq => ?_⟩
  · generalize 2 ^ a = z at h
    omega
  obtain ⟨b, rfl⟩ := Int.eq_ofNat_of_zero_le hq
  unfold tb
  rw [h2, Int.toNat_natCast, Nat.testBit_two_pow, decide_eq_true_eq]
  omega
theorem tb_0 (p : Int) : ¬ tb 0 p := by unfold tb; simp
theorem tb_ext {x y : Int} (hx : 0 ≤ x ∧ x < 4096) (hy : 0 ≤ y ∧ y < 4096) (h : ∀ p, 0 ≤ p → p < 12 → (tb x p ↔ tb y p)) : x = y := by
  obtain ⟨a, rfl⟩ := Int.eq_ofNat_of_zero_le hx.1
  obtain ⟨b, rfl⟩ := Int.eq_ofNat_of_zero_le hy.1
  congr 1
  apply Nat.eq_of_testBit_eq
  intro i
  rcases Nat.lt_or_ge i 12 with hi | hi
  · have := h i (by omega) (by omega)
    unfold tb at this
    rw [Int.toNat_natCast, Int.toNat_natCast, Int.toNat_natCast] at this
    exact Bool.eq_iff_iff.mpr this
  · have h2 : 2 ^ 12 ≤ 2 ^ i := Nat.pow_le_pow_right (by decide) hi
    rw [Nat.testBit_lt_two_pow (by omega), Nat.testBit_lt_two_pow (by omega)]


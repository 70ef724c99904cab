variable {sT : pd_S}
/-! the reference: splits, marks, counts, the tape -/
section RM
variable {D : pd_F} {s : Int → Int} {F : pd_F}
/-- no mark stands twice among those left out -/
def dst (s : Int → Int) : Prop := ∀ i j, 0 ≤ i → i < s 110 → 0 ≤ j → j < s 110 → s (74 + i) = s (74 + j) → i = j
def mR (s s' : Int → Int) (m out : Int) : Prop := (∀ j, (j < 74 ∨ 110 < j) → s' j = s j) ∧ (0 ≤ s' 110 ∧ s' 110 ≤ 36) ∧ dst s' ∧ (∀ x, Ou s' x ↔ (if out ≠ 0 then Ou s x ∨ x = m else Ou s x ∧ x ≠ m)) ∧ s' 110 = s 110 + ci (Ou s' m) 1 0 - ci (Ou s m) 1 0
theorem aOk.mR {s' : Int → Int} {m out : Int} (h : aOk D s) (hb : bOk D) (k : mR s s' m out) : aOk D s' := by
  have n := hb.1.2.2.2.2.2.1
  refine ⟨fun a x y => ?_, ?_, k.2.1, ?_, ?_⟩
  · rw [k.1 a (by omega)]; exact h.1 a x y
  · rw [k.1 70 (by decide)]; exact h.2.1
  · rw [k.1 72 (by decide)]; exact h.2.2.2.1
  · rw [k.1 73 (by decide)]; exact h.2.2.2.2
def isMk (D : pd_F) (m : Int) : Prop := ∃ p, 0 ≤ p ∧ p < D 369 0 ∧ Hk (D 375) (D 376) p m
noncomputable def aCo (D : pd_F) (s : Int → Int) (u l w : Int) : Int := if w = 0 then D 369 0 else if w = 1 then D 370 0 else if w = 2 then D 371 0 else if w = 3 then D 372 0 else if w = 4 then D 373 0 else if w = 5 then s 71 else if w = 6 then s 72 else if w = 7 then s 73 else if w = 8 then s 70 else if w = 9 then s 110 else if w = 10 then u else if w = 11 then l else -1
theorem shr_ushr {v k : Int} (h : k = 0 ∨ k = 8 ∨ k = 16 ∨ k = 24) : pd_b (pd_b (pd_ushr v k)) = pd_b (pd_shr v k) := by
  have key : ∀ x y : Int, x % 256 = y % 256 → pd_b (pd_b x) = pd_b y := fun x y e => by unfold pd_b; omega
  apply key
  generalize hV : Int32.ofInt v = V
  have hN : V.toBitVec.toNat < 4294967296 := V.toBitVec.isLt
  have go : ∀ n : Nat, (n = 0 ∨ n = 8 ∨ n = 16 ∨ n = 24) → (V.toUInt32 >>> ((Int32.ofNat n).toUInt32 &&& Int32.toUInt32 31)).toInt32.toInt % 256 = (V >>> (Int32.ofNat n &&& 31)).toInt % 256 := by
    intro n hn
    have e1 : (V >>> (Int32.ofNat n &&& 31)).toInt = V.toBitVec.toInt / ((2 ^ n : Nat) : Int) := by
      show (V >>> (Int32.ofNat n &&& 31)).toBitVec.toInt = _
      rw [Int32.toBitVec_shiftRight, BitVec.sshiftRight_eq', bn_s32 n (by omega), BitVec.toInt_sshiftRight, Int.shiftRight_eq_div_pow]
    have eu : ∀ n, n < 32 → (((Int32.ofNat n).toUInt32 &&& Int32.toUInt32 31).toBitVec % 32).toNat = n := by decide +kernel
    have e2 : (V.toUInt32 >>> ((Int32.ofNat n).toUInt32 &&& Int32.toUInt32 31)).toInt32.toBitVec.toNat = V.toBitVec.toNat / 2 ^ n := by
      show (V.toUInt32 >>> ((Int32.ofNat n).toUInt32 &&& Int32.toUInt32 31)).toBitVec.toNat = _
      rw [UInt32.toBitVec_shiftRight, BitVec.ushiftRight_eq', BitVec.toNat_ushiftRight, eu n (by omega), Nat.shiftRight_eq_div_pow]
      rfl
    have e3 : (V.toUInt32 >>> ((Int32.ofNat n).toUInt32 &&& Int32.toUInt32 31)).toInt32.toInt = (V.toUInt32 >>> ((Int32.ofNat n).toUInt32 &&& Int32.toUInt32 31)).toInt32.toBitVec.toInt := rfl
    rw [e1, e3, BitVec.toInt_eq_toNat_cond, BitVec.toInt_eq_toNat_cond, e2]
    generalize V.toBitVec.toNat = N at hN
    rcases hn with rfl | rfl | rfl | rfl
    · rw [show 2 ^ 0 = 1 from rfl, Nat.div_one]; split <;> omega
    · rw [show 2 ^ 8 = 256 from rfl]; split <;> split <;> omega
    · rw [show 2 ^ 16 = 65536 from rfl]; split <;> split <;> omega
    · rw [show 2 ^ 24 = 16777216 from rfl]; split <;> split <;> omega
  unfold pd_ushr pd_shr
  rw [hV]
  rcases h with rfl | rfl | rfl | rfl
  · exact go 0 (by decide)
  · exact go 8 (by decide)
  · exact go 16 (by decide)
  · exact go 24 (by decide)
/-- four bytes behind l -/
def byR (g : Int → Int) (l v : Int) : Int → Int := fun j => if l ≤ j ∧ j < l + 4 then pd_b (pd_shr v (24 - 8 * (j - l))) else g j
end RM

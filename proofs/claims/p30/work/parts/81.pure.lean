variable {sT : pd_S}
/-! the class: ties out of marks and joins; bits of a long -/
theorem bn_Or {a b : Nat} (ha : a < 2 ^ 63) (hb : b < 2 ^ 63) : pd_Or a b = ((a ||| b : Nat) : Int) := by
  unfold pd_Or
  have e : (Int64.ofInt (a : Int) ||| Int64.ofInt (b : Int)).toBitVec.toNat = a ||| b := by
    rw [Int64.toBitVec_or, BitVec.toNat_or, bn_i64, bn_i64, BitVec.toNat_ofNat, BitVec.toNat_ofNat, Nat.mod_eq_of_lt (by omega), Nat.mod_eq_of_lt (by omega)]
  have h := Nat.or_lt_two_pow ha hb
  show (Int64.ofInt (a : Int) ||| Int64.ofInt (b : Int)).toBitVec.toInt = _
  rw [bn_t64 (by omega), e]
theorem bn_And {a b : Nat} (ha : a < 2 ^ 63) (hb : b < 2 ^ 63) : pd_And a b = ((a &&& b : Nat) : Int) := by
  unfold pd_And
  have e : (Int64.ofInt (a : Int) &&& Int64.ofInt (b : Int)).toBitVec.toNat = a &&& b := by
    rw [Int64.toBitVec_and, BitVec.toNat_and, bn_i64, bn_i64, BitVec.toNat_ofNat, BitVec.toNat_ofNat, Nat.mod_eq_of_lt (by omega), Nat.mod_eq_of_lt (by omega)]
  have h := Nat.and_lt_two_pow a hb
  show (Int64.ofInt (a : Int) &&& Int64.ofInt (b : Int)).toBitVec.toInt = _
  rw [bn_t64 (by omega), e]
theorem bn_Ushr {a p : Nat} (ha : a < 2 ^ 63) (hp : p < 64) : pd_Ushr a p = ((a / 2 ^ p : Nat) : Int) := by
  unfold pd_Ushr
  have hs : ∀ n, n < 64 → (((Int32.ofNat n).toInt64.toUInt64 &&& Int64.toUInt64 63).toBitVec % 64).toNat = n := by decide +kernel
  have es : (((Int32.ofInt (p : Int)).toInt64.toUInt64 &&& Int64.toUInt64 63).toBitVec % 64).toNat = p := by
    have e : Int32.ofInt (p : Int) = Int32.ofNat p := Int32.toBitVec_inj.mp (bn_i32 p)
    rw [e]; exact hs p hp
  have e : ((Int64.ofInt (a : Int)).toUInt64 >>> ((Int32.ofInt (p : Int)).toInt64.toUInt64 &&& Int64.toUInt64 63)).toInt64.toBitVec.toNat = a / 2 ^ p := by
    show ((Int64.ofInt (a : Int)).toUInt64 >>> ((Int32.ofInt (p : Int)).toInt64.toUInt64 &&& Int64.toUInt64 63)).toBitVec.toNat = _
    rw [UInt64.toBitVec_shiftRight, BitVec.ushiftRight_eq', BitVec.toNat_ushiftRight, es, Nat.shiftRight_eq_div_pow]
    have : (Int64.ofInt (a : Int)).toUInt64.toBitVec = (Int64.ofInt (a : Int)).toBitVec := rfl
    rw [this, bn_i64, BitVec.toNat_ofNat, Nat.mod_eq_of_lt (by omega)]
  have h : a / 2 ^ p ≤ a := Nat.div_le_self _ _
  show ((Int64.ofInt (a : Int)).toUInt64 >>> ((Int32.ofInt (p : Int)).toInt64.toUInt64 &&& Int64.toUInt64 63)).toInt64.toBitVec.toInt = _
  rw [bn_t64 (by omega), e]
/-- a set of marks, below 36 -/
def lR (x : Int) : Prop := 0 ≤ x ∧ x < 68719476736
theorem tB_holds {x p : Int} (hx : lR x) (hp : 0 ≤ p ∧ p < 36) : pd_And (pd_Ushr x p) 1 = 0 ↔ ¬ tb x p := by
  obtain ⟨a, rfl⟩ := Int.eq_ofNat_of_zero_le hx.1
  obtain ⟨q, rfl⟩ := Int.eq_ofNat_of_zero_le hp.1
  have hx2 := hx.2
  rw [bn_Ushr (by omega) (by omega), show (1 : Int) = ((1 : Nat) : Int) from rfl, bn_And (Nat.lt_of_le_of_lt (Nat.div_le_self _ _) (by omega)) (by decide)]
  unfold tb
  rw [Int.toNat_natCast, Int.toNat_natCast, Nat.testBit_eq_decide_div_mod_eq, Nat.and_one_is_mod, decide_eq_true_eq]
  generalize a / 2 ^ q = z
  omega
theorem bn_Shl1 {p : Nat} (hp : p < 36) : pd_Shl 1 p = ((2 ^ p : Nat) : Int) := by
  have : ∀ p : Nat, p < 36 → pd_Shl 1 (p : Int) = ((2 ^ p : Nat) : Int) := by decide +kernel
  exact this p hp
theorem tB_set {x p : Int} (hx : lR x) (hp : 0 ≤ p ∧ p < 36) : lR (pd_Or x (pd_Shl 1 p)) ∧ ∀ q, 0 ≤ q → (tb (pd_Or x (pd_Shl 1 p)) q ↔ tb x q ∨ q = p) := by
  obtain ⟨a, rfl⟩ := Int.eq_ofNat_of_zero_le hx.1
  obtain ⟨n, rfl⟩ := Int.eq_ofNat_of_zero_le hp.1
  have hx2 := hx.2
  have h : 2 ^ n < 2 ^ 36 := Nat.pow_lt_pow_right (by decide) (by omega)
  rw [bn_Shl1 (by omega), bn_Or (by omega) (by omega)]
  have h3 := Nat.or_lt_two_pow (n := 36) (x := a) (y := 2 ^ n) (by omega) h
  refine ⟨?_, fun q hq => ?_⟩
  · unfold lR
    generalize (a ||| 2 ^ n) = z at h3
    omega
  obtain ⟨b, rfl⟩ := Int.eq_ofNat_of_zero_le hq
  unfold tb
  rw [Int.toNat_natCast, Int.toNat_natCast, Int.toNat_natCast, Nat.testBit_or, Nat.testBit_two_pow, Bool.or_eq_true, decide_eq_true_eq]
  refine or_congr Iff.rfl ?_
  omega
theorem tB_clr {x p : Int} (hx : lR x) (hp : 0 ≤ p ∧ p < 36) : lR (pd_And x (pd_Xor (pd_Shl 1 p) (-1))) ∧ ∀ q, 0 ≤ q → (tb (pd_And x (pd_Xor (pd_Shl 1 p) (-1))) q ↔ tb x q ∧ q ≠ p) := by
  obtain ⟨a, rfl⟩ := Int.eq_ofNat_of_zero_le hx.1
  obtain ⟨n, rfl⟩ := Int.eq_ofNat_of_zero_le hp.1
  have hx2 := hx.2
  rw [bn_Shl1 (by omega)]
  have key : ∃ c : Nat, pd_And (a : Int) (pd_Xor ((2 ^ n : Nat) : Int) (-1)) = (c : Int) ∧ c ≤ a ∧ ∀ q, c.testBit q = (a.testBit q && !decide (n = q)) := by
    have hB : (Int64.ofInt (a : Int) &&& Int64.ofInt (pd_Xor ((2 ^ n : Nat) : Int) (-1))).toBitVec = BitVec.ofNat 64 a &&& ~~~ BitVec.ofNat 64 (2 ^ n) := by
      rw [Int64.toBitVec_and, bn_i64]
      congr 1
      unfold pd_Xor
      have : Int64.ofInt (Int64.ofInt ((2 ^ n : Nat) : Int) ^^^ Int64.ofInt (-1)).toInt = Int64.ofInt ((2 ^ n : Nat) : Int) ^^^ Int64.ofInt (-1) := Int64.ofInt_toInt _
      rw [this, Int64.toBitVec_xor, bn_i64]
      have h1 : (Int64.ofInt (-1)).toBitVec = BitVec.allOnes 64 := by decide
      rw [h1, BitVec.xor_allOnes]
    refine ⟨(BitVec.ofNat 64 a &&& ~~~ BitVec.ofNat 64 (2 ^ n)).toNat, ?_, ?_, fun q => ?_⟩
    · unfold pd_And
      show (Int64.ofInt (a : Int) &&& Int64.ofInt (pd_Xor ((2 ^ n : Nat) : Int) (-1))).toBitVec.toInt = _
      rw [hB]
      have hle : (BitVec.ofNat 64 a &&& ~~~ BitVec.ofNat 64 (2 ^ n)).toNat ≤ a := by
        rw [BitVec.toNat_and, BitVec.toNat_ofNat, Nat.mod_eq_of_lt (by omega)]
        exact Nat.and_le_left
      rw [bn_t64 (by omega)]
    · rw [BitVec.toNat_and, BitVec.toNat_ofNat, Nat.mod_eq_of_lt (by omega)]
      exact Nat.and_le_left
    · have hs : 2 ^ n < 2 ^ 64 := Nat.pow_lt_pow_right (by decide) (by omega)
      rw [BitVec.testBit_toNat, BitVec.getLsbD_and, BitVec.getLsbD_not, BitVec.getLsbD_ofNat, BitVec.getLsbD_ofNat, Nat.testBit_two_pow]
      by_cases hq : q < 64
      · rw [decide_eq_true hq]; simp
      · have h2 : 2 ^ 64 ≤ 2 ^ q := Nat.pow_le_pow_right (by decide) (by omega)
        rw [Nat.testBit_lt_two_pow (x := a) (by omega)]; simp
  obtain ⟨c, e, hc, hb⟩ := key
  rw [e]
  refine ⟨⟨by omega, by omega⟩, fun q hq => ?_⟩
  obtain ⟨b, rfl⟩ := Int.eq_ofNat_of_zero_le hq
  unfold tb
  rw [Int.toNat_natCast, Int.toNat_natCast, Int.toNat_natCast, hb b, Bool.and_eq_true]
  simp
  omega
section CR
variable {F : pd_F} {t b st np : Int}
/-- beside one another in the class: by a mark that counts, or a join -/
def cA (F : pd_F) (b st p q : Int) : Prop := p ≠ q ∧ ((∃ i, 0 ≤ i ∧ i < F b 14 ∧ ¬ tb (F st 5) i ∧ tb (F (b + 9) i) p ∧ tb (F (b + 9) i) q) ∨ ∃ k, 0 ≤ k ∧ k < F st 4 ∧ ((F (st + 3) k = p ∧ F (st + 4) k = q) ∨ (F (st + 3) k = q ∧ F (st + 4) k = p)))
theorem cA_sy (x y : Int) (h : cA F b st x y) : cA F b st y x := ⟨fun e => h.1 e.symm, h.2.elim (fun ⟨i, a, b, c, d, e⟩ => Or.inl ⟨i, a, b, c, e, d⟩) (fun ⟨k, a, b, c⟩ => Or.inr ⟨k, a, b, c.symm⟩)⟩
/-- what ties.reckon needs of book and state -/
def cOk (F : pd_F) (b st np : Int) : Prop := F b 9 = np ∧ (0 ≤ np ∧ np ≤ 12) ∧ (0 ≤ F b 14 ∧ F b 14 ≤ 36) ∧ (∀ i, 0 ≤ i → i < F b 14 → (0 ≤ F (b + 9) i ∧ F (b + 9) i < 4096) ∧ ∀ q, 0 ≤ q → tb (F (b + 9) i) q → q < np) ∧ (0 ≤ F st 4 ∧ F st 4 ≤ 31) ∧
  (∀ k, 0 ≤ k → k < F st 4 → (0 ≤ F (st + 3) k ∧ F (st + 3) k < np) ∧ 0 ≤ F (st + 4) k ∧ F (st + 4) k < np) ∧ lR (F st 5)
theorem c_isLeftOut {s : Int} (hL : pd_Ly F) (hs : aS s) {i : Int} (hi : 0 ≤ i ∧ i < 36) (hl : lR (F s 5)) : pfX8_isLeftOut (pd_SH sT) 5000 F s i = some (ci (tb (F s 5) i) 1 0, F) := by
  obtain ⟨s0, -⟩ := sh_s (sT := sT) hs
  unfold pfX8_isLeftOut
  simp only [pl_l, pl_b, pl_iT, pl_t, pl_f, pl_ob s0]
  rcases Classical.em (tb (F s 5) i) with k | k
  · rw [if_neg (fun h => (tB_holds hl hi).mp h k), ci_t k]
  · rw [if_pos ((tB_holds hl hi).mpr k), ci_f k]
theorem c_tiesReckon (hL : pd_Ly F) (ht : aT t) (hb : aB b) (hs : aS st) (ok : cOk F b st np) : ∃ F', pfX10_reckon (pd_SH sT) 5000 F t b st = some F' ∧ pd_Ly F' ∧ (∀ a, (a < t ∨ t + 3 < a) → F' a = F a) ∧ tP np (Cn np (cA F b st)) t F' ∧ nR (An np (cA F b st)) (F' (t + 1)) := by
  obtain ⟨s0, s1, s2, s3⟩ := sh_t (sT := sT) ht
  obtain ⟨u0, u1, u2, u3, u4⟩ := sh_s (sT := sT) hs
  obtain ⟨k0, k1, k2, k3, k4, k5, k6⟩ := ok
  have hbsh := sh_b (sT := sT) hb
  have w0 := hbsh.1
  have w9 := hbsh.2.2.2.2.2.2.2.2.2
  -- nothing of these lies in the ties
  have bt : ∀ a, (a = b ∨ a = b + 9 ∨ a = st ∨ (st ≤ a ∧ a ≤ st + 4)) → (a < t ∨ t + 3 < a) := by
    intro a ha
    rcases ht with rfl | rfl <;> rcases hb with rfl | rfl <;> rcases hs with rfl | rfl | ⟨j, j0, j1, rfl⟩ <;> omega
  have same : ∀ G : pd_F, (∀ a, (a < t ∨ t + 3 < a) → G a = F a) → cA G b st = cA F b st := fun G h => by
    funext p q
    unfold cA
    rw [h b (bt b (by omega)), h (b + 9) (bt _ (by omega)), h st (bt _ (by omega)), h (st + 3) (bt _ (by omega)), h (st + 4) (bt _ (by omega))]
  -- the end
  have l97 : ∀ (G : pd_F), pd_Ly G → (∀ a, (a < t ∨ t + 3 < a) → G a = F a) → nR (An np (cA F b st)) (G (t + 1)) → ∃ F', pfX10_reckon_b97 (pd_SH sT) 5000 G t b = some F' ∧ pd_Ly F' ∧ (∀ a, (a < t ∨ t + 3 < a) → F' a = F a) ∧ tP np (Cn np (cA F b st)) t F' ∧ nR (An np (cA F b st)) (F' (t + 1)) := by
    intro G g1 g2 g3
    obtain ⟨F', f1, f2, f3, f4⟩ := c_numberDepositors (sT := sT) g1 ht k1 cA_sy g3
    refine ⟨F', ?_, f2, fun a h => by rw [f3 a (by omega) (by omega) (by omega)]; exact g2 a h, f4, by rw [f3 _ (by omega) (by omega) (by omega)]; exact g3⟩
    unfold pfX10_reckon_b97
    simp only [pl_l, pl_b, pl_iT, pl_t, pl_f, pl_ob w0, pl_ob s0, g2 b (bt b (by omega)), k0, f1]
  -- joins
  have l62 : ∀ (G : pd_F), pd_Ly G → (∀ a, (a < t ∨ t + 3 < a) → G a = F a) → nR (fun p q => p ≠ q ∧ ∃ i, 0 ≤ i ∧ i < F b 14 ∧ ¬ tb (F st 5) i ∧ tb (F (b + 9) i) p ∧ tb (F (b + 9) i) q) (G (t + 1)) → ∃ F', pfX10_reckon_b62 (pd_SH sT) 5000 5000 G t b st 0 = some F' ∧ pd_Ly F' ∧ (∀ a, (a < t ∨ t + 3 < a) → F' a = F a) ∧ tP np (Cn np (cA F b st)) t F' ∧ nR (An np (cA F b st)) (F' (t + 1)) := by
    intro G g1 g2 g3
    refine pl_for (f := fun j (q : pd_F) i => pfX10_reckon_b62 (pd_SH sT) 5000 j q t b st i) (P := fun m q => pd_Ly q ∧ (∀ a, (a < t ∨ t + 3 < a) → q a = F a) ∧ nR (fun p q => p ≠ q ∧ ((∃ i, 0 ≤ i ∧ i < F b 14 ∧ ¬ tb (F st 5) i ∧ tb (F (b + 9) i) p ∧ tb (F (b + 9) i) q) ∨ ∃ k, 0 ≤ k ∧ k < m ∧ ((F (st + 3) k = p ∧ F (st + 4) k = q) ∨ (F (st + 3) k = q ∧ F (st + 4) k = p)))) (q (t + 1))) (N := F st 4)
      (res := fun o => ∃ F', o = some F' ∧ pd_Ly F' ∧ (∀ a, (a < t ∨ t + 3 < a) → F' a = F a) ∧ tP np (Cn np (cA F b st)) t F' ∧ nR (An np (cA F b st)) (F' (t + 1))) ?_ ?_ 5000 G 0 (by omega) k4.1 (by omega)
      ⟨g1, g2, nR_c g3 (fun p q _ _ _ _ => or_congr Iff.rfl ⟨fun z => ⟨z.1, Or.inl z.2⟩, fun z => ⟨z.1, z.2.elim id (fun ⟨k, a, b, _⟩ => by omega)⟩⟩)⟩
    · intro j G m a c ⟨q1, q2, q3⟩
      left
      obtain ⟨v0, v1, v2, v3⟩ := ly_s q1 hs
      have r1 := q2 st (bt st (by omega))
      have r3 := q2 (st + 3) (bt _ (by omega))
      have r4 := q2 (st + 4) (bt _ (by omega))
      have jj := k5 m a c
      have o1 := tb_one (p := F (st + 3) m) (by omega)
      have o2 := tb_one (p := F (st + 4) m) (by omega)
      have o3 := tb_or o1.1 o2.1
      obtain ⟨G', f1, f2, f3, f4⟩ := c_tie (sT := sT) q1 ht o3.1 q3
      refine ⟨G', ⟨f2, fun a h => by rw [f3 a (by omega)]; exact q2 a h, nR_c f4 (fun p q p0 _ q0 _ => ?_)⟩, ?_⟩
      · rw [o3.2 p, o3.2 q, o1.2 p p0, o2.2 p p0, o1.2 q q0, o2.2 q q0]
        constructor
        · rintro (z | ⟨z, z2 | ⟨k, x0, x1, x2⟩⟩ | ⟨z1, z2⟩)
          · exact Or.inl z
          · exact Or.inr ⟨z, Or.inl z2⟩
          · exact Or.inr ⟨z, Or.inr ⟨k, x0, by omega, x2⟩⟩
          · by_cases e : q = p
            · exact Or.inl e
            · refine Or.inr ⟨fun w => e w.symm, Or.inr ⟨m, a, by omega, ?_⟩⟩
              omega
        · rintro (z | ⟨z, z2 | ⟨k, x0, x1, x2⟩⟩)
          · exact Or.inl z
          · exact Or.inr (Or.inl ⟨z, Or.inl z2⟩)
          · by_cases e : k = m
            · subst e
              refine Or.inr (Or.inr ?_)
              omega
            · exact Or.inr (Or.inl ⟨z, Or.inr ⟨k, x0, by omega, x2⟩⟩)
      · show pfX10_reckon_b62 (pd_SH sT) 5000 (j + 1) G t b st m = _
        simp (disch := omega) only [pfX10_reckon_b62, pl_l, pl_b, pl_iT, pl_t, pl_f, v2, v3, r1, r3, r4, pl_ob u0, pl_ob s0, pl_ib u3, pl_ib u4, f1, pl_w, pl_i, if_neg]
    · intro j G ⟨q1, q2, q3⟩
      have r1 := q2 st (bt st (by omega))
      obtain ⟨F', f1, f2⟩ := l97 G q1 q2 (nR_c q3 (fun p q p0 p1 q0 q1 => by
        constructor
        · rintro (z | z)
          · exact Or.inl z
          · refine Or.inr ⟨?_, ?_, z⟩
            · rcases z.2 with ⟨i, a, b, _, c, _⟩ | ⟨k, a, b, c⟩
              · exact ⟨p0, (k3 i a b).2 p p0 c⟩
              · have := k5 k a b
                omega
            · rcases z.2 with ⟨i, a, b, _, _, c⟩ | ⟨k, a, b, c⟩
              · exact ⟨q0, (k3 i a b).2 q q0 c⟩
              · have := k5 k a b
                omega
        · exact fun z => z.elim Or.inl (fun z => Or.inr z.2.2)))
      refine ⟨F', ?_, f2⟩
      show pfX10_reckon_b62 (pd_SH sT) 5000 (j + 1) G t b st _ = _
      simp (disch := omega) only [pfX10_reckon_b62, pl_l, pl_b, pl_iT, pl_t, pl_f, r1, pl_ob u0, f1, if_pos]
  -- marks
  have l28 : ∀ (G : pd_F), pd_Ly G → (∀ a, (a < t ∨ t + 3 < a) → G a = F a) → nR (fun p q => False) (G (t + 1)) → ∃ F', pfX10_reckon_b28 (pd_SH sT) 5000 5000 G t b st 0 = some F' ∧ pd_Ly F' ∧ (∀ a, (a < t ∨ t + 3 < a) → F' a = F a) ∧ tP np (Cn np (cA F b st)) t F' ∧ nR (An np (cA F b st)) (F' (t + 1)) := by
    intro G g1 g2 g3
    refine pl_for (f := fun j (q : pd_F) i => pfX10_reckon_b28 (pd_SH sT) 5000 j q t b st i) (P := fun m q => pd_Ly q ∧ (∀ a, (a < t ∨ t + 3 < a) → q a = F a) ∧ nR (fun p q => p ≠ q ∧ ∃ i, 0 ≤ i ∧ i < m ∧ ¬ tb (F st 5) i ∧ tb (F (b + 9) i) p ∧ tb (F (b + 9) i) q) (q (t + 1))) (N := F b 14)
      (res := fun o => ∃ F', o = some F' ∧ pd_Ly F' ∧ (∀ a, (a < t ∨ t + 3 < a) → F' a = F a) ∧ tP np (Cn np (cA F b st)) t F' ∧ nR (An np (cA F b st)) (F' (t + 1))) ?_ ?_ 5000 G 0 (by omega) k2.1 (by omega)
      ⟨g1, g2, nR_c g3 (fun p q _ _ _ _ => or_congr Iff.rfl ⟨False.elim, fun ⟨_, i, a, b, _⟩ => by omega⟩)⟩
    · intro j G m a c ⟨q1, q2, q3⟩
      left
      obtain ⟨-, -, -, -, -, -, -, -, v8⟩ := ly_b q1 hb
      have r1 := q2 st (bt st (by omega))
      have r2 := q2 b (bt b (by omega))
      have r9 := q2 (b + 9) (bt _ (by omega))
      have hl := c_isLeftOut (sT := sT) (i := m) q1 hs (by omega) (by rw [r1]; exact k6)
      rw [r1] at hl
      rcases Classical.em (tb (F st 5) m) with z | z
      · rw [ci_t z] at hl
        refine ⟨G, ⟨q1, q2, nR_c q3 (fun p q _ _ _ _ => or_congr Iff.rfl ⟨fun ⟨ne, i, x0, x1, x2⟩ => ⟨ne, i, x0, by omega, x2⟩, fun ⟨ne, i, x0, x1, x2, x3⟩ => ⟨ne, i, x0, ?_, x2, x3⟩⟩)⟩, ?_⟩
        · by_cases e : i = m
          · exact absurd (e ▸ z) x2
          · omega
        · show pfX10_reckon_b28 (pd_SH sT) 5000 (j + 1) G t b st m = _
          simp (disch := omega) only [pfX10_reckon_b28, pfX10_reckon_b54, pl_l, pl_b, pl_iT, pl_t, pl_f, r2, pl_ob w0, pl_ob u0, hl, pl_w, if_pos, if_neg]
      · rw [ci_f z] at hl
        have hh := k3 m a c
        obtain ⟨G', f1, f2, f3, f4⟩ := c_tie (sT := sT) q1 ht hh.1 q3
        refine ⟨G', ⟨f2, fun a h => by rw [f3 a (by omega)]; exact q2 a h, nR_c f4 (fun p q p0 _ q0 _ => ?_)⟩, ?_⟩
        · constructor
          · rintro (w | ⟨ne, i, x0, x1, x2⟩ | ⟨z1, z2⟩)
            · exact Or.inl w
            · exact Or.inr ⟨ne, i, x0, by omega, x2⟩
            · by_cases e : q = p
              · exact Or.inl e
              · exact Or.inr ⟨fun w => e w.symm, m, a, by omega, z, z1, z2⟩
          · rintro (w | ⟨ne, i, x0, x1, x2, x3, x4⟩)
            · exact Or.inl w
            · by_cases e : i = m
              · subst e; exact Or.inr (Or.inr ⟨x3, x4⟩)
              · exact Or.inr (Or.inl ⟨ne, i, x0, by omega, x2, x3, x4⟩)
        · show pfX10_reckon_b28 (pd_SH sT) 5000 (j + 1) G t b st m = _
          simp (disch := omega) only [pfX10_reckon_b28, pfX10_reckon_b54, pl_l, pl_b, pl_iT, pl_t, pl_f, v8, r2, r9, pl_ob w0, pl_ob u0, pl_ob s0, pl_ib w9, hl, f1, pl_w, pl_i, if_neg]
    · intro j G ⟨q1, q2, q3⟩
      have r2 := q2 b (bt b (by omega))
      obtain ⟨F', f1, f2⟩ := l62 G q1 q2 q3
      refine ⟨F', ?_, f2⟩
      show pfX10_reckon_b28 (pd_SH sT) 5000 (j + 1) G t b st _ = _
      simp (disch := omega) only [pfX10_reckon_b28, pfX10_reckon_b60, pl_l, pl_b, pl_iT, pl_t, pl_f, r2, pl_ob w0, f1, if_pos]
  unfold pfX10_reckon
  refine pl_for (f := fun j (q : pd_F) i => pfX10_reckon_b2 (pd_SH sT) 5000 j q t b st i) (P := fun m q => pd_Ly q ∧ (∀ a, (a < t ∨ t + 3 < a) → q a = F a) ∧ ∀ p, 0 ≤ p → p < m → q (t + 1) p = pd_shl 1 p) (N := 12)
    (res := fun o => ∃ F', o = some F' ∧ pd_Ly F' ∧ (∀ a, (a < t ∨ t + 3 < a) → F' a = F a) ∧ tP np (Cn np (cA F b st)) t F' ∧ nR (An np (cA F b st)) (F' (t + 1))) ?_ ?_ 5000 F 0 (by omega) (by omega) (by omega) ⟨hL, fun _ _ => rfl, fun p a b => by omega⟩
  · intro j G i a c ⟨q1, q2, q3⟩
    obtain ⟨e0, -, -⟩ := ly_t q1 ht
    refine Or.inl ⟨pd_up G (t + 1) i (pd_shl 1 i), ⟨q1.up (pl_rc0 s1 (by decide)), fun a h => by rw [pu_a (by omega)]; exact q2 a h, fun p x y => ?_⟩, ?_⟩
    · rw [pu_r]
      by_cases e : p = i
      · rw [if_pos e, e]
      · rw [if_neg e]; exact q3 p x (by omega)
    · show pfX10_reckon_b2 (pd_SH sT) 5000 (j + 1) G t b st i = _
      simp (disch := omega) only [pfX10_reckon_b2, pl_l, pl_b, pl_iT, pl_t, pl_f, e0, pl_ob s0, pl_ln s1, pl_ib s1, pl_w, pl_i, if_neg]
  · intro j G ⟨q1, q2, q3⟩
    obtain ⟨e0, -, -⟩ := ly_t q1 ht
    obtain ⟨F', f1, f2⟩ := l28 G q1 q2 (fun p a b => by
      have o := tb_one (p := p) ⟨a, b⟩
      rw [q3 p a b]
      exact ⟨o.1, fun q c d => (o.2 q c).trans ⟨Or.inl, fun z => z.elim id False.elim⟩⟩)
    refine ⟨F', ?_, f2⟩
    show pfX10_reckon_b2 (pd_SH sT) 5000 (j + 1) G t b st _ = _
    simp (disch := omega) only [pfX10_reckon_b2, pfX10_reckon_b26, pl_l, pl_b, pl_iT, pl_t, pl_f, e0, pl_ob s0, pl_ln s1, pl_i, if_pos, f1]
end CR

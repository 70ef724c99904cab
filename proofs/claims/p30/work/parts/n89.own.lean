/-! the law feeds its text -/
theorem bn_shl8 {a : Nat} (h : a * 256 < 2 ^ 31) : pd_shl a 8 = ((a * 256 : Nat) : Int) := by
  unfold pd_shl
  have e : (Int32.ofInt (a : Int) <<< (Int32.ofInt ((8 : Nat) : Int) &&& 31)).toBitVec.toNat = a * 2 ^ 8 := by
    rw [Int32.toBitVec_shiftLeft, BitVec.shiftLeft_eq', bn_s32i 8 (by decide), bn_i32, BitVec.toNat_shiftLeft, BitVec.toNat_ofNat, Nat.mod_eq_of_lt (a := a) (by omega), Nat.shiftLeft_eq, Nat.mod_eq_of_lt (by omega)]
  show (Int32.ofInt (a : Int) <<< (Int32.ofInt ((8 : Nat) : Int) &&& 31)).toBitVec.toInt = _
  rw [bn_t32 (by omega), e]
theorem pl_so {x y : Int} (hx : 0 ≤ x ∧ x < 8388608) (hy : 0 ≤ y ∧ y < 256) : pd_or (pd_shl x 8) y = x * 256 + y := by
  obtain ⟨a, rfl⟩ := Int.eq_ofNat_of_zero_le hx.1
  obtain ⟨b, rfl⟩ := Int.eq_ofNat_of_zero_le hy.1
  rw [bn_shl8 (by omega), bn_or (by omega) (by omega), show a * 256 = a * 2 ^ 8 from rfl, ← Nat.shiftLeft_eq, ← Nat.shiftLeft_add_eq_or_of_lt (by omega), Nat.shiftLeft_eq]
  omega
def pkv (c : Int → Int) (i : Int) : Nat → Int
  | 0 => 0
  | m + 1 => pkv c i m * 256 + c (4 * i + m)
theorem pkv_bd {c : Int → Int} (hc : ∀ j, 32 ≤ c j ∧ c j < 127) {i : Int} {m : Nat} (h : m ≤ 3) : 0 ≤ pkv c i m ∧ pkv c i m < 8388608 := by
  have c0 := hc (4 * i + ((0 : Nat) : Int))
  have c1 := hc (4 * i + ((1 : Nat) : Int))
  have c2 := hc (4 * i + ((2 : Nat) : Int))
  have : m = 0 ∨ m = 1 ∨ m = 2 ∨ m = 3 := by omega
  rcases this with rfl | rfl | rfl | rfl
  · show (0 : Int) ≤ 0 ∧ (0 : Int) < 8388608; decide
  · show 0 ≤ 0 * 256 + c (4 * i + ((0 : Nat) : Int)) ∧ 0 * 256 + c (4 * i + ((0 : Nat) : Int)) < 8388608; omega
  · show 0 ≤ (0 * 256 + c (4 * i + ((0 : Nat) : Int))) * 256 + c (4 * i + ((1 : Nat) : Int)) ∧ (0 * 256 + c (4 * i + ((0 : Nat) : Int))) * 256 + c (4 * i + ((1 : Nat) : Int)) < 8388608; omega
  · show 0 ≤ ((0 * 256 + c (4 * i + ((0 : Nat) : Int))) * 256 + c (4 * i + ((1 : Nat) : Int))) * 256 + c (4 * i + ((2 : Nat) : Int)) ∧ ((0 * 256 + c (4 * i + ((0 : Nat) : Int))) * 256 + c (4 * i + ((1 : Nat) : Int))) * 256 + c (4 * i + ((2 : Nat) : Int)) < 8388608; omega
theorem pk_byte {c : Int → Int} (hc : ∀ j, 32 ≤ c j ∧ c j < 127) {i k : Int} (hk : 0 ≤ k ∧ k < 4) : pd_b (pd_shr (pkv c i 4) (24 - 8 * k)) = c (4 * i + k) := by
  have c0 := hc (4 * i + ((0 : Nat) : Int))
  have c1 := hc (4 * i + ((1 : Nat) : Int))
  have c2 := hc (4 * i + ((2 : Nat) : Int))
  have c3 := hc (4 * i + ((3 : Nat) : Int))
  have e : pkv c i 4 = (((0 * 256 + c (4 * i + ((0 : Nat) : Int))) * 256 + c (4 * i + ((1 : Nat) : Int))) * 256 + c (4 * i + ((2 : Nat) : Int))) * 256 + c (4 * i + ((3 : Nat) : Int)) := rfl
  have bd := pkv_bd hc (i := i) (m := 3) (by decide)
  have e3 : pkv c i 4 = pkv c i 3 * 256 + c (4 * i + ((3 : Nat) : Int)) := rfl
  obtain ⟨v, hv⟩ := Int.eq_ofNat_of_zero_le (show 0 ≤ pkv c i 4 by omega)
  have vb : v < 2 ^ 31 := by omega
  rw [hv] at e
  have cases : k = 0 ∨ k = 1 ∨ k = 2 ∨ k = 3 := by omega
  rw [hv]
  rcases cases with rfl | rfl | rfl | rfl
  · rw [show (24 : Int) - 8 * 0 = ((24 : Nat) : Int) from rfl, bn_shr vb (by decide), show (2 : Nat) ^ 24 = 16777216 from rfl, pl_by (by omega)]; simp only [Int.natCast_ediv]; show (v : Int) / 16777216 = c (4 * i + 0); rw [show 4 * i + (0 : Int) = 4 * i + ((0 : Nat) : Int) from rfl]; omega
  · rw [show (24 : Int) - 8 * 1 = ((16 : Nat) : Int) from rfl, bn_shr vb (by decide), show (2 : Nat) ^ 16 = 65536 from rfl]; unfold pd_b; rw [show 4 * i + (1 : Int) = 4 * i + ((1 : Nat) : Int) from rfl]; omega
  · rw [show (24 : Int) - 8 * 2 = ((8 : Nat) : Int) from rfl, bn_shr vb (by decide), show (2 : Nat) ^ 8 = 256 from rfl]; unfold pd_b; rw [show 4 * i + (2 : Int) = 4 * i + ((2 : Nat) : Int) from rfl]; omega
  · rw [show (24 : Int) - 8 * 3 = ((0 : Nat) : Int) from rfl, bn_shr vb (by decide), show (2 : Nat) ^ 0 = 1 from rfl]; unfold pd_b; rw [show 4 * i + (3 : Int) = 4 * i + ((3 : Nat) : Int) from rfl]; omega
theorem tS.up {sh : pd_S} {F : pd_F} {a b i v : Int} {l : List Int} (h : tS sh F a l) (h1 : b ≠ a) (h2 : b ≠ F a 0) : tS sh (pd_up F b i v) a l := by
  rcases h with h | ⟨a1, a2, a3, a4, a5⟩
  · exact Or.inl h
  · refine Or.inr ⟨a1, a2, by rw [pu_a (fun e => h1 e.symm)]; exact a3, by rw [pu_a (fun e => h1 e.symm)]; exact a4, fun k hk => ?_⟩
    rw [pu_a (a := b) (b := a) (fun e => h1 e.symm), pu_a (fun e => h2 e.symm)]
    exact a5 k hk
def fch (w : List Int) (x3 : Int) : Int → Int := fun j => if x3 + j ≥ (w.length : Int) ∨ x3 + j < 0 then 32 else w.getD (x3 + j).toNat 0
theorem fch_bd {w : List Int} (hp : pr w) {x3 j : Int} : 32 ≤ fch w x3 j ∧ fch w x3 j < 127 := by
  unfold fch
  by_cases h : x3 + j ≥ (w.length : Int) ∨ x3 + j < 0
  · rw [if_pos h]; decide
  · rw [if_neg h]; exact hp _ (by omega)
section FE
variable {sh sT : pd_S} {F : pd_F} {n : Nat} {w : List Int} {np nt na nh c : Int} {b x1 : Int}
theorem f_in {c7 : pd_S → pd_F → Int → Int → Int → Int → Option (Int × pd_S × pd_F)} {x0 x3 x4 : Int} (s4 : pd_sh sh x4 = some (0, 0, 5)) (hp : pr w) (hl : (w.length : Int) ≤ 1000) (h3 : 0 ≤ x3 ∧ x3 ≤ 1000) (ht0 : 0 < x1) (n1 : x4 ≠ x1) : ∀ (d k : Nat) (F : pd_F) (x5 : Int), x5 + d = 20 → d < k → 0 ≤ x5 → tS sh F x1 w → x4 ≠ F x1 0 → (∀ i, 0 ≤ i → i < 5 → F x4 i = pkv (fch w x3) i (min (max (x5 - 4 * i) 0) 4).toNat) → ∃ F', pfL_feeds_b20 n c7 k sh F x0 x1 w.length x3 x4 x5 = pfL_feeds_b72 n c7 sh F' x0 x1 w.length x3 x4 ∧ (∀ a, a ≠ x4 → F' a = F a) ∧ ∀ i, 0 ≤ i → i < 5 → F' x4 i = pkv (fch w x3) i 4
  | _, 0, _, _, _, hk, _, _, _, _ => by omega
  | 0, k + 1, F, x5, hd, hk, h5, ht, hne, hv => by
    refine ⟨F, ?_, fun _ _ => rfl, fun i x y => by rw [hv i x y, show (min (max (x5 - 4 * i) 0) 4).toNat = 4 by omega]⟩
    rw [pfL_feeds_b20, if_pos (by omega)]
  | d + 1, k + 1, F, x5, hd, hk, h5, ht, hne, hv => by
    have e1 : pd_w (Int.tdiv x5 4) = x5 / 4 := by rw [Int.tdiv_eq_ediv_of_nonneg h5]; exact pl_w (by omega)
    have i0 : 0 ≤ x5 / 4 ∧ x5 / 4 < 5 := by omega
    obtain ⟨m, hm⟩ : ∃ m : Nat, (m : Int) = x5 - 4 * (x5 / 4) := ⟨(x5 - 4 * (x5 / 4)).toNat, by omega⟩
    have v0 := hv (x5 / 4) i0.1 i0.2
    rw [show (min (max (x5 - 4 * (x5 / 4)) 0) 4).toNat = m by omega] at v0
    have bd := pkv_bd (fun j => fch_bd hp (x3 := x3) (j := j)) (i := x5 / 4) (m := m) (by omega)
    have cb := fch_bd hp (x3 := x3) (j := x5)
    have e5 : pd_w (x3 + x5) = x3 + x5 := pl_w (by omega)
    have val : pd_or (pd_shl (F x4 (x5 / 4)) 8) (fch w x3 x5) = pkv (fch w x3) (x5 / 4) (m + 1) := by
      rw [v0, pl_so bd (by omega)]
      show _ = pkv (fch w x3) (x5 / 4) m * 256 + fch w x3 (4 * (x5 / 4) + m)
      rw [show 4 * (x5 / 4) + (m : Int) = x5 by omega]
    obtain ⟨F', g1, g2, g3⟩ := f_in s4 hp hl h3 ht0 n1 d k (pd_up F x4 (x5 / 4) (pkv (fch w x3) (x5 / 4) (m + 1))) (x5 + 1) (by omega) (by omega) (by omega) (ht.up n1 hne) (by rw [pu_a (fun e => n1 e.symm)]; exact hne) (fun i x y => by
      rw [pu_r]
      by_cases e : i = x5 / 4
      · rw [if_pos e, e, show (min (max (x5 + 1 - 4 * (x5 / 4)) 0) 4).toNat = m + 1 by omega]
      · rw [if_neg e, hv i x y]
        congr 1
        omega)
    refine ⟨F', ?_, fun a x => by rw [g2 a x, pu_a x], g3⟩
    rw [pfL_feeds_b20, if_neg (by omega)]
    simp only [e1, e5, pl_ib s4]
    rw [pl_i (by omega)]
    have fin : ∀ t0, t0 = fch w x3 x5 → pfL_feeds_b64 n c7 (pfL_feeds_b20 n c7 k) sh F x0 x1 w.length x3 x4 x5 t0 (pd_shl (F x4 (x5 / 4)) 8) (x5 / 4) x4 = pfL_feeds_b72 n c7 sh F' x0 x1 w.length x3 x4 := fun t0 h0 => by
      subst h0
      unfold pfL_feeds_b64
      simp only [pl_l, pl_ib s4]
      rw [pl_i (by omega), pl_w (by omega), val]
      exact g1
    by_cases hc : x3 + x5 ≥ (w.length : Int)
    · rw [if_pos hc]
      exact fin 32 (by unfold fch; rw [if_pos (Or.inl hc)])
    · rw [if_neg hc]
      obtain ⟨o1, -⟩ := s_len (n := n) ht ht0 (by omega)
      rw [pl_i o1, s_sign (n := n) ht ht0 hp (k := x3 + x5) (by omega)]
      simp only [pl_b, pl_l]
      exact fin _ (by unfold fch; rw [if_neg (by omega)])
end FE

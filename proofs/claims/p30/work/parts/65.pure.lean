variable {sT : pd_S}
/-! the reference: lists of parts -/
theorem lFl_s {pm pt pw : Int → Int} {k : Nat} {l : Int} : lFl pm pt pw (k + 1) l ↔ (lW pw l (pm l) = 0 ∨ ∃ i, 0 ≤ i ∧ i < pm l ∧ 16 ≤ pt (5 * l + i) ∧ lFl pm pt pw k (pt (5 * l + i) - 16)) := Iff.rfl
theorem lWy_bd {np : Int} {pm pt pw : Int → Int} (hnp : np ≤ 12) : ∀ (k : Nat) (l nt p : Int), lOk np pm pt pw l nt → (∀ t, 0 ≤ t → t < nt → lOk np pm pt pw t t) → 0 ≤ lWy pm pt k l p ∧ lWy pm pt k l p ≤ ((5 ^ k : Nat) : Int)
  | 0, l, nt, p, h, ht => by show (0 : Int) ≤ 0 ∧ (0 : Int) ≤ 1; omega
  | k + 1, l, nt, p, h, ht => by
    have hq : 5 ^ 0 ≤ 5 ^ k := Nat.pow_le_pow_right (by decide) (Nat.zero_le k)
    have e5 : 5 ^ (k + 1) = 5 ^ k * 5 := Nat.pow_succ 5 k
    have b := Sm_bd (f := fun i => if pt (5 * l + i) = p then 1 else if 16 ≤ pt (5 * l + i) then lWy pm pt k (pt (5 * l + i) - 16) p else 0) (lo := 0) (hi := ((5 ^ k : Nat) : Int)) h.1 (fun i a b => by
      have hp := (h.2.2 i a b).1
      split
      · omega
      · split
        · exact lWy_bd hnp k _ _ p (ht _ (by omega) (by omega)) (fun t a b => ht t a (by omega))
        · omega)
    have c := Int.mul_le_mul_of_nonneg_left (c := ((5 ^ k : Nat) : Int)) h.2.1 (by omega)
    show 0 ≤ Sm _ _ ∧ Sm _ _ ≤ _
    rw [e5]
    omega
theorem lDp_bd {np : Int} {pm pt pw : Int → Int} (hnp : np ≤ 12) : ∀ (k : Nat) (l nt : Int), lOk np pm pt pw l nt → (∀ t, 0 ≤ t → t < nt → lOk np pm pt pw t t) → 1 ≤ lDp pm pt k l ∧ lDp pm pt k l ≤ (k : Int) + 1
  | 0, l, nt, h, ht => by show (1 : Int) ≤ 1 ∧ (1 : Int) ≤ 0 + 1; omega
  | k + 1, l, nt, h, ht => by
    have key : ∀ n : Nat, (n : Int) ≤ pm l → 1 ≤ Mx (fun i => if pt (5 * l + i) < 16 then 1 else 1 + lDp pm pt k (pt (5 * l + i) - 16)) n ∧ Mx (fun i => if pt (5 * l + i) < 16 then 1 else 1 + lDp pm pt k (pt (5 * l + i) - 16)) n ≤ (k : Int) + 2 := by
      intro n
      induction n with
      | zero => intro _; show (1 : Int) ≤ 1 ∧ (1 : Int) ≤ _; omega
      | succ n ih =>
        intro hn
        have b := ih (by omega)
        have e : ((n + 1 : Nat) : Int) = (n : Int) + 1 := by omega
        rw [e, Mx_s (by omega)]
        have hp := (h.2.2 n (by omega) (by omega)).1
        split
        · omega
        · have z := lDp_bd hnp k _ _ (ht (pt (5 * l + n) - 16) (by omega) (by omega)) (fun t a b => ht t a (by omega))
          omega
    have h1 := h.1
    have c := key (pm l).toNat (by omega)
    have e : (((pm l).toNat : Nat) : Int) = pm l := by omega
    rw [e] at c
    show 1 ≤ Mx _ _ ∧ Mx _ _ ≤ _
    omega

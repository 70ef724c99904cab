variable {sT : pd_S}
/-! words as both pack them, runs on the tape -/
theorem pu_id {F : pd_F} {a j : Int} : pd_up F a j (F a j) = F := by
  funext b i
  unfold pd_up
  split
  · rename_i h; rw [h.1, h.2]
  · rfl
theorem pu_pu {F : pd_F} {a j v w : Int} : pd_up (pd_up F a j v) a j w = pd_up F a j w := by
  funext b i
  unfold pd_up
  by_cases h : b = a ∧ i = j <;> simp [h]
theorem pu_4 {F : pd_F} {a i j v w x y : Int} (hij : i ≠ j) : pd_up (pd_up (pd_up (pd_up F a i v) a j w) a i x) a j y = pd_up (pd_up F a i x) a j y := by
  funext b k
  unfold pd_up
  by_cases h : b = a
  · by_cases h1 : k = i
    · have : k ≠ j := fun e => hij (h1 ▸ e)
      simp [h, h1, hij]
    · by_cases h2 : k = j <;> simp [h, h1, h2]
  · simp [h]
theorem w8_bd {c : Nat → Int} {n : Nat} (h : ∀ k, k < n → 1 ≤ c k ∧ c k ≤ 26) : 0 ≤ w8 c n ∧ 2 * w8 c n < ((2 ^ (8 * n) : Nat) : Int) ∧ (0 < n → 1 ≤ w8 c n) := by
  induction n with
  | zero => refine ⟨Int.le_refl _, by show (2 * 0 : Int) < ((1 : Nat) : Int); decide, fun h => absurd h (Nat.lt_irrefl _)⟩
  | succ n ih =>
    have a := ih (fun k hk => h k (by omega))
    have b := h n (by omega)
    have e : 2 ^ (8 * (n + 1)) = 2 ^ (8 * n) * 256 := by rw [Nat.mul_add, Nat.pow_add]
    rw [e]
    show 0 ≤ w8 c n * 256 + (c n + 96) ∧ 2 * (w8 c n * 256 + (c n + 96)) < _ ∧ (_ → 1 ≤ w8 c n * 256 + (c n + 96))
    omega
theorem bn_Shl {a p : Nat} (h : a * 2 ^ p < 2 ^ 63) (hp : p < 64) : pd_Shl a p = ((a * 2 ^ p : Nat) : Int) := by
  unfold pd_Shl
  have hs : ∀ n, n < 64 → (((Int32.ofNat n).toInt64 &&& 63).toBitVec.smod 64).toNat = n := by decide +kernel
  have es : (((Int32.ofInt (p : Int)).toInt64 &&& 63).toBitVec.smod 64).toNat = p := by
    have e : Int32.ofInt (p : Int) = Int32.ofNat p := Int32.toBitVec_inj.mp (bn_i32 p)
    rw [e]; exact hs p hp
  have ha : a < 2 ^ 63 := Nat.lt_of_le_of_lt (Nat.le_mul_of_pos_right a (Nat.two_pow_pos p)) h
  have e : (Int64.ofInt (a : Int) <<< ((Int32.ofInt (p : Int)).toInt64 &&& 63)).toBitVec.toNat = a * 2 ^ p := by
    rw [Int64.toBitVec_shiftLeft, BitVec.shiftLeft_eq', es, bn_i64, BitVec.toNat_shiftLeft, BitVec.toNat_ofNat, Nat.mod_eq_of_lt (a := a) (by omega), Nat.shiftLeft_eq, Nat.mod_eq_of_lt (by omega)]
  show (Int64.ofInt (a : Int) <<< ((Int32.ofInt (p : Int)).toInt64 &&& 63)).toBitVec.toInt = _
  rw [bn_t64 (by omega), e]
theorem pl_sh8 {x y : Int} (hx : 0 ≤ x ∧ x < 36028797018963968) (hy : 0 ≤ y ∧ y < 256) : pd_Or (pd_Shl x 8) y = x * 256 + y := by
  obtain ⟨a, rfl⟩ := Int.eq_ofNat_of_zero_le hx.1
  obtain ⟨b, rfl⟩ := Int.eq_ofNat_of_zero_le hy.1
  have e : pd_Shl (a : Int) 8 = ((a * 2 ^ 8 : Nat) : Int) := bn_Shl (p := 8) (by omega) (by decide)
  rw [e, bn_Or (by omega) (by omega), ← Nat.shiftLeft_eq, ← Nat.shiftLeft_add_eq_or_of_lt (by omega), Nat.shiftLeft_eq]
  omega
/-- the first place from i on, below N, where P is not -/
def rn (P : Int → Bool) (N : Int) : Nat → Int → Int
  | 0, i => i
  | k + 1, i => if i < N ∧ P i = true then rn P N k (i + 1) else i
def En (P : Int → Bool) (N i : Int) : Int := rn P N (N - i).toNat i
theorem En_s {P : Int → Bool} {N i : Int} (h0 : i < N) (h1 : P i = true) : En P N i = En P N (i + 1) := by
  unfold En
  have e : (N - i).toNat = (N - (i + 1)).toNat + 1 := by omega
  rw [e]
  show (if i < N ∧ P i = true then rn P N (N - (i + 1)).toNat (i + 1) else i) = _
  rw [if_pos ⟨h0, h1⟩]
theorem En_e {P : Int → Bool} {N i : Int} (h : ¬ (i < N ∧ P i = true)) : En P N i = i := by
  unfold En
  cases (N - i).toNat with
  | zero => rfl
  | succ k =>
    show (if i < N ∧ P i = true then _ else i) = i
    rw [if_neg h]
theorem En_b {P : Int → Bool} {N : Int} : ∀ (k : Nat) (i : Int), N - i = k → i ≤ En P N i ∧ En P N i ≤ N ∧ ∀ j, i ≤ j → j < En P N i → P j = true
  | 0, i, h => by
    rw [En_e (by omega)]
    exact ⟨by omega, by omega, fun j a b => by omega⟩
  | k + 1, i, h => by
    by_cases c : P i = true
    · rw [En_s (by omega) c]
      obtain ⟨a, b, d⟩ := En_b (P := P) (N := N) k (i + 1) (by omega)
      refine ⟨by omega, b, fun j x y => ?_⟩
      by_cases e : j = i
      · rw [e]; exact c
      · exact d j (by omega) y
    · rw [En_e (fun z => c z.2)]
      exact ⟨by omega, by omega, fun j a b => by omega⟩
theorem En_bd {P : Int → Bool} {N i : Int} (h : i ≤ N) : i ≤ En P N i ∧ En P N i ≤ N ∧ ∀ j, i ≤ j → j < En P N i → P j = true := En_b (N - i).toNat i (by omega)
def bkB (t : Int → Int) : Int → Bool := fun j => decide (t j = 32 ∨ t j = 10)
def ltB (t : Int → Int) : Int → Bool := fun j => decide (97 ≤ t j ∧ t j ≤ 122)
def dgB (t : Int → Int) : Int → Bool := fun j => decide (48 ≤ t j ∧ t j ≤ 57)
theorem bkB_t {t : Int → Int} {j : Int} : bkB t j = true ↔ (t j = 32 ∨ t j = 10) := by unfold bkB; exact decide_eq_true_iff
theorem ltB_t {t : Int → Int} {j : Int} : ltB t j = true ↔ (97 ≤ t j ∧ t j ≤ 122) := by unfold ltB; exact decide_eq_true_iff
theorem dgB_t {t : Int → Int} {j : Int} : dgB t j = true ↔ (48 ≤ t j ∧ t j ≤ 57) := by unfold dgB; exact decide_eq_true_iff
def nb (c : Nat → Int) : Nat → Int
  | 0 => 0
  | k + 1 => nb c k * 10 + c k
theorem nb_bd {c : Nat → Int} {n : Nat} (h : ∀ k, k < n → 0 ≤ c k ∧ c k ≤ 9) : 0 ≤ nb c n ∧ nb c n < ((10 ^ n : Nat) : Int) := by
  induction n with
  | zero => exact ⟨Int.le_refl _, by show (0 : Int) < ((1 : Nat) : Int); decide⟩
  | succ n ih =>
    have a := ih (fun k hk => h k (by omega))
    have b := h n (by omega)
    have e : 10 ^ (n + 1) = 10 ^ n * 10 := Nat.pow_succ _ _
    rw [e]
    show 0 ≤ nb c n * 10 + c n ∧ nb c n * 10 + c n < _
    omega
/-- the token behind i: where it begins, its kind, what is behind it, its number, its word -/
def Tk (w : (Nat → Int) → Nat → Int) (t : Int → Int) (N i kd pl nx nu wo : Int) : Prop :=
  pl = En (bkB t) N i ∧ (N ≤ pl → kd = 0 ∧ nx = pl) ∧ (pl < N →
    ((97 ≤ t pl ∧ t pl ≤ 122) → nx = En (ltB t) N pl ∧ kd = (if nx - pl ≤ 8 then 1 else 4) ∧ (nx - pl ≤ 8 → wo = w (fun k => t (pl + k) - 96) (nx - pl).toNat)) ∧
    ((48 ≤ t pl ∧ t pl ≤ 57) → nx = En (dgB t) N pl ∧ kd = (if nx - pl ≤ 7 then 2 else 4) ∧ (nx - pl ≤ 7 → nu = nb (fun k => t (pl + k) - 48) (nx - pl).toNat)) ∧
    (t pl = 59 → kd = 3 ∧ nx = pl + 1) ∧ (¬ (97 ≤ t pl ∧ t pl ≤ 122) → ¬ (48 ≤ t pl ∧ t pl ≤ 57) → t pl ≠ 59 → kd = 4))


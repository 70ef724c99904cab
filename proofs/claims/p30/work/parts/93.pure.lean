variable {sT : pd_S}
/-! the bits of a long counted -/
theorem nl {h l H L : Nat} (hl : l < 256) (hL : L < 256) : (256 * h + l) &&& (256 * H + L) = 256 * (h &&& H) + (l &&& L) := by
  have hb : (l &&& L) < 2 ^ 8 := Nat.lt_of_le_of_lt Nat.and_le_left hl
  refine Nat.eq_of_testBit_eq fun i => ?_
  have e : ∀ {x y : Nat}, y < 2 ^ 8 → (256 * x + y).testBit i = if i < 8 then y.testBit i else x.testBit (i - 8) := fun {x y} hy => Nat.testBit_two_pow_mul_add x hy i
  rw [Nat.testBit_and, e hl, e hL, e hb]
  split <;> rw [Nat.testBit_and]
def bM (c : Nat) : Nat → Nat
  | 0 => 0
  | k + 1 => 256 * bM c k + c
def bB (f : Nat → Nat) : Nat → Nat → Nat
  | 0, _ => 0
  | k + 1, a => 256 * bB f k (a / 256) + f (a % 256)
theorem bB_c {f g : Nat → Nat} (h : ∀ b, b < 256 → f b = g b) : ∀ k a, bB f k a = bB g k a
  | 0, _ => rfl
  | k + 1, a => by
    show 256 * bB f k (a / 256) + f (a % 256) = 256 * bB g k (a / 256) + g (a % 256)
    rw [bB_c h k, h _ (Nat.mod_lt _ (by decide))]
theorem bB_and {c : Nat} (hc : c < 256) : ∀ k x, x &&& bM c k = bB (fun b => b &&& c) k x
  | 0, x => Nat.and_zero x
  | k + 1, x => by
    show x &&& (256 * bM c k + c) = 256 * bB _ k (x / 256) + (x % 256 &&& c)
    rw [← bB_and hc k, ← nl (Nat.mod_lt _ (by decide)) hc, Nat.div_add_mod]
theorem bB_sh {P Q c : Nat} (hP : (P = 2 ∧ Q = 128) ∨ (P = 4 ∧ Q = 64)) (hc : c < 256) (h : ∀ y, y < 256 → ∀ t, t < P → ((y / P + Q * t) &&& c) = (y / P &&& c)) : ∀ k x, (x / P) &&& bM c k = bB (fun b => b / P &&& c) k x
  | 0, x => Nat.and_zero _
  | k + 1, x => by
    show (x / P) &&& (256 * bM c k + c) = 256 * bB _ k (x / 256) + (x % 256 / P &&& c)
    have e : x / P = 256 * (x / 256 / P) + (x % 256 / P + Q * (x / 256 % P)) := by
      rcases hP with ⟨rfl, rfl⟩ | ⟨rfl, rfl⟩ <;> omega
    have l : x % 256 / P + Q * (x / 256 % P) < 256 := by
      rcases hP with ⟨rfl, rfl⟩ | ⟨rfl, rfl⟩ <;> omega
    have l2 : x / 256 % P < P := by
      rcases hP with ⟨rfl, rfl⟩ | ⟨rfl, rfl⟩ <;> omega
    rw [e, nl l hc, bB_sh hP hc h k, h _ (Nat.mod_lt _ (by decide)) _ l2]
theorem bB_bB {f g : Nat → Nat} (hg : ∀ b, b < 256 → g b < 256) : ∀ k a, bB f k (bB g k a) = bB (fun b => f (g b)) k a
  | 0, _ => rfl
  | k + 1, a => by
    have l := hg (a % 256) (Nat.mod_lt _ (by decide))
    show 256 * bB f k ((256 * bB g k (a / 256) + g (a % 256)) / 256) + f ((256 * bB g k (a / 256) + g (a % 256)) % 256) = 256 * bB _ k (a / 256) + f (g (a % 256))
    rw [show (256 * bB g k (a / 256) + g (a % 256)) / 256 = bB g k (a / 256) by omega, show (256 * bB g k (a / 256) + g (a % 256)) % 256 = g (a % 256) by omega, bB_bB hg k]
theorem bB_add {f g : Nat → Nat} : ∀ k a, bB f k a + bB g k a = bB (fun b => f b + g b) k a
  | 0, _ => rfl
  | k + 1, a => by
    have := bB_add (f := f) (g := g) k (a / 256)
    show 256 * bB f k (a / 256) + f (a % 256) + (256 * bB g k (a / 256) + g (a % 256)) = 256 * bB _ k (a / 256) + (f (a % 256) + g (a % 256))
    omega
theorem bB_sub {f : Nat → Nat} (hf : ∀ b, b < 256 → f b ≤ b) : ∀ k a, a < 256 ^ k → bB f k a ≤ a ∧ a - bB f k a = bB (fun b => b - f b) k a
  | 0, a, h => by
    have : a = 0 := by simpa using h
    subst this
    exact ⟨Nat.le_refl _, rfl⟩
  | k + 1, a, h => by
    have e := bB_sub hf k (a / 256) (by rw [Nat.pow_succ] at h; exact Nat.div_lt_of_lt_mul (by rw [Nat.mul_comm]; exact h))
    have l := hf (a % 256) (Nat.mod_lt _ (by decide))
    refine ⟨?_, ?_⟩
    · show 256 * bB f k (a / 256) + f (a % 256) ≤ a
      omega
    · show a - (256 * bB f k (a / 256) + f (a % 256)) = 256 * bB _ k (a / 256) + (a % 256 - f (a % 256))
      omega
theorem bB_nib {d : Nat → Nat} (hd : ∀ b, b < 256 → d b % 16 ≤ 4 ∧ d b / 16 ≤ 4) : ∀ k a, bB (fun b => b &&& 15) k (bB d k a + bB d k a / 16) = bB (fun b => d b % 16 + d b / 16) k a ∧ bB d k a % 16 ≤ 4
  | 0, _ => ⟨rfl, by show 0 % 16 ≤ 4; decide⟩
  | k + 1, a => by
    obtain ⟨e1, e2⟩ := bB_nib hd k (a / 256)
    have l := hd (a % 256) (Nat.mod_lt _ (by decide))
    generalize hq : bB d k (a / 256) = q at e1 e2
    generalize hr : d (a % 256) = r at l
    have ed : bB d (k + 1) a = 256 * q + r := by
      show 256 * bB d k (a / 256) + d (a % 256) = _
      rw [hq, hr]
    rw [ed]
    have y1 : (256 * q + r + (256 * q + r) / 16) / 256 = q + q / 16 := by omega
    have y2 : (256 * q + r + (256 * q + r) / 16) % 256 = r + r / 16 + 16 * (q % 16) := by omega
    refine ⟨?_, by omega⟩
    show 256 * bB _ k ((256 * q + r + (256 * q + r) / 16) / 256) + ((256 * q + r + (256 * q + r) / 16) % 256 &&& 15) = 256 * bB _ k (a / 256) + (d (a % 256) % 16 + d (a % 256) / 16)
    rw [y1, y2, e1, hr]
    have := Nat.and_two_pow_sub_one_eq_mod (r + r / 16 + 16 * (q % 16)) 4
    rw [show 2 ^ 4 - 1 = 15 from rfl] at this
    rw [this]
    omega
def pc (b : Nat) : Nat := b % 2 + b / 2 % 2 + b / 4 % 2 + b / 8 % 2 + b / 16 % 2 + b / 32 % 2 + b / 64 % 2 + b / 128 % 2
def g1 (b : Nat) : Nat := b - (b / 2 &&& 85)
def g2 (b : Nat) : Nat := (b &&& 51) + (b / 4 &&& 51)
theorem g_dec : ∀ b, b < 256 → (b / 2 &&& 85) ≤ b ∧ g1 b < 256 ∧ (g2 (g1 b) % 16 ≤ 4 ∧ g2 (g1 b) / 16 ≤ 4) ∧ g2 (g1 b) % 16 + g2 (g1 b) / 16 = pc b := by decide +kernel
theorem g_85 : ∀ y, y < 256 → ∀ t, t < 2 → ((y / 2 + 128 * t) &&& 85) = (y / 2 &&& 85) := by decide +kernel
theorem g_51 : ∀ y, y < 256 → ∀ t, t < 4 → ((y / 4 + 64 * t) &&& 51) = (y / 4 &&& 51) := by decide +kernel
def pb : Nat → Nat → Nat
  | 0, _ => 0
  | n + 1, a => pb n a + a / 2 ^ n % 2
theorem pb_sm {a : Nat} : ∀ n : Nat, sm (fun i => ci (tb (a : Int) i) 1 0) n = (pb n a : Int)
  | 0 => rfl
  | n + 1 => by
    show sm _ n + ci (tb (a : Int) n) (1 : Int) 0 = ((pb n a + a / 2 ^ n % 2 : Nat) : Int)
    rw [pb_sm n]
    have : ci (tb (a : Int) n) (1 : Int) 0 = ((a / 2 ^ n % 2 : Nat) : Int) := by
      have e : tb (a : Int) n ↔ a / 2 ^ n % 2 = 1 := by
        unfold tb
        rw [Int.toNat_natCast, Int.toNat_natCast, Nat.testBit_eq_decide_div_mod_eq, decide_eq_true_eq]
      rcases Classical.em (tb (a : Int) n) with z | z
      · rw [ci_t z, e.mp z]; rfl
      · have w : a / 2 ^ n % 2 ≠ 1 := fun q => z (e.mpr q)
        rw [ci_f z, show a / 2 ^ n % 2 = 0 by omega]; rfl
    rw [this]; omega
theorem pb_36 {a : Nat} : pb 36 a = 0 + a / 1 % 2 + a / 2 % 2 + a / 4 % 2 + a / 8 % 2 + a / 16 % 2 + a / 32 % 2 + a / 64 % 2 + a / 128 % 2 + a / 256 % 2 + a / 512 % 2 + a / 1024 % 2 + a / 2048 % 2 + a / 4096 % 2 + a / 8192 % 2 + a / 16384 % 2 + a / 32768 % 2 + a / 65536 % 2 + a / 131072 % 2 + a / 262144 % 2 + a / 524288 % 2 + a / 1048576 % 2 + a / 2097152 % 2 + a / 4194304 % 2 + a / 8388608 % 2 + a / 16777216 % 2 + a / 33554432 % 2 + a / 67108864 % 2 + a / 134217728 % 2 + a / 268435456 % 2 + a / 536870912 % 2 + a / 1073741824 % 2 + a / 2147483648 % 2 + a / 4294967296 % 2 + a / 8589934592 % 2 + a / 17179869184 % 2 + a / 34359738368 % 2 := rfl
theorem pc_x (x : Nat) : pc (x % 256) = x % 2 + x / 2 % 2 + x / 4 % 2 + x / 8 % 2 + x / 16 % 2 + x / 32 % 2 + x / 64 % 2 + x / 128 % 2 := by
  unfold pc
  have e0 : x % 256 % 2 = x % 2 := by omega
  have e1 : x % 256 / 2 % 2 = x / 2 % 2 := by omega
  have e2 : x % 256 / 4 % 2 = x / 4 % 2 := by omega
  have e3 : x % 256 / 8 % 2 = x / 8 % 2 := by omega
  have e4 : x % 256 / 16 % 2 = x / 16 % 2 := by omega
  have e5 : x % 256 / 32 % 2 = x / 32 % 2 := by omega
  have e6 : x % 256 / 64 % 2 = x / 64 % 2 := by omega
  have e7 : x % 256 / 128 % 2 = x / 128 % 2 := by omega
  rw [e0, e1, e2, e3, e4, e5, e6, e7]
theorem bit_sum {a : Nat} (h : a < 68719476736) : pc (a % 256) + pc (a / 256 % 256) + pc (a / 256 / 256 % 256) + pc (a / 256 / 256 / 256 % 256) + pc (a / 256 / 256 / 256 / 256 % 256) = pb 36 a := by
  have z36 : a / 68719476736 % 2 = 0 := by omega
  have z37 : a / 137438953472 % 2 = 0 := by omega
  have z38 : a / 274877906944 % 2 = 0 := by omega
  have z39 : a / 549755813888 % 2 = 0 := by omega
  rw [pb_36]
  simp only [pc_x, Nat.div_div_eq_div_mul, Nat.reduceMul, z36, z37, z38, z39, Nat.add_assoc, Nat.zero_add, Nat.add_zero, Nat.div_one]
theorem pc_8 (b : Nat) : pc b ≤ 8 := by unfold pc; omega
theorem and127 {S : Nat} (h : S < 2147483648) : pd_and (S : Int) 127 = ((S % 128 : Nat) : Int) := by
  have e := bn_and (a := S) (b := 127) h (by decide)
  rw [Nat.and_two_pow_sub_one_eq_mod S 7] at e
  exact e
theorem fold_b {p0 p1 p2 p3 p4 : Nat} (l0 : p0 ≤ 8) (l1 : p1 ≤ 8) (l2 : p2 ≤ 8) (l3 : p3 ≤ 8) (l4 : p4 ≤ 8) : (p0 + p1 + p2 + p3 + p4) + 256 * (p1 + p2 + p3 + p4) + 65536 * (p2 + p3 + p4) + 16777216 * (p3 + p4) < 2147483648 := by omega
theorem fold_m {p0 p1 p2 p3 p4 : Nat} (l0 : p0 ≤ 8) (l1 : p1 ≤ 8) (l2 : p2 ≤ 8) (l3 : p3 ≤ 8) (l4 : p4 ≤ 8) : ((p0 + p1 + p2 + p3 + p4) + 256 * (p1 + p2 + p3 + p4) + 65536 * (p2 + p3 + p4) + 16777216 * (p3 + p4)) % 128 = p0 + p1 + p2 + p3 + p4 := by omega
theorem p_bitCount {F : pd_F} {L : Int} (h : lR L) : pfJ13_bitCount_95d88 (pd_SH sT) 5000 F L = some (Sm (fun i => ci (tb L i) 1 0) 36, F) := by
  obtain ⟨a, rfl⟩ := Int.eq_ofNat_of_zero_le h.1
  have ha : a < 68719476736 := by have := h.2; omega
  have c85 : (6148914691236517205 : Int) = ((bM 85 8 : Nat) : Int) := by decide +kernel
  have c51 : (3689348814741910323 : Int) = ((bM 51 8 : Nat) : Int) := by decide +kernel
  have c15 : (1085102592571150095 : Int) = ((bM 15 8 : Nat) : Int) := by decide +kernel
  have m85 : bM 85 8 < 2 ^ 63 := by decide +kernel
  have m51 : bM 51 8 < 2 ^ 63 := by decide +kernel
  have m15 : bM 15 8 < 2 ^ 63 := by decide +kernel
  -- the pairs
  have u1 := bB_sh (P := 2) (Q := 128) (c := 85) (Or.inl ⟨rfl, rfl⟩) (by decide) g_85 8 a
  obtain ⟨v1, v2⟩ := bB_sub (f := fun b => b / 2 &&& 85) (fun b hb => (g_dec b hb).1) 8 a (by omega)
  have w1 : pd_W ((a : Int) - pd_And (pd_Ushr (a : Int) 1) 6148914691236517205) = ((bB g1 8 a : Nat) : Int) := by
    have e := bn_Ushr (a := a) (p := 1) (by omega) (by decide)
    rw [show ((1 : Nat) : Int) = 1 from rfl, show 2 ^ 1 = 2 from rfl] at e
    rw [e, c85, bn_And (by omega) m85, u1, pl_W (by omega)]
    rw [show bB g1 8 a = a - bB (fun b => b / 2 &&& 85) 8 a from v2.symm]
    omega
  have x1b : bB g1 8 a ≤ a := by rw [show bB g1 8 a = a - bB (fun b => b / 2 &&& 85) 8 a from v2.symm]; omega
  -- the fours
  have u2 := bB_and (c := 51) (by decide) 8 (bB g1 8 a)
  have u3 := bB_sh (P := 4) (Q := 64) (c := 51) (Or.inr ⟨rfl, rfl⟩) (by decide) g_51 8 (bB g1 8 a)
  have b2 : (bB g1 8 a &&& bM 51 8) ≤ bB g1 8 a := Nat.and_le_left
  have b3 : (bB g1 8 a / 4 &&& bM 51 8) ≤ bB g1 8 a / 4 := Nat.and_le_left
  have es : (bB g1 8 a &&& bM 51 8) + (bB g1 8 a / 4 &&& bM 51 8) = bB (fun b => g2 (g1 b)) 8 a := by
    rw [u2, u3, bB_bB (fun b hb => (g_dec b hb).2.1), bB_bB (fun b hb => (g_dec b hb).2.1), bB_add]
    rfl
  have w2 : pd_W (pd_And ((bB g1 8 a : Nat) : Int) 3689348814741910323 + pd_And (pd_Ushr ((bB g1 8 a : Nat) : Int) 2) 3689348814741910323) = ((bB (fun b => g2 (g1 b)) 8 a : Nat) : Int) := by
    have e := bn_Ushr (a := bB g1 8 a) (p := 2) (by omega) (by decide)
    rw [show ((2 : Nat) : Int) = 2 from rfl, show 2 ^ 2 = 4 from rfl] at e
    rw [e, c51, bn_And (by omega) m51, bn_And (by omega) m51, pl_W (by omega), ← es]
    omega
  have yb : bB (fun b => g2 (g1 b)) 8 a < 2 ^ 38 := by omega
  have hd : ∀ b, b < 256 → g2 (g1 b) % 16 ≤ 4 ∧ g2 (g1 b) / 16 ≤ 4 := fun b hb => (g_dec b hb).2.2.1
  have u4 := (bB_nib hd 8 a).1
  have u5 := bB_and (c := 15) (by decide) 8 (bB (fun b => g2 (g1 b)) 8 a + bB (fun b => g2 (g1 b)) 8 a / 16)
  have u6 : bB (fun b => g2 (g1 b) % 16 + g2 (g1 b) / 16) 8 a = bB pc 8 a := bB_c (fun b hb => (g_dec b hb).2.2.2) 8 a
  generalize hy : bB (fun b => g2 (g1 b)) 8 a = y at *
  have w3 : pd_And (pd_W ((y : Int) + pd_Ushr (y : Int) 4)) 1085102592571150095 = ((bB pc 8 a : Nat) : Int) := by
    have e := bn_Ushr (a := y) (p := 4) (by omega) (by decide)
    rw [show ((4 : Nat) : Int) = 4 from rfl, show 2 ^ 4 = 16 from rfl] at e
    rw [e, pl_W (by omega), show (y : Int) + ((y / 16 : Nat) : Int) = ((y + y / 16 : Nat) : Int) by omega, c15, bn_And (by omega) m15, u5, u4, u6]
  -- the bytes
  have z5 : a / 256 / 256 / 256 / 256 / 256 = 0 := by omega
  have be : bB pc 8 a = 256 * (256 * (256 * (256 * (256 * bB pc 3 (a / 256 / 256 / 256 / 256 / 256) + pc (a / 256 / 256 / 256 / 256 % 256)) + pc (a / 256 / 256 / 256 % 256)) + pc (a / 256 / 256 % 256)) + pc (a / 256 % 256)) + pc (a % 256) := rfl
  have b0 : bB pc 3 0 = 0 := by decide +kernel
  rw [z5, b0] at be
  have bs := bit_sum ha
  have l0 := pc_8 (a % 256)
  have l1 := pc_8 (a / 256 % 256)
  have l2 := pc_8 (a / 256 / 256 % 256)
  have l3 := pc_8 (a / 256 / 256 / 256 % 256)
  have l4 := pc_8 (a / 256 / 256 / 256 / 256 % 256)
  generalize pc (a % 256) = p0 at *
  generalize pc (a / 256 % 256) = p1 at *
  generalize pc (a / 256 / 256 % 256) = p2 at *
  generalize pc (a / 256 / 256 / 256 % 256) = p3 at *
  generalize pc (a / 256 / 256 / 256 / 256 % 256) = p4 at *
  have hsum : Sm (fun i => ci (tb ((a : Nat) : Int) i) 1 0) 36 = ((p0 + p1 + p2 + p3 + p4 : Nat) : Int) := by
    rw [bs]; exact pb_sm 36
  generalize hE : bB pc 8 a = E at *
  clear u1 u2 u3 u4 u5 u6 v1 v2 b2 b3 es hd x1b
  clear hy yb
  have hE2 : E < 2 ^ 36 := by omega
  have e8 := bn_Ushr (a := E) (p := 8) (by omega) (by decide)
  rw [show ((8 : Nat) : Int) = 8 from rfl, show 2 ^ 8 = 256 from rfl] at e8
  obtain ⟨X4, hX4⟩ : ∃ x, x = E + E / 256 := ⟨_, rfl⟩
  have w4 : pd_W ((E : Int) + pd_Ushr (E : Int) 8) = (X4 : Int) := by rw [e8, pl_W (by omega)]; omega
  have f4 : X4 = (p0 + p1) + 256 * (p1 + p2) + 65536 * (p2 + p3) + 16777216 * (p3 + p4) + 4294967296 * p4 := by omega
  have e16 := bn_Ushr (a := X4) (p := 16) (by omega) (by decide)
  rw [show ((16 : Nat) : Int) = 16 from rfl, show 2 ^ 16 = 65536 from rfl] at e16
  obtain ⟨X5, hX5⟩ : ∃ x, x = X4 + X4 / 65536 := ⟨_, rfl⟩
  have w5' : pd_W ((X4 : Int) + pd_Ushr (X4 : Int) 16) = (X5 : Int) := by rw [e16, pl_W (by omega)]; omega
  have f5 : X5 = (p0 + p1 + p2 + p3) + 256 * (p1 + p2 + p3 + p4) + 65536 * (p2 + p3 + p4) + 16777216 * (p3 + p4) + 4294967296 * p4 := by omega
  have e32 := bn_Ushr (a := X5) (p := 32) (by omega) (by decide)
  rw [show ((32 : Nat) : Int) = 32 from rfl, show 2 ^ 32 = 4294967296 from rfl] at e32
  obtain ⟨X6, hX6⟩ : ∃ x, x = X5 + X5 / 4294967296 := ⟨_, rfl⟩
  have w6 : pd_W ((X5 : Int) + pd_Ushr (X5 : Int) 32) = (X6 : Int) := by rw [e32, pl_W (by omega)]; omega
  have f6 : X6 = (p0 + p1 + p2 + p3 + p4) + 256 * (p1 + p2 + p3 + p4) + 65536 * (p2 + p3 + p4) + 16777216 * (p3 + p4) + 4294967296 * p4 := by omega
  have w7 : pd_w (X6 : Int) = (((p0 + p1 + p2 + p3 + p4) + 256 * (p1 + p2 + p3 + p4) + 65536 * (p2 + p3 + p4) + 16777216 * (p3 + p4) : Nat) : Int) := by unfold pd_w; omega
  have w8 : pd_and (pd_w (X6 : Int)) 127 = ((p0 + p1 + p2 + p3 + p4 : Nat) : Int) := by
    rw [w7, and127 (fold_b l0 l1 l2 l3 l4), fold_m l0 l1 l2 l3 l4]
  rw [hsum]
  unfold pfJ13_bitCount_95d88
  simp only [pl_l, w1, w2, w3, w4, w5', w6, w8]
/-- the class's count -/
theorem p_count {D : pd_F} {s : Int → Int} {F : pd_F} (h : cS D s F) {w : Int} : pfX11_count (pd_SH sT) 5000 F 1 w = some (aCo D s (F 113 4) (F 3 1) w, F) := by
  obtain ⟨h1, h2, h3, h4, h5, h6, h7, h8, h9, h10, h11, h12⟩ := h.2.2.2.2.1
  rw [show (231 : Int) + 2 = 233 from rfl] at h7
  have bc := p_bitCount (sT := sT) (F := F) h10
  rw [← h12] at bc
  have e31 := (e_231 h.1).2.1
  have ob := h.ob (sT := sT)
  unfold pfX11_count aCo
  by_cases w0 : w = 0
  · rw [if_pos w0, if_pos w0]
    simp (disch := omega) only [pl_l, pl_b, pl_iT, pl_t, pl_f, gx_1, gx_2, gx_3, gx_113, lx_1_0 h.1, lx_1_1 h.1, lx_1_2 h.1, lx_1_3 h.1, lx_1_4 h.1, lx_1_5 h.1, lx_1_6 h.1, lx_1_7 h.1, lx_2_0 h.1, lx_3_0 h.1, lx_113_0 h.1, lx_113_1 h.1, lx_113_2 h.1, lx_212_0 h.1, lx_212_1 h.1, ob, h.n0, pl_i]
  by_cases w1 : w = 1
  · rw [if_neg w0, if_neg w0, if_pos w1, if_pos w1]
    simp (disch := omega) only [pl_l, pl_b, pl_iT, pl_t, pl_f, gx_1, gx_2, gx_3, gx_113, lx_1_0 h.1, lx_1_1 h.1, lx_1_2 h.1, lx_1_3 h.1, lx_1_4 h.1, lx_1_5 h.1, lx_1_6 h.1, lx_1_7 h.1, lx_2_0 h.1, lx_3_0 h.1, lx_113_0 h.1, lx_113_1 h.1, lx_113_2 h.1, lx_212_0 h.1, lx_212_1 h.1, ob, h.n1, pl_i]
  by_cases w2 : w = 2
  · rw [if_neg w0, if_neg w0, if_neg w1, if_neg w1, if_pos w2, if_pos w2]
    simp (disch := omega) only [pl_l, pl_b, pl_iT, pl_t, pl_f, gx_1, gx_2, gx_3, gx_113, lx_1_0 h.1, lx_1_1 h.1, lx_1_2 h.1, lx_1_3 h.1, lx_1_4 h.1, lx_1_5 h.1, lx_1_6 h.1, lx_1_7 h.1, lx_2_0 h.1, lx_3_0 h.1, lx_113_0 h.1, lx_113_1 h.1, lx_113_2 h.1, lx_212_0 h.1, lx_212_1 h.1, ob, h.n2, pl_i]
  by_cases w3 : w = 3
  · rw [if_neg w0, if_neg w0, if_neg w1, if_neg w1, if_neg w2, if_neg w2, if_pos w3, if_pos w3]
    simp (disch := omega) only [pl_l, pl_b, pl_iT, pl_t, pl_f, gx_1, gx_2, gx_3, gx_113, lx_1_0 h.1, lx_1_1 h.1, lx_1_2 h.1, lx_1_3 h.1, lx_1_4 h.1, lx_1_5 h.1, lx_1_6 h.1, lx_1_7 h.1, lx_2_0 h.1, lx_3_0 h.1, lx_113_0 h.1, lx_113_1 h.1, lx_113_2 h.1, lx_212_0 h.1, lx_212_1 h.1, ob, h.n3, pl_i]
  by_cases w4 : w = 4
  · rw [if_neg w0, if_neg w0, if_neg w1, if_neg w1, if_neg w2, if_neg w2, if_neg w3, if_neg w3, if_pos w4, if_pos w4]
    simp (disch := omega) only [pl_l, pl_b, pl_iT, pl_t, pl_f, gx_1, gx_2, gx_3, gx_113, lx_1_0 h.1, lx_1_1 h.1, lx_1_2 h.1, lx_1_3 h.1, lx_1_4 h.1, lx_1_5 h.1, lx_1_6 h.1, lx_1_7 h.1, lx_2_0 h.1, lx_3_0 h.1, lx_113_0 h.1, lx_113_1 h.1, lx_113_2 h.1, lx_212_0 h.1, lx_212_1 h.1, ob, h.n4, pl_i]
  by_cases w5 : w = 5
  · rw [if_neg w0, if_neg w0, if_neg w1, if_neg w1, if_neg w2, if_neg w2, if_neg w3, if_neg w3, if_neg w4, if_neg w4, if_pos w5, if_pos w5]
    simp (disch := omega) only [pl_l, pl_b, pl_iT, pl_t, pl_f, gx_1, gx_2, gx_3, gx_113, lx_1_0 h.1, lx_1_1 h.1, lx_1_2 h.1, lx_1_3 h.1, lx_1_4 h.1, lx_1_5 h.1, lx_1_6 h.1, lx_1_7 h.1, lx_2_0 h.1, lx_3_0 h.1, lx_113_0 h.1, lx_113_1 h.1, lx_113_2 h.1, lx_212_0 h.1, lx_212_1 h.1, ox_231, e31, ix_233, h7.1, pl_i]
  by_cases w6 : w = 6
  · rw [if_neg w0, if_neg w0, if_neg w1, if_neg w1, if_neg w2, if_neg w2, if_neg w3, if_neg w3, if_neg w4, if_neg w4, if_neg w5, if_neg w5, if_pos w6, if_pos w6]
    simp (disch := omega) only [pl_l, pl_b, pl_iT, pl_t, pl_f, gx_1, gx_2, gx_3, gx_113, lx_1_0 h.1, lx_1_1 h.1, lx_1_2 h.1, lx_1_3 h.1, lx_1_4 h.1, lx_1_5 h.1, lx_1_6 h.1, lx_1_7 h.1, lx_2_0 h.1, lx_3_0 h.1, lx_113_0 h.1, lx_113_1 h.1, lx_113_2 h.1, lx_212_0 h.1, lx_212_1 h.1, ox_231, e31, ix_233, h7.2.1, pl_i]
  by_cases w7 : w = 7
  · rw [if_neg w0, if_neg w0, if_neg w1, if_neg w1, if_neg w2, if_neg w2, if_neg w3, if_neg w3, if_neg w4, if_neg w4, if_neg w5, if_neg w5, if_neg w6, if_neg w6, if_pos w7, if_pos w7]
    simp (disch := omega) only [pl_l, pl_b, pl_iT, pl_t, pl_f, gx_1, gx_2, gx_3, gx_113, lx_1_0 h.1, lx_1_1 h.1, lx_1_2 h.1, lx_1_3 h.1, lx_1_4 h.1, lx_1_5 h.1, lx_1_6 h.1, lx_1_7 h.1, lx_2_0 h.1, lx_3_0 h.1, lx_113_0 h.1, lx_113_1 h.1, lx_113_2 h.1, lx_212_0 h.1, lx_212_1 h.1, ox_231, e31, ix_233, h7.2.2, pl_i]
  by_cases w8 : w = 8
  · rw [if_neg w0, if_neg w0, if_neg w1, if_neg w1, if_neg w2, if_neg w2, if_neg w3, if_neg w3, if_neg w4, if_neg w4, if_neg w5, if_neg w5, if_neg w6, if_neg w6, if_neg w7, if_neg w7, if_pos w8, if_pos w8]
    simp (disch := omega) only [pl_l, pl_b, pl_iT, pl_t, pl_f, gx_1, gx_2, gx_3, gx_113, lx_1_0 h.1, lx_1_1 h.1, lx_1_2 h.1, lx_1_3 h.1, lx_1_4 h.1, lx_1_5 h.1, lx_1_6 h.1, lx_1_7 h.1, lx_2_0 h.1, lx_3_0 h.1, lx_113_0 h.1, lx_113_1 h.1, lx_113_2 h.1, lx_212_0 h.1, lx_212_1 h.1, ox_231, h8, pl_i]
  by_cases w9 : w = 9
  · rw [if_neg w0, if_neg w0, if_neg w1, if_neg w1, if_neg w2, if_neg w2, if_neg w3, if_neg w3, if_neg w4, if_neg w4, if_neg w5, if_neg w5, if_neg w6, if_neg w6, if_neg w7, if_neg w7, if_neg w8, if_neg w8, if_pos w9, if_pos w9]
    simp (disch := omega) only [pl_l, pl_b, pl_iT, pl_t, pl_f, gx_1, gx_2, gx_3, gx_113, lx_1_0 h.1, lx_1_1 h.1, lx_1_2 h.1, lx_1_3 h.1, lx_1_4 h.1, lx_1_5 h.1, lx_1_6 h.1, lx_1_7 h.1, lx_2_0 h.1, lx_3_0 h.1, lx_113_0 h.1, lx_113_1 h.1, lx_113_2 h.1, lx_212_0 h.1, lx_212_1 h.1, ox_231, bc, pl_i]
  by_cases w10 : w = 10
  · rw [if_neg w0, if_neg w0, if_neg w1, if_neg w1, if_neg w2, if_neg w2, if_neg w3, if_neg w3, if_neg w4, if_neg w4, if_neg w5, if_neg w5, if_neg w6, if_neg w6, if_neg w7, if_neg w7, if_neg w8, if_neg w8, if_neg w9, if_neg w9, if_pos w10, if_pos w10]
    simp (disch := omega) only [pl_l, pl_b, pl_iT, pl_t, pl_f, gx_1, gx_2, gx_3, gx_113, lx_1_0 h.1, lx_1_1 h.1, lx_1_2 h.1, lx_1_3 h.1, lx_1_4 h.1, lx_1_5 h.1, lx_1_6 h.1, lx_1_7 h.1, lx_2_0 h.1, lx_3_0 h.1, lx_113_0 h.1, lx_113_1 h.1, lx_113_2 h.1, lx_212_0 h.1, lx_212_1 h.1, pl_i]
  by_cases w11 : w = 11
  · rw [if_neg w0, if_neg w0, if_neg w1, if_neg w1, if_neg w2, if_neg w2, if_neg w3, if_neg w3, if_neg w4, if_neg w4, if_neg w5, if_neg w5, if_neg w6, if_neg w6, if_neg w7, if_neg w7, if_neg w8, if_neg w8, if_neg w9, if_neg w9, if_neg w10, if_neg w10, if_pos w11, if_pos w11]
    simp (disch := omega) only [pl_l, pl_b, pl_iT, pl_t, pl_f, gx_1, gx_2, gx_3, gx_113, lx_1_0 h.1, lx_1_1 h.1, lx_1_2 h.1, lx_1_3 h.1, lx_1_4 h.1, lx_1_5 h.1, lx_1_6 h.1, lx_1_7 h.1, lx_2_0 h.1, lx_3_0 h.1, lx_113_0 h.1, lx_113_1 h.1, lx_113_2 h.1, lx_212_0 h.1, lx_212_1 h.1, pl_i]
  rw [if_neg w0, if_neg w0, if_neg w1, if_neg w1, if_neg w2, if_neg w2, if_neg w3, if_neg w3, if_neg w4, if_neg w4, if_neg w5, if_neg w5, if_neg w6, if_neg w6, if_neg w7, if_neg w7, if_neg w8, if_neg w8, if_neg w9, if_neg w9, if_neg w10, if_neg w10, if_neg w11, if_neg w11]


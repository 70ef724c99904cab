/-! the reference: a person, other days -/
def w5 (c : Nat → Int) : Nat → Int
  | 0 => 0
  | k + 1 => w5 c k * 32 + c k
def w8 (c : Nat → Int) : Nat → Int
  | 0 => 0
  | k + 1 => w8 c k * 256 + (c k + 96)
theorem w5_bd {c : Nat → Int} {n : Nat} (h : ∀ k, k < n → 1 ≤ c k ∧ c k ≤ 26) : 0 ≤ w5 c n ∧ w5 c n < ((2 ^ (5 * n) : Nat) : Int) ∧ (0 < n → 1 ≤ w5 c n) := by
  induction n with
  | zero => refine ⟨Int.le_refl _, by show (0 : Int) < ((1 : Nat) : Int); decide, fun h => absurd h (Nat.lt_irrefl _)⟩
  | succ n ih =>
    have a := ih (fun k hk => h k (by omega))
    have b := h n (by omega)
    have e : 2 ^ (5 * (n + 1)) = 2 ^ (5 * n) * 32 := by rw [Nat.mul_add, Nat.pow_add]
    rw [e]
    show 0 ≤ w5 c n * 32 + c n ∧ w5 c n * 32 + c n < _ ∧ (_ → 1 ≤ w5 c n * 32 + c n)
    omega
theorem bn_Shr {a p : Nat} (ha : a < 2 ^ 63) (hp : p < 64) : pd_Shr a p = ((a / 2 ^ p : Nat) : Int) := by
  unfold pd_Shr
  have hs : ∀ n, n < 64 → (((Int32.ofNat n).toInt64 &&& 63).toBitVec.smod 64).toNat = n := by decide +kernel
  have es : (((Int32.ofInt (p : Int)).toInt64 &&& 63).toBitVec.smod 64).toNat = p := by
    have e : Int32.ofInt (p : Int) = Int32.ofNat p := Int32.toBitVec_inj.mp (bn_i32 p)
    rw [e]; exact hs p hp
  have hm : (BitVec.ofNat 64 a).msb = false := by
    rw [BitVec.msb_eq_decide, BitVec.toNat_ofNat, Nat.mod_eq_of_lt (by omega)]
    exact decide_eq_false (by omega)
  have e : (Int64.ofInt (a : Int) >>> ((Int32.ofInt (p : Int)).toInt64 &&& 63)).toBitVec.toNat = a / 2 ^ p := by
    rw [Int64.toBitVec_shiftRight, BitVec.sshiftRight_eq', es, bn_i64, BitVec.toNat_sshiftRight_of_msb_false hm, BitVec.toNat_ofNat, Nat.mod_eq_of_lt (by omega), Nat.shiftRight_eq_div_pow]
  have h : a / 2 ^ p ≤ a := Nat.div_le_self _ _
  show (Int64.ofInt (a : Int) >>> ((Int32.ofInt (p : Int)).toInt64 &&& 63)).toBitVec.toInt = _
  rw [bn_t64 (by omega), e]
theorem pl_Shr5 {x : Int} (h : 0 ≤ x ∧ x < 9223372036854775808) : pd_Shr x 5 = x / 32 := by
  obtain ⟨a, rfl⟩ := Int.eq_ofNat_of_zero_le h.1
  have := bn_Shr (a := a) (p := 5) (by omega) (by decide)
  rw [show ((5 : Nat) : Int) = 5 from rfl] at this
  rw [this]
  omega
theorem r_firstLetter {F : pd_F} {c : Nat → Int} {n : Nat} (hn : 1 ≤ n ∧ n ≤ 8) (h : ∀ k, k < n → 1 ≤ c k ∧ c k ≤ 26) : pfX12_firstLetter pd_SH 5000 F (w5 c n) = some (c 0 - 1, F) := by
  unfold pfX12_firstLetter
  refine pl_whl (f := fun j (q : Int) => pfX12_firstLetter_b2 pd_SH 5000 j F q) (P := fun m q => m < 8 ∧ q = w5 c (m + 1) ∧ ∀ k, k < m + 1 → 1 ≤ c k ∧ c k ≤ 26) (res := fun o => o = some (c 0 - 1, F)) ?_ 5000 (n - 1) (w5 c n) (by omega) ⟨by omega, by rw [show n - 1 + 1 = n by omega], fun k hk => h k (by omega)⟩
  intro j m q ⟨hm, e, hc⟩
  match m with
  | 0 =>
    right
    have b := hc 0 (by omega)
    have e1 : q = c 0 := by rw [e]; show 0 * 32 + c 0 = _; omega
    show pfX12_firstLetter_b2 pd_SH 5000 (j + 1) F q = _
    rw [e1]
    simp (disch := omega) only [pfX12_firstLetter_b2, pl_w, if_pos]
  | m + 1 =>
    left
    have a := w5_bd (c := c) (n := m + 1) (fun k hk => hc k (by omega))
    have a2 := w5_bd (c := c) (n := m + 1 + 1) (fun k hk => hc k (by omega))
    have b := hc (m + 1) (by omega)
    have e1 : q = w5 c (m + 1) * 32 + c (m + 1) := e
    have hp : 2 ^ (5 * (m + 1 + 1)) ≤ 2 ^ 45 := Nat.pow_le_pow_right (by decide) (by omega)
    have e2 : w5 c (m + 1 + 1) = w5 c (m + 1) * 32 + c (m + 1) := rfl
    have h1 := a.2.2 (by omega)
    refine ⟨m, w5 c (m + 1), by omega, ⟨by omega, rfl, fun k hk => hc k (by omega)⟩, ?_⟩
    show pfX12_firstLetter_b2 pd_SH 5000 (j + 1) F q = pfX12_firstLetter_b2 pd_SH 5000 j F _
    have hb : 0 ≤ q ∧ q < 9223372036854775808 := by
      have : ((2 ^ 45 : Nat) : Int) = 35184372088832 := by decide
      omega
    have hs := pl_Shr5 hb
    have hd : q / 32 = w5 c (m + 1) := by omega
    simp (disch := omega) only [pfX12_firstLetter_b2, pl_l, pl_b, pl_iT, pl_t, pl_f, hs, hd, if_neg]
section RP
variable {D : pd_F} {s : Int → Int} {F : pd_F}
noncomputable def aPs (D : pd_F) (s : Int → Int) (p w f : Int) : Int := if 0 ≤ p ∧ p < D 369 0 then (if w = 0 then D 375 p else if 1 ≤ w ∧ w ≤ 3 then (if w ≤ D 375 p then D 376 (3 * p + w - 1) else 0) else if w = 4 then D 377 p else if w = 5 then sN D s p else if w = 6 then f else -1) else -1
theorem q_person (h : rS D s F) {p w : Int} {c : Nat → Int} {n : Nat} (hn : 0 ≤ p → p < D 369 0 → (1 ≤ n ∧ n ≤ 8) ∧ (∀ k, k < n → 1 ≤ c k ∧ c k ≤ 26) ∧ D 374 p = w5 c n) : ∃ F', pfX12_person pd_SH 5000 F 367 p w = some (aPs D s p w (c 0 - 1), F') ∧ pd_Ly F' ∧ qF F F' := by
  have h' := h.th 0
  have n1 := h'.np
  unfold pfX12_person aPs
  simp only [pl_l, pl_b, pl_iT, pl_t, pl_f, gx_367, gx_368, gx_369, gx_370, gx_371, gx_372, gx_373, gx_374, gx_375, gx_376, gx_377, gx_378, gx_379, gx_380, gx_381, gx_382, gx_383, gx_384, gx_385, gx_386, gx_387, gx_388, gx_389, gx_390, gx_391, gx_392, gx_393, gx_394, gx_395, gx_396, gx_397, gx_398, gx_399, gx_400, gx_401, gx_402, gx_403, gn_368, gn_369, gn_370, gn_371, gn_372, gn_373, gn_374, gn_375, gn_376, gn_377, gn_378, gn_379, gn_380, gn_381, gn_382, gn_383, gn_384, gn_385, gn_386, gn_387, gn_388, gn_389, gn_390, gn_391, gn_392, gn_393, gn_394, gn_395, gn_396, gn_397, gn_398, gn_399, gn_400, gn_401, gn_402, gn_403, r_isPerson h'.1 n1]
  rw [h'.2.1 369 (by decide) (by decide)] at n1 ⊢
  by_cases k : 0 ≤ p ∧ p < D 369 0
  · obtain ⟨G, f1, f2, f3, f4, f5⟩ := q_deps h'
    obtain ⟨hn1, hn2, hn3⟩ := hn k.1 k.2
    have hl := r_firstLetter (F := G) hn1 hn2
    have b3 := h.2.2.2.1.2.1 p k.1 k.2
    have bi := h.2.2.2.1.2.2.2.2.2.2 p k.1 k.2
    rw [if_pos k, if_pos (by decide), if_pos k, f1]
    refine ⟨G, ?_, f2.1, (qF.th F 0).tr f3.q⟩
    simp only [pl_l, pl_b, pl_iT, pl_t, pl_f, gx_367, gx_368, gx_369, gx_370, gx_371, gx_372, gx_373, gx_374, gx_375, gx_376, gx_377, gx_378, gx_379, gx_380, gx_381, gx_382, gx_383, gx_384, gx_385, gx_386, gx_387, gx_388, gx_389, gx_390, gx_391, gx_392, gx_393, gx_394, gx_395, gx_396, gx_397, gx_398, gx_399, gx_400, gx_401, gx_402, gx_403, gn_368, gn_369, gn_370, gn_371, gn_372, gn_373, gn_374, gn_375, gn_376, gn_377, gn_378, gn_379, gn_380, gn_381, gn_382, gn_383, gn_384, gn_385, gn_386, gn_387, gn_388, gn_389, gn_390, gn_391, gn_392, gn_393, gn_394, gn_395, gn_396, gn_397, gn_398, gn_399, gn_400, gn_401, gn_402, gn_403, lm_1 f2.1, lm_14 f2.1, lm_15 f2.1, lm_16 f2.1, lm_17 f2.1, lm_18 f2.1, lm_19 f2.1, lm_20 f2.1, lm_21 f2.1, lm_22 f2.1, lm_23 f2.1, lm_24 f2.1, lm_25 f2.1, lm_26 f2.1, lm_27 f2.1, lm_28 f2.1, lm_29 f2.1, lm_30 f2.1, lm_31 f2.1, lm_32 f2.1, lm_33 f2.1, lm_34 f2.1, lm_35 f2.1, lm_36 f2.1, lm_37 f2.1, lm_39 f2.1, lm_40 f2.1, lm_42 f2.1, lm_43 f2.1, lm_44 f2.1, lm_45 f2.1, lm_47 f2.1, lm_48 f2.1, lm_49 f2.1, lm_50 f2.1, lm_51 f2.1, f2.2.1 374 (by decide) (by decide), f2.2.1 375 (by decide) (by decide), f2.2.1 376 (by decide) (by decide), f2.2.1 377 (by decide) (by decide), f5 p k.1 k.2, hn3, hl]
    rw [pl_i (show 0 ≤ p ∧ p < 24 by omega), pl_i (show 0 ≤ p ∧ p < 24 by omega), pl_i (show 0 ≤ p ∧ p < 24 by omega), pl_i (show 0 ≤ p ∧ p < 12 by omega)]
    by_cases w0 : w = 0
    · rw [if_pos w0, if_pos w0]
    rw [if_neg w0, if_neg w0]
    by_cases w1 : w = 1
    · subst w1
      rw [if_pos rfl, if_pos (show (1 : Int) ≤ 1 ∧ (1 : Int) ≤ 3 by decide), pl_w (x := 3 * p) (by omega), pl_w (x := 3 * p + 1) (by omega), pl_w (x := 3 * p + 1 - 1) (by omega)]
      by_cases z : 1 > D 375 p
      · rw [if_pos z, if_neg (by omega)]
      · rw [if_neg z, if_pos (by omega), pl_i (by omega)]
    by_cases w2 : w = 2
    · subst w2
      rw [if_neg w1, if_pos rfl, if_pos (show (1 : Int) ≤ 2 ∧ (2 : Int) ≤ 3 by decide), pl_w (x := 3 * p) (by omega), pl_w (x := 3 * p + 2) (by omega), pl_w (x := 3 * p + 2 - 1) (by omega)]
      by_cases z : 2 > D 375 p
      · rw [if_pos z, if_neg (by omega)]
      · rw [if_neg z, if_pos (by omega), pl_i (by omega)]
    by_cases w3 : w = 3
    · subst w3
      rw [if_neg w1, if_neg w2, if_pos rfl, if_pos (show (1 : Int) ≤ 3 ∧ (3 : Int) ≤ 3 by decide), pl_w (x := 3 * p) (by omega), pl_w (x := 3 * p + 3) (by omega), pl_w (x := 3 * p + 3 - 1) (by omega)]
      by_cases z : 3 > D 375 p
      · rw [if_pos z, if_neg (by omega)]
      · rw [if_neg z, if_pos (by omega), pl_i (by omega)]
    rw [if_neg w1, if_neg w2, if_neg w3, if_neg (show ¬ (1 ≤ w ∧ w ≤ 3) by omega)]
    by_cases w4 : w = 4
    · rw [if_pos w4, if_pos w4]
      rcases bi with z | z
      · rw [z, if_pos rfl]
      · rw [z, if_neg (by decide)]
    rw [if_neg w4, if_neg w4]
    by_cases w5' : w = 5
    · rw [if_pos w5', if_pos w5']
    rw [if_neg w5', if_neg w5']
    by_cases w6 : w = 6
    · rw [if_pos w6, if_pos w6, pl_i (by omega)]
    · rw [if_neg w6, if_neg w6]
  · rw [if_neg k, if_neg (by decide), if_neg k]
    exact ⟨_, rfl, h'.1, qF.th F 0⟩
/-- a row with one number told anew -/
def ru (s : Int → Int) (j v : Int) : Int → Int := fun i => if i = j then v else s i
theorem ru_e {s : Int → Int} {j v : Int} : ru s j v j = v := if_pos rfl
theorem ru_n {s : Int → Int} {j v i : Int} (h : i ≠ j) : ru s j v i = s i := if_neg h
theorem ru_back {s : Int → Int} {j v : Int} : ru (ru s j v) j (s j) = s := by
  funext i
  by_cases h : i = j
  · rw [h, ru_e]
  · rw [ru_n h, ru_n h]
theorem pu_row {F : pd_F} {a i v : Int} : pd_up F a i v a = ru (F a) i v := by
  funext j
  rw [pu_r]; rfl
theorem aOk.up {D : pd_F} {s : Int → Int} (h : aOk D s) (hb : bOk D) {j v : Int} (hj : j = 71 ∨ (10 ≤ j ∧ j < 70) ∨ (74 ≤ j ∧ j < 110)) : aOk D (ru s j v) := by
  have n := hb.1.2.2.2.2.2.1
  refine ⟨fun a x y => ?_, ?_, ?_, ?_, ?_⟩
  · rw [ru_n (by omega)]; exact h.1 a x y
  · rw [ru_n (by omega)]; exact h.2.1
  · rw [ru_n (by omega)]; exact h.2.2.1
  · rw [ru_n (by omega)]; exact h.2.2.2.1
  · rw [ru_n (by omega)]; exact h.2.2.2.2
/-- the row of acts told anew -/
theorem rS.row {D : pd_F} {s s' : Int → Int} {F G : pd_F} (h : rS D s F) (hl : pd_Ly G) (hf : ∀ b, b ≠ 393 → G b = F b) (hr : G 393 = s') (ha : aOk D s') : rS D s' G :=
  ⟨hl, fun b x y => (hf b (by omega)).trans (h.2.1 b x y), hr, h.2.2.2.1, ha⟩
theorem rS.up {D : pd_F} {s : Int → Int} {F : pd_F} (h : rS D s F) {j v : Int} (ha : aOk D (ru s j v)) : rS D (ru s j v) (pd_up F 393 j v) :=
  h.row (h.1.up (pl_rc0 sx_393 (by decide))) (fun b hb => pu_a hb) (by rw [pu_row, h.2.2.1]) ha
/-- what a call leaves that reckons over another row of acts for a while -/
def tF (F G : pd_F) : Prop := (∀ b, b ≠ 367 → b ≠ 393 → (b < 397 ∨ 403 < b) → G b = F b) ∧ ∀ j, j ≠ 46 → j ≠ 0 → G 367 j = F 367 j
theorem tF.rf (F : pd_F) : tF F F := ⟨fun _ _ _ _ => rfl, fun _ _ _ => rfl⟩
theorem tF.tr {F G H : pd_F} (h : tF F G) (g : tF G H) : tF F H := ⟨fun b a c d => (g.1 b a c d).trans (h.1 b a c d), fun j a b => (g.2 j a b).trans (h.2 j a b)⟩
theorem qF.t {F G : pd_F} (h : qF F G) : tF F G := ⟨fun b a _ c => h.1 b a c, h.2⟩
theorem tF.q {F G : pd_F} (h : tF F G) (e : G 393 = F 393) : qF F G := ⟨fun b a c => by
  by_cases k : b = 393
  · rw [k]; exact e
  · exact h.1 b a k c, h.2⟩
theorem tF.up (F : pd_F) (j v : Int) : tF F (pd_up F 393 j v) := ⟨fun b _ x _ => pu_a x, fun j _ _ => by rw [pu_a (by decide)]⟩
theorem q_paidOn (h : rS D s F) {day : Int} : ∃ F', pfX12_paidOn pd_SH 5000 F 367 day = some (cPU D (ru s 71 day) (s 72), F') ∧ rS D s F' ∧ qF F F' := by
  have h1 := h.up (h.2.2.2.2.up h.2.2.2.1 (j := 71) (v := day) (Or.inl rfl))
  obtain ⟨G, f1, f2, f3, f4⟩ := q_paidNow h1
  have h2 := f3.up (j := 71) (v := s 71) (by rw [ru_back]; exact h.2.2.2.2)
  rw [ru_back] at h2
  rw [ru_n (show (72 : Int) ≠ 71 by decide)] at f1
  refine ⟨pd_up G 393 71 (s 71), ?_, h2, ?_⟩
  · unfold pfX12_paidOn
    simp only [pl_l, pl_b, pl_iT, pl_t, pl_f, gx_367, gx_368, gx_369, gx_370, gx_371, gx_372, gx_373, gx_374, gx_375, gx_376, gx_377, gx_378, gx_379, gx_380, gx_381, gx_382, gx_383, gx_384, gx_385, gx_386, gx_387, gx_388, gx_389, gx_390, gx_391, gx_392, gx_393, gx_394, gx_395, gx_396, gx_397, gx_398, gx_399, gx_400, gx_401, gx_402, gx_403, gn_368, gn_369, gn_370, gn_371, gn_372, gn_373, gn_374, gn_375, gn_376, gn_377, gn_378, gn_379, gn_380, gn_381, gn_382, gn_383, gn_384, gn_385, gn_386, gn_387, gn_388, gn_389, gn_390, gn_391, gn_392, gn_393, gn_394, gn_395, gn_396, gn_397, gn_398, gn_399, gn_400, gn_401, gn_402, gn_403, lm_1 h.1, lm_14 h.1, lm_15 h.1, lm_16 h.1, lm_17 h.1, lm_18 h.1, lm_19 h.1, lm_20 h.1, lm_21 h.1, lm_22 h.1, lm_23 h.1, lm_24 h.1, lm_25 h.1, lm_26 h.1, lm_27 h.1, lm_28 h.1, lm_29 h.1, lm_30 h.1, lm_31 h.1, lm_32 h.1, lm_33 h.1, lm_34 h.1, lm_35 h.1, lm_36 h.1, lm_37 h.1, lm_39 h.1, lm_40 h.1, lm_42 h.1, lm_43 h.1, lm_44 h.1, lm_45 h.1, lm_47 h.1, lm_48 h.1, lm_49 h.1, lm_50 h.1, lm_51 h.1, h.2.2.1]
    rw [pl_i (by omega), f1]
    simp only [pl_l, pl_b, pl_iT, pl_t, pl_f, gx_367, gx_368, gx_369, gx_370, gx_371, gx_372, gx_373, gx_374, gx_375, gx_376, gx_377, gx_378, gx_379, gx_380, gx_381, gx_382, gx_383, gx_384, gx_385, gx_386, gx_387, gx_388, gx_389, gx_390, gx_391, gx_392, gx_393, gx_394, gx_395, gx_396, gx_397, gx_398, gx_399, gx_400, gx_401, gx_402, gx_403, gn_368, gn_369, gn_370, gn_371, gn_372, gn_373, gn_374, gn_375, gn_376, gn_377, gn_378, gn_379, gn_380, gn_381, gn_382, gn_383, gn_384, gn_385, gn_386, gn_387, gn_388, gn_389, gn_390, gn_391, gn_392, gn_393, gn_394, gn_395, gn_396, gn_397, gn_398, gn_399, gn_400, gn_401, gn_402, gn_403, lm_1 f3.1, lm_14 f3.1, lm_15 f3.1, lm_16 f3.1, lm_17 f3.1, lm_18 f3.1, lm_19 f3.1, lm_20 f3.1, lm_21 f3.1, lm_22 f3.1, lm_23 f3.1, lm_24 f3.1, lm_25 f3.1, lm_26 f3.1, lm_27 f3.1, lm_28 f3.1, lm_29 f3.1, lm_30 f3.1, lm_31 f3.1, lm_32 f3.1, lm_33 f3.1, lm_34 f3.1, lm_35 f3.1, lm_36 f3.1, lm_37 f3.1, lm_39 f3.1, lm_40 f3.1, lm_42 f3.1, lm_43 f3.1, lm_44 f3.1, lm_45 f3.1, lm_47 f3.1, lm_48 f3.1, lm_49 f3.1, lm_50 f3.1, lm_51 f3.1]
    rw [pl_i (by omega)]
  · exact (((tF.up F 71 day).tr f4.q.t).tr (tF.up G 71 (s 71))).q (by rw [h2.2.2.1, h.2.2.1])
theorem q_onDay (h : rS D s F) {day : Int} : ∃ F', pfX12_onDay pd_SH 5000 F 367 day = some (if 0 ≤ day ∧ day ≤ 999 then cPU D (ru s 71 day) (s 72) else -1, F') ∧ rS D s F' ∧ qF F F' := by
  have h' := h.th 0
  unfold pfX12_onDay
  simp only [pl_l, pl_b, pl_iT, pl_t, pl_f, gx_367, gx_368, gx_369, gx_370, gx_371, gx_372, gx_373, gx_374, gx_375, gx_376, gx_377, gx_378, gx_379, gx_380, gx_381, gx_382, gx_383, gx_384, gx_385, gx_386, gx_387, gx_388, gx_389, gx_390, gx_391, gx_392, gx_393, gx_394, gx_395, gx_396, gx_397, gx_398, gx_399, gx_400, gx_401, gx_402, gx_403, gn_368, gn_369, gn_370, gn_371, gn_372, gn_373, gn_374, gn_375, gn_376, gn_377, gn_378, gn_379, gn_380, gn_381, gn_382, gn_383, gn_384, gn_385, gn_386, gn_387, gn_388, gn_389, gn_390, gn_391, gn_392, gn_393, gn_394, gn_395, gn_396, gn_397, gn_398, gn_399, gn_400, gn_401, gn_402, gn_403, r_within]
  by_cases k : 0 ≤ day ∧ day ≤ 999
  · obtain ⟨G, f1, f2, f3⟩ := q_paidOn h' (day := day)
    rw [if_pos k, if_neg (by decide), if_pos k, f1]
    exact ⟨G, rfl, f2, (qF.th F 0).tr f3⟩
  · rw [if_neg k, if_pos rfl, if_neg k]
    exact ⟨_, rfl, h', qF.th F 0⟩
/-- v is better than d: less (0) or more (1) is paid -/
noncomputable def fDay (D : pd_F) (s : Int → Int) (d : Int) : Int := cPU D (ru s 71 d) (s 72)
def aBe (D : pd_F) (s : Int → Int) (w v d : Int) : Prop := if w = 0 then fDay D s v ≤ fDay D s d ∧ (d < v → fDay D s v < fDay D s d) else fDay D s d ≤ fDay D s v ∧ (d < v → fDay D s d < fDay D s v)
def aBd (D : pd_F) (s : Int → Int) (a b w v : Int) : Prop := a ≤ v ∧ v ≤ b ∧ ∀ d, a ≤ d → d ≤ b → aBe D s w v d
def bdOk (a b w : Int) : Prop := (0 ≤ a ∧ a ≤ 999) ∧ (a ≤ b ∧ b ≤ 999) ∧ 0 ≤ w ∧ w ≤ 1
theorem q_bestDay (h : rS D s F) {a b w : Int} : ∃ F' v, pfX12_bestDay pd_SH 5000 F 367 a b w = some (v, F') ∧ rS D s F' ∧ qF F F' ∧ ((¬ bdOk a b w ∧ v = -1) ∨ (bdOk a b w ∧ aBd D s a b w v)) := by
  have h' := h.th 0
  unfold pfX12_bestDay
  simp only [pl_l, pl_b, pl_iT, pl_t, pl_f, gx_367, gx_368, gx_369, gx_370, gx_371, gx_372, gx_373, gx_374, gx_375, gx_376, gx_377, gx_378, gx_379, gx_380, gx_381, gx_382, gx_383, gx_384, gx_385, gx_386, gx_387, gx_388, gx_389, gx_390, gx_391, gx_392, gx_393, gx_394, gx_395, gx_396, gx_397, gx_398, gx_399, gx_400, gx_401, gx_402, gx_403, gn_368, gn_369, gn_370, gn_371, gn_372, gn_373, gn_374, gn_375, gn_376, gn_377, gn_378, gn_379, gn_380, gn_381, gn_382, gn_383, gn_384, gn_385, gn_386, gn_387, gn_388, gn_389, gn_390, gn_391, gn_392, gn_393, gn_394, gn_395, gn_396, gn_397, gn_398, gn_399, gn_400, gn_401, gn_402, gn_403, r_within]
  rcases Classical.em (¬ (0 ≤ a ∧ a ≤ 999)) with k1 | k1
  · rw [if_neg k1, if_pos rfl]
    exact ⟨_, _, rfl, h', qF.th F 0, Or.inl ⟨fun z => k1 z.1, rfl⟩⟩
  have k1 := Classical.not_not.mp k1
  rw [if_pos k1, if_neg (by decide)]
  rcases Classical.em (¬ (a ≤ b ∧ b ≤ 999)) with k2 | k2
  · rw [if_neg k2, if_pos rfl]
    exact ⟨_, _, rfl, h', qF.th F 0, Or.inl ⟨fun z => k2 z.2.1, rfl⟩⟩
  have k2 := Classical.not_not.mp k2
  rw [if_pos k2, if_neg (by decide)]
  rcases Classical.em (¬ (0 ≤ w ∧ w ≤ 1)) with k3 | k3
  · rw [if_neg k3, if_neg (by decide)]
    exact ⟨_, _, rfl, h', qF.th F 0, Or.inl ⟨fun z => k3 z.2.2, rfl⟩⟩
  have k3 := Classical.not_not.mp k3
  rw [if_pos k3, if_pos (by decide)]
  have key : ∃ F' v, pfX12_bestDay_b51 pd_SH 5000 5000 (pd_up F 367 0 0) 367 b w (-1) 0 a = some (v, F') ∧ rS D s F' ∧ qF F F' ∧ aBd D s a b w v := by
    refine pl_for (f := fun j (q : pd_F × Int × Int) i => pfX12_bestDay_b51 pd_SH 5000 j q.1 367 b w q.2.1 q.2.2 i)
      (P := fun i q => a ≤ i ∧ rS D s q.1 ∧ qF F q.1 ∧ ((i = a ∧ q.2.1 = -1) ∨ (a ≤ q.2.1 ∧ q.2.1 < i ∧ q.2.2 = fDay D s q.2.1 ∧ ∀ d, a ≤ d → d < i → aBe D s w q.2.1 d))) (N := b + 1)
      (res := fun o => ∃ F' v, o = some (v, F') ∧ rS D s F' ∧ qF F F' ∧ aBd D s a b w v) ?_ ?_ 5000 (pd_up F 367 0 0, -1, 0) a k1.1 (by omega) (by omega) ⟨Int.le_refl _, h', qF.th F 0, Or.inl ⟨rfl, rfl⟩⟩
    · intro j ⟨G, best, most⟩ i x y ⟨q0, q1, q2, q3⟩
      simp only at q0 q1 q2 q3
      obtain ⟨G', f1, f2, f3⟩ := q_paidOn q1 (day := i)
      left
      rcases q3 with ⟨e1, e2⟩ | ⟨e1, e2, e3, e4⟩
      · refine ⟨(G', i, fDay D s i), ⟨by omega, f2, q2.tr f3, Or.inr ⟨by show a ≤ i; omega, by show i < i + 1; omega, rfl, fun d u v => ?_⟩⟩, ?_⟩
        · have : d = i := by omega
          subst this
          show aBe D s w d d
          unfold aBe
          split <;> omega
        · show pfX12_bestDay_b51 pd_SH 5000 (j + 1) G 367 b w best most i = _
          simp (disch := omega) only [pfX12_bestDay_b51, pfX12_bestDay_b96, pfX12_bestDay_b104, pl_l, pl_b, pl_iT, pl_t, pl_f, gx_367, gx_368, gx_369, gx_370, gx_371, gx_372, gx_373, gx_374, gx_375, gx_376, gx_377, gx_378, gx_379, gx_380, gx_381, gx_382, gx_383, gx_384, gx_385, gx_386, gx_387, gx_388, gx_389, gx_390, gx_391, gx_392, gx_393, gx_394, gx_395, gx_396, gx_397, gx_398, gx_399, gx_400, gx_401, gx_402, gx_403, gn_368, gn_369, gn_370, gn_371, gn_372, gn_373, gn_374, gn_375, gn_376, gn_377, gn_378, gn_379, gn_380, gn_381, gn_382, gn_383, gn_384, gn_385, gn_386, gn_387, gn_388, gn_389, gn_390, gn_391, gn_392, gn_393, gn_394, gn_395, gn_396, gn_397, gn_398, gn_399, gn_400, gn_401, gn_402, gn_403, f1, pl_w, if_pos, if_neg]
          rfl
      · by_cases w0 : w = 0
        · by_cases z : fDay D s i < most
          · refine ⟨(G', i, fDay D s i), ⟨by omega, f2, q2.tr f3, Or.inr ⟨by show a ≤ i; omega, by show i < i + 1; omega, rfl, fun d u v => ?_⟩⟩, ?_⟩
            · show aBe D s w i d
              by_cases e : d = i
              · subst e
                unfold aBe; rw [if_pos w0]; omega
              · have t := e4 d u (by omega)
                unfold aBe at t ⊢
                rw [if_pos w0] at t ⊢
                omega
            · show pfX12_bestDay_b51 pd_SH 5000 (j + 1) G 367 b w best most i = _
              unfold fDay at z
              simp (disch := omega) only [pfX12_bestDay_b51, pfX12_bestDay_b96, pfX12_bestDay_b104, pl_l, pl_b, pl_iT, pl_t, pl_f, gx_367, gx_368, gx_369, gx_370, gx_371, gx_372, gx_373, gx_374, gx_375, gx_376, gx_377, gx_378, gx_379, gx_380, gx_381, gx_382, gx_383, gx_384, gx_385, gx_386, gx_387, gx_388, gx_389, gx_390, gx_391, gx_392, gx_393, gx_394, gx_395, gx_396, gx_397, gx_398, gx_399, gx_400, gx_401, gx_402, gx_403, gn_368, gn_369, gn_370, gn_371, gn_372, gn_373, gn_374, gn_375, gn_376, gn_377, gn_378, gn_379, gn_380, gn_381, gn_382, gn_383, gn_384, gn_385, gn_386, gn_387, gn_388, gn_389, gn_390, gn_391, gn_392, gn_393, gn_394, gn_395, gn_396, gn_397, gn_398, gn_399, gn_400, gn_401, gn_402, gn_403, f1, pl_w, if_pos, if_neg]
              rfl
          · refine ⟨(G', best, most), ⟨by omega, f2, q2.tr f3, Or.inr ⟨e1, by show best < i + 1; omega, e3, fun d u v => ?_⟩⟩, ?_⟩
            · show aBe D s w best d
              by_cases e : d = i
              · subst e
                unfold aBe; rw [if_pos w0]; omega
              · exact e4 d u (by omega)
            · show pfX12_bestDay_b51 pd_SH 5000 (j + 1) G 367 b w best most i = _
              unfold fDay at z
              simp (disch := omega) only [pfX12_bestDay_b51, pfX12_bestDay_b96, pfX12_bestDay_b104, pl_l, pl_b, pl_iT, pl_t, pl_f, gx_367, gx_368, gx_369, gx_370, gx_371, gx_372, gx_373, gx_374, gx_375, gx_376, gx_377, gx_378, gx_379, gx_380, gx_381, gx_382, gx_383, gx_384, gx_385, gx_386, gx_387, gx_388, gx_389, gx_390, gx_391, gx_392, gx_393, gx_394, gx_395, gx_396, gx_397, gx_398, gx_399, gx_400, gx_401, gx_402, gx_403, gn_368, gn_369, gn_370, gn_371, gn_372, gn_373, gn_374, gn_375, gn_376, gn_377, gn_378, gn_379, gn_380, gn_381, gn_382, gn_383, gn_384, gn_385, gn_386, gn_387, gn_388, gn_389, gn_390, gn_391, gn_392, gn_393, gn_394, gn_395, gn_396, gn_397, gn_398, gn_399, gn_400, gn_401, gn_402, gn_403, f1, pl_w, if_pos, if_neg]
        · by_cases z : fDay D s i > most
          · refine ⟨(G', i, fDay D s i), ⟨by omega, f2, q2.tr f3, Or.inr ⟨by show a ≤ i; omega, by show i < i + 1; omega, rfl, fun d u v => ?_⟩⟩, ?_⟩
            · show aBe D s w i d
              by_cases e : d = i
              · subst e
                unfold aBe; rw [if_neg w0]; omega
              · have t := e4 d u (by omega)
                unfold aBe at t ⊢
                rw [if_neg w0] at t ⊢
                omega
            · show pfX12_bestDay_b51 pd_SH 5000 (j + 1) G 367 b w best most i = _
              unfold fDay at z
              simp (disch := omega) only [pfX12_bestDay_b51, pfX12_bestDay_b96, pfX12_bestDay_b104, pl_l, pl_b, pl_iT, pl_t, pl_f, gx_367, gx_368, gx_369, gx_370, gx_371, gx_372, gx_373, gx_374, gx_375, gx_376, gx_377, gx_378, gx_379, gx_380, gx_381, gx_382, gx_383, gx_384, gx_385, gx_386, gx_387, gx_388, gx_389, gx_390, gx_391, gx_392, gx_393, gx_394, gx_395, gx_396, gx_397, gx_398, gx_399, gx_400, gx_401, gx_402, gx_403, gn_368, gn_369, gn_370, gn_371, gn_372, gn_373, gn_374, gn_375, gn_376, gn_377, gn_378, gn_379, gn_380, gn_381, gn_382, gn_383, gn_384, gn_385, gn_386, gn_387, gn_388, gn_389, gn_390, gn_391, gn_392, gn_393, gn_394, gn_395, gn_396, gn_397, gn_398, gn_399, gn_400, gn_401, gn_402, gn_403, f1, pl_w, if_pos, if_neg]
              rfl
          · refine ⟨(G', best, most), ⟨by omega, f2, q2.tr f3, Or.inr ⟨e1, by show best < i + 1; omega, e3, fun d u v => ?_⟩⟩, ?_⟩
            · show aBe D s w best d
              by_cases e : d = i
              · subst e
                unfold aBe; rw [if_neg w0]; omega
              · exact e4 d u (by omega)
            · show pfX12_bestDay_b51 pd_SH 5000 (j + 1) G 367 b w best most i = _
              unfold fDay at z
              simp (disch := omega) only [pfX12_bestDay_b51, pfX12_bestDay_b96, pfX12_bestDay_b104, pl_l, pl_b, pl_iT, pl_t, pl_f, gx_367, gx_368, gx_369, gx_370, gx_371, gx_372, gx_373, gx_374, gx_375, gx_376, gx_377, gx_378, gx_379, gx_380, gx_381, gx_382, gx_383, gx_384, gx_385, gx_386, gx_387, gx_388, gx_389, gx_390, gx_391, gx_392, gx_393, gx_394, gx_395, gx_396, gx_397, gx_398, gx_399, gx_400, gx_401, gx_402, gx_403, gn_368, gn_369, gn_370, gn_371, gn_372, gn_373, gn_374, gn_375, gn_376, gn_377, gn_378, gn_379, gn_380, gn_381, gn_382, gn_383, gn_384, gn_385, gn_386, gn_387, gn_388, gn_389, gn_390, gn_391, gn_392, gn_393, gn_394, gn_395, gn_396, gn_397, gn_398, gn_399, gn_400, gn_401, gn_402, gn_403, f1, pl_w, if_pos, if_neg]
    · intro j ⟨G, best, most⟩ ⟨q0, q1, q2, q3⟩
      simp only at q0 q1 q2 q3
      rcases q3 with ⟨e1, e2⟩ | ⟨e1, e2, e3, e4⟩
      · omega
      · refine ⟨G, best, ?_, q1, q2, e1, by omega, fun d u v => e4 d u (by omega)⟩
        show pfX12_bestDay_b51 pd_SH 5000 (j + 1) G 367 b w best most (b + 1) = _
        simp (disch := omega) only [pfX12_bestDay_b51, if_pos]
  obtain ⟨F', v, e1, e2, e3, e4⟩ := key
  exact ⟨F', v, e1, e2, e3, Or.inr ⟨⟨k1, k2, k3⟩, e4⟩⟩
end RP

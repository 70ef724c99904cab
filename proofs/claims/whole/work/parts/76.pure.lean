/-! the reference: splits, marks, counts, the tape -/
section RM
variable {D : pd_F} {s : Int → Int} {F : pd_F}
/-- the row without its join k -/
def spR (s s' : Int → Int) (k : Int) : Prop := (∀ j, (j < 10 ∨ 71 ≤ j) → s' j = s j) ∧ s' 70 = s 70 - 1 ∧ ∀ i, 0 ≤ i → i < 2 * (s 70 - 1) → s' (10 + i) = if i < 2 * k then s (10 + i) else s (12 + i)
/-- the latest join of p -/
def laR (s : Int → Int) (p k : Int) : Prop := 0 ≤ k ∧ k < s 70 ∧ (s (10 + 2 * k) = p ∨ s (11 + 2 * k) = p) ∧ ∀ j, k < j → j < s 70 → ¬ (s (10 + 2 * j) = p ∨ s (11 + 2 * j) = p)
theorem q_split (h : rS D s F) (hu : 0 ≤ F 367 41 ∧ F 367 41 ≤ 16) {p : Int} : (¬ ((0 ≤ p ∧ p < D 369 0) ∧ ∃ k, laR s p k) ∧ ∃ F', pfX12_split pd_SH 5000 F 367 p = some (-1, F') ∧ pd_Ly F' ∧ qF F F') ∨
    ((0 ≤ p ∧ p < D 369 0) ∧ ∃ k s' F', laR s p k ∧ pfX12_split pd_SH 5000 F 367 p = some (if s (10 + 2 * k) = p then s (11 + 2 * k) else s (10 + 2 * k), F') ∧ pd_Ly F' ∧ cF F s' F' ∧ spR s s' k) := by
  have h' := h.th 0
  have n1 := h'.np
  have hs := h.2.2.2.2.2.1
  unfold pfX12_split
  simp only [pl_l, pl_b, pl_iT, pl_t, pl_f, gx_367, gx_368, gx_369, gx_370, gx_371, gx_372, gx_373, gx_374, gx_375, gx_376, gx_377, gx_378, gx_379, gx_380, gx_381, gx_382, gx_383, gx_384, gx_385, gx_386, gx_387, gx_388, gx_389, gx_390, gx_391, gx_392, gx_393, gx_394, gx_395, gx_396, gx_397, gx_398, gx_399, gx_400, gx_401, gx_402, gx_403, gn_368, gn_369, gn_370, gn_371, gn_372, gn_373, gn_374, gn_375, gn_376, gn_377, gn_378, gn_379, gn_380, gn_381, gn_382, gn_383, gn_384, gn_385, gn_386, gn_387, gn_388, gn_389, gn_390, gn_391, gn_392, gn_393, gn_394, gn_395, gn_396, gn_397, gn_398, gn_399, gn_400, gn_401, gn_402, gn_403, r_isPerson h'.1 n1]
  rw [h'.2.1 369 (by decide) (by decide)] at n1 ⊢
  rcases Classical.em (¬ (0 ≤ p ∧ p < D 369 0)) with k | k
  · rw [if_neg k, if_neg (by decide)]
    exact Or.inl ⟨fun z => k z.1, _, rfl, h'.1, qF.th F 0⟩
  have k := Classical.not_not.mp k
  rw [if_pos k, if_pos (by decide)]
  simp only [pl_l, pl_b, pl_iT, pl_t, pl_f, gx_367, gx_368, gx_369, gx_370, gx_371, gx_372, gx_373, gx_374, gx_375, gx_376, gx_377, gx_378, gx_379, gx_380, gx_381, gx_382, gx_383, gx_384, gx_385, gx_386, gx_387, gx_388, gx_389, gx_390, gx_391, gx_392, gx_393, gx_394, gx_395, gx_396, gx_397, gx_398, gx_399, gx_400, gx_401, gx_402, gx_403, gn_368, gn_369, gn_370, gn_371, gn_372, gn_373, gn_374, gn_375, gn_376, gn_377, gn_378, gn_379, gn_380, gn_381, gn_382, gn_383, gn_384, gn_385, gn_386, gn_387, gn_388, gn_389, gn_390, gn_391, gn_392, gn_393, gn_394, gn_395, gn_396, gn_397, gn_398, gn_399, gn_400, gn_401, gn_402, gn_403, lm_1 h'.1, lm_14 h'.1, lm_15 h'.1, lm_16 h'.1, lm_17 h'.1, lm_18 h'.1, lm_19 h'.1, lm_20 h'.1, lm_21 h'.1, lm_22 h'.1, lm_23 h'.1, lm_24 h'.1, lm_25 h'.1, lm_26 h'.1, lm_27 h'.1, lm_28 h'.1, lm_29 h'.1, lm_30 h'.1, lm_31 h'.1, lm_32 h'.1, lm_33 h'.1, lm_34 h'.1, lm_35 h'.1, lm_36 h'.1, lm_37 h'.1, lm_39 h'.1, lm_40 h'.1, lm_42 h'.1, lm_43 h'.1, lm_44 h'.1, lm_45 h'.1, lm_47 h'.1, lm_48 h'.1, lm_49 h'.1, lm_50 h'.1, lm_51 h'.1, h'.2.2.1]
  rw [pl_i (by omega), pl_w (by omega)]
  -- from the join found on
  have l67 : ∀ k, laR s p k → ∃ s' F', pfX12_split_b67 pd_SH 5000 (pd_up F 367 0 0) 367 p k = some (if s (10 + 2 * k) = p then s (11 + 2 * k) else s (10 + 2 * k), F') ∧ pd_Ly F' ∧ cF F s' F' ∧ spR s s' k := by
    intro k hk
    obtain ⟨k0, k1, k2, k3⟩ := id hk
    obtain ⟨G, f1, f2, f3⟩ := r_keeps h'.1 (by rw [pu_r, if_neg (by decide)]; exact hu)
    have hG := kF.S h' f2 f3
    have e3 := hG.2.2.1
    have l136 : ∀ t : Int, ∃ s' F', pfX12_split_b119 pd_SH 5000 G 367 k t = some (t, F') ∧ pd_Ly F' ∧ cF F s' F' ∧ spR s s' k := by
      intro t
      unfold pfX12_split_b119
      simp only [pl_l, pl_b, pl_iT, pl_t, pl_f, gx_367, gx_368, gx_369, gx_370, gx_371, gx_372, gx_373, gx_374, gx_375, gx_376, gx_377, gx_378, gx_379, gx_380, gx_381, gx_382, gx_383, gx_384, gx_385, gx_386, gx_387, gx_388, gx_389, gx_390, gx_391, gx_392, gx_393, gx_394, gx_395, gx_396, gx_397, gx_398, gx_399, gx_400, gx_401, gx_402, gx_403, gn_368, gn_369, gn_370, gn_371, gn_372, gn_373, gn_374, gn_375, gn_376, gn_377, gn_378, gn_379, gn_380, gn_381, gn_382, gn_383, gn_384, gn_385, gn_386, gn_387, gn_388, gn_389, gn_390, gn_391, gn_392, gn_393, gn_394, gn_395, gn_396, gn_397, gn_398, gn_399, gn_400, gn_401, gn_402, gn_403, lm_1 f2, lm_14 f2, lm_15 f2, lm_16 f2, lm_17 f2, lm_18 f2, lm_19 f2, lm_20 f2, lm_21 f2, lm_22 f2, lm_23 f2, lm_24 f2, lm_25 f2, lm_26 f2, lm_27 f2, lm_28 f2, lm_29 f2, lm_30 f2, lm_31 f2, lm_32 f2, lm_33 f2, lm_34 f2, lm_35 f2, lm_36 f2, lm_37 f2, lm_39 f2, lm_40 f2, lm_42 f2, lm_43 f2, lm_44 f2, lm_45 f2, lm_47 f2, lm_48 f2, lm_49 f2, lm_50 f2, lm_51 f2, e3]
      rw [pl_i (by omega), pl_w (x := s 70 - 1) (by omega), pl_w (x := 2 * k) (by omega)]
      have g1 : pd_Ly (pd_up G 393 70 (s 70 - 1)) := f2.up (pl_rc0 sx_393 (by decide))
      refine pl_for (f := fun j (q : pd_F) i => pfX12_split_b136 pd_SH 5000 j q 367 t i) (P := fun i q => 2 * k ≤ i ∧ pd_Ly q ∧ (∀ b, b ≠ 393 → q b = G b) ∧ (∀ j, (j < 10 ∨ 71 ≤ j) → q 393 j = s j) ∧ q 393 70 = s 70 - 1 ∧ (∀ j, 0 ≤ j → j < i → q 393 (10 + j) = if j < 2 * k then s (10 + j) else s (12 + j)) ∧ ∀ j, i ≤ j → j < 60 → q 393 (10 + j) = s (10 + j)) (N := 2 * (s 70 - 1))
        (res := fun o => ∃ s' F', o = some (t, F') ∧ pd_Ly F' ∧ cF F s' F' ∧ spR s s' k) ?_ ?_ 5000 (pd_up G 393 70 (s 70 - 1)) (2 * k) (by omega) (by omega) (by omega)
        ⟨Int.le_refl _, g1, fun b hb => pu_a hb, fun j hj => by rw [pu_r, if_neg (by omega), e3], by rw [pu_r, if_pos rfl], fun j a b => by rw [pu_r, if_neg (by omega), e3, if_pos b], fun j a b => by rw [pu_r, if_neg (by omega), e3]⟩
      · intro j q i a b ⟨q0, q1, q2, q3, q4, q5, q6⟩
        have e5 := q6 (i + 2) (by omega) (by omega)
        rw [show 10 + (i + 2) = 10 + i + 2 by omega] at e5
        refine Or.inl ⟨pd_up q 393 (10 + i) (q 393 (10 + i + 2)), ⟨by omega, q1.up (pl_rc0 sx_393 (by decide)), fun b hb => by rw [pu_a hb]; exact q2 b hb, fun j hj => by rw [pu_r, if_neg (by omega)]; exact q3 j hj, by rw [pu_r, if_neg (by omega)]; exact q4, fun j c d => ?_, fun j c d => by rw [pu_r, if_neg (by omega)]; exact q6 j (by omega) d⟩, ?_⟩
        · rw [pu_r]
          by_cases e : j = i
          · rw [if_pos (by omega), e5, if_neg (by omega), e]
            congr 1
            omega
          · rw [if_neg (by omega)]; exact q5 j c (by omega)
        · show pfX12_split_b136 pd_SH 5000 (j + 1) q 367 t i = _
          simp (disch := omega) only [pfX12_split_b136, pl_l, pl_b, pl_iT, pl_t, pl_f, lm_1 q1, lm_14 q1, lm_15 q1, lm_16 q1, lm_17 q1, lm_18 q1, lm_19 q1, lm_20 q1, lm_21 q1, lm_22 q1, lm_23 q1, lm_24 q1, lm_25 q1, lm_26 q1, lm_27 q1, lm_28 q1, lm_29 q1, lm_30 q1, lm_31 q1, lm_32 q1, lm_33 q1, lm_34 q1, lm_35 q1, lm_36 q1, lm_37 q1, lm_39 q1, lm_40 q1, lm_42 q1, lm_43 q1, lm_44 q1, lm_45 q1, lm_47 q1, lm_48 q1, lm_49 q1, lm_50 q1, lm_51 q1, gx_367, gx_368, gx_369, gx_370, gx_371, gx_372, gx_373, gx_374, gx_375, gx_376, gx_377, gx_378, gx_379, gx_380, gx_381, gx_382, gx_383, gx_384, gx_385, gx_386, gx_387, gx_388, gx_389, gx_390, gx_391, gx_392, gx_393, gx_394, gx_395, gx_396, gx_397, gx_398, gx_399, gx_400, gx_401, gx_402, gx_403, gn_368, gn_369, gn_370, gn_371, gn_372, gn_373, gn_374, gn_375, gn_376, gn_377, gn_378, gn_379, gn_380, gn_381, gn_382, gn_383, gn_384, gn_385, gn_386, gn_387, gn_388, gn_389, gn_390, gn_391, gn_392, gn_393, gn_394, gn_395, gn_396, gn_397, gn_398, gn_399, gn_400, gn_401, gn_402, gn_403, q4, pl_w, pl_i, if_pos, if_neg]
      · intro j q ⟨q0, q1, q2, q3, q4, q5, q6⟩
        refine ⟨q 393, q, ?_, q1, kF.c f3 rfl (fun b _ x _ => q2 b x) (fun j _ _ => by rw [q2 367 (by decide)]), q3, q4, q5⟩
        show pfX12_split_b136 pd_SH 5000 (j + 1) q 367 t _ = _
        simp (disch := omega) only [pfX12_split_b136, pl_l, pl_b, pl_iT, pl_t, pl_f, lm_1 q1, lm_14 q1, lm_15 q1, lm_16 q1, lm_17 q1, lm_18 q1, lm_19 q1, lm_20 q1, lm_21 q1, lm_22 q1, lm_23 q1, lm_24 q1, lm_25 q1, lm_26 q1, lm_27 q1, lm_28 q1, lm_29 q1, lm_30 q1, lm_31 q1, lm_32 q1, lm_33 q1, lm_34 q1, lm_35 q1, lm_36 q1, lm_37 q1, lm_39 q1, lm_40 q1, lm_42 q1, lm_43 q1, lm_44 q1, lm_45 q1, lm_47 q1, lm_48 q1, lm_49 q1, lm_50 q1, lm_51 q1, gx_367, gx_368, gx_369, gx_370, gx_371, gx_372, gx_373, gx_374, gx_375, gx_376, gx_377, gx_378, gx_379, gx_380, gx_381, gx_382, gx_383, gx_384, gx_385, gx_386, gx_387, gx_388, gx_389, gx_390, gx_391, gx_392, gx_393, gx_394, gx_395, gx_396, gx_397, gx_398, gx_399, gx_400, gx_401, gx_402, gx_403, gn_368, gn_369, gn_370, gn_371, gn_372, gn_373, gn_374, gn_375, gn_376, gn_377, gn_378, gn_379, gn_380, gn_381, gn_382, gn_383, gn_384, gn_385, gn_386, gn_387, gn_388, gn_389, gn_390, gn_391, gn_392, gn_393, gn_394, gn_395, gn_396, gn_397, gn_398, gn_399, gn_400, gn_401, gn_402, gn_403, q4, pl_w, pl_i, if_pos, if_neg]
    unfold pfX12_split_b67
    rw [if_pos (by omega), f1]
    simp only [pl_l, pl_b, pl_iT, pl_t, pl_f, gx_367, gx_368, gx_369, gx_370, gx_371, gx_372, gx_373, gx_374, gx_375, gx_376, gx_377, gx_378, gx_379, gx_380, gx_381, gx_382, gx_383, gx_384, gx_385, gx_386, gx_387, gx_388, gx_389, gx_390, gx_391, gx_392, gx_393, gx_394, gx_395, gx_396, gx_397, gx_398, gx_399, gx_400, gx_401, gx_402, gx_403, gn_368, gn_369, gn_370, gn_371, gn_372, gn_373, gn_374, gn_375, gn_376, gn_377, gn_378, gn_379, gn_380, gn_381, gn_382, gn_383, gn_384, gn_385, gn_386, gn_387, gn_388, gn_389, gn_390, gn_391, gn_392, gn_393, gn_394, gn_395, gn_396, gn_397, gn_398, gn_399, gn_400, gn_401, gn_402, gn_403, lm_1 f2, lm_14 f2, lm_15 f2, lm_16 f2, lm_17 f2, lm_18 f2, lm_19 f2, lm_20 f2, lm_21 f2, lm_22 f2, lm_23 f2, lm_24 f2, lm_25 f2, lm_26 f2, lm_27 f2, lm_28 f2, lm_29 f2, lm_30 f2, lm_31 f2, lm_32 f2, lm_33 f2, lm_34 f2, lm_35 f2, lm_36 f2, lm_37 f2, lm_39 f2, lm_40 f2, lm_42 f2, lm_43 f2, lm_44 f2, lm_45 f2, lm_47 f2, lm_48 f2, lm_49 f2, lm_50 f2, lm_51 f2, e3]
    rw [pl_w (x := 2 * k) (by omega), pl_w (x := 10 + 2 * k) (by omega), show 10 + 2 * k + 1 = 11 + 2 * k by omega, pl_w (x := 11 + 2 * k) (by omega), pl_i (by omega), pl_i (by omega)]
    by_cases z : s (10 + 2 * k) = p
    · rw [if_neg (fun w => w z), if_pos z]; exact l136 _
    · rw [if_pos z, if_neg z]; exact l136 _
  refine pl_whl (f := fun j (q : Int) => pfX12_split_b25 pd_SH 5000 j (pd_up F 367 0 0) 367 p q) (P := fun m q => q = (m : Int) - 1 ∧ (m : Int) ≤ s 70 ∧ ∀ j, (m : Int) ≤ j → j < s 70 → ¬ (s (10 + 2 * j) = p ∨ s (11 + 2 * j) = p))
    (res := fun o => (¬ ((0 ≤ p ∧ p < D 369 0) ∧ ∃ k, laR s p k) ∧ ∃ F', o = some (-1, F') ∧ pd_Ly F' ∧ qF F F') ∨
      ((0 ≤ p ∧ p < D 369 0) ∧ ∃ k s' F', laR s p k ∧ o = some (if s (10 + 2 * k) = p then s (11 + 2 * k) else s (10 + 2 * k), F') ∧ pd_Ly F' ∧ cF F s' F' ∧ spR s s' k)) ?_ 5000 (s 70).toNat (s 70 - 1) (by omega) ⟨by omega, by omega, fun j a b => by omega⟩
  intro j m q ⟨e, e1, e2⟩
  match m with
  | 0 =>
    right
    have : q = -1 := by omega
    subst this
    left
    refine ⟨fun ⟨_, k, a, b, c, _⟩ => e2 k (by omega) b c, pd_up F 367 0 0, ?_, h'.1, qF.th F 0⟩
    show pfX12_split_b25 pd_SH 5000 (j + 1) (pd_up F 367 0 0) 367 p (-1) = _
    simp (disch := omega) only [pfX12_split_b25, pfX12_split_b67, if_pos, if_neg]
  | m + 1 =>
    have eq : q = (m : Int) := by omega
    subst eq
    have st : pfX12_split_b25 pd_SH 5000 (j + 1) (pd_up F 367 0 0) 367 p m = if s (10 + 2 * m) = p then pfX12_split_b67 pd_SH 5000 (pd_up F 367 0 0) 367 p m else if s (11 + 2 * m) = p then pfX12_split_b67 pd_SH 5000 (pd_up F 367 0 0) 367 p m else pfX12_split_b25 pd_SH 5000 j (pd_up F 367 0 0) 367 p ((m : Int) - 1) := by
      simp only [pfX12_split_b25, pl_l, pl_b, pl_iT, pl_t, pl_f, gx_367, gx_368, gx_369, gx_370, gx_371, gx_372, gx_373, gx_374, gx_375, gx_376, gx_377, gx_378, gx_379, gx_380, gx_381, gx_382, gx_383, gx_384, gx_385, gx_386, gx_387, gx_388, gx_389, gx_390, gx_391, gx_392, gx_393, gx_394, gx_395, gx_396, gx_397, gx_398, gx_399, gx_400, gx_401, gx_402, gx_403, gn_368, gn_369, gn_370, gn_371, gn_372, gn_373, gn_374, gn_375, gn_376, gn_377, gn_378, gn_379, gn_380, gn_381, gn_382, gn_383, gn_384, gn_385, gn_386, gn_387, gn_388, gn_389, gn_390, gn_391, gn_392, gn_393, gn_394, gn_395, gn_396, gn_397, gn_398, gn_399, gn_400, gn_401, gn_402, gn_403, lm_1 h'.1, lm_14 h'.1, lm_15 h'.1, lm_16 h'.1, lm_17 h'.1, lm_18 h'.1, lm_19 h'.1, lm_20 h'.1, lm_21 h'.1, lm_22 h'.1, lm_23 h'.1, lm_24 h'.1, lm_25 h'.1, lm_26 h'.1, lm_27 h'.1, lm_28 h'.1, lm_29 h'.1, lm_30 h'.1, lm_31 h'.1, lm_32 h'.1, lm_33 h'.1, lm_34 h'.1, lm_35 h'.1, lm_36 h'.1, lm_37 h'.1, lm_39 h'.1, lm_40 h'.1, lm_42 h'.1, lm_43 h'.1, lm_44 h'.1, lm_45 h'.1, lm_47 h'.1, lm_48 h'.1, lm_49 h'.1, lm_50 h'.1, lm_51 h'.1, h'.2.2.1]
      rw [if_neg (by omega), pl_w (x := 2 * m) (by omega), pl_w (x := 10 + 2 * m) (by omega), show (10 + 2 * m + 1 : Int) = 11 + 2 * m by omega, pl_w (x := 11 + 2 * m) (by omega), pl_i (by omega), pl_i (by omega), pl_w (by omega), show (m : Int) + -1 = m - 1 by omega]
    by_cases z : s (10 + 2 * m) = p ∨ s (11 + 2 * m) = p
    · right
      have hla : laR s p m := ⟨by omega, by omega, z, fun j a b => e2 j (by omega) b⟩
      obtain ⟨s', F', r1, r2⟩ := l67 m hla
      refine Or.inr ⟨k, m, s', F', hla, ?_, r2⟩
      show pfX12_split_b25 pd_SH 5000 (j + 1) (pd_up F 367 0 0) 367 p m = _
      rw [st]
      by_cases z1 : s (10 + 2 * m) = p
      · rw [if_pos z1]; exact r1
      · rw [if_neg z1, if_pos (z.resolve_left z1)]; exact r1
    · left
      refine ⟨m, (m : Int) - 1, by omega, ⟨rfl, by omega, fun j a b => ?_⟩, ?_⟩
      · by_cases c : j = m
        · rw [c]; exact z
        · exact e2 j (by omega) b
      · show pfX12_split_b25 pd_SH 5000 (j + 1) (pd_up F 367 0 0) 367 p m = _
        rw [st, if_neg (fun w => z (Or.inl w)), if_neg (fun w => z (Or.inr w))]
/-- no mark stands twice among those left out -/
def dst (s : Int → Int) : Prop := ∀ i j, 0 ≤ i → i < s 110 → 0 ≤ j → j < s 110 → s (74 + i) = s (74 + j) → i = j
def mR (s s' : Int → Int) (m out : Int) : Prop := (∀ j, (j < 74 ∨ 110 < j) → s' j = s j) ∧ (0 ≤ s' 110 ∧ s' 110 ≤ 36) ∧ dst s' ∧ (∀ x, Ou s' x ↔ (if out ≠ 0 then Ou s x ∨ x = m else Ou s x ∧ x ≠ m)) ∧ s' 110 = s 110 + ci (Ou s' m) 1 0 - ci (Ou s m) 1 0
theorem r_marks (hL : pd_Ly F) (hs : F 393 = s) (hn : 0 ≤ s 110 ∧ s 110 ≤ 36) (hd : dst s) {m out : Int} (ho : out = 0 ∨ out = 1) (hr : ¬ Ou s m → s 110 < 36) :
    ∃ F' s', pfX12_marks pd_SH 5000 F 367 m out = some F' ∧ pd_Ly F' ∧ (∀ b, b ≠ 393 → F' b = F b) ∧ F' 393 = s' ∧ mR s s' m out := by
  have hi := r_isOut hL (m := m) (by rw [hs]; exact hn)
  rw [hs] at hi
  have hi : pfX12_isOut pd_SH 5000 F 367 m = some (ci (Ou s m) 1 0, F) := hi
  unfold pfX12_marks
  simp only [pl_l, pl_b, pl_iT, pl_t, pl_f, gx_367, gx_368, gx_369, gx_370, gx_371, gx_372, gx_373, gx_374, gx_375, gx_376, gx_377, gx_378, gx_379, gx_380, gx_381, gx_382, gx_383, gx_384, gx_385, gx_386, gx_387, gx_388, gx_389, gx_390, gx_391, gx_392, gx_393, gx_394, gx_395, gx_396, gx_397, gx_398, gx_399, gx_400, gx_401, gx_402, gx_403, gn_368, gn_369, gn_370, gn_371, gn_372, gn_373, gn_374, gn_375, gn_376, gn_377, gn_378, gn_379, gn_380, gn_381, gn_382, gn_383, gn_384, gn_385, gn_386, gn_387, gn_388, gn_389, gn_390, gn_391, gn_392, gn_393, gn_394, gn_395, gn_396, gn_397, gn_398, gn_399, gn_400, gn_401, gn_402, gn_403, hi]
  rcases Classical.em (Ou s m) with k | k
  · rw [ci_t k]
    rcases ho with rfl | rfl
    · -- it is taken out of the row
      rw [if_pos (by decide), if_pos rfl]
      obtain ⟨i0, a0, b0, c0⟩ := id k
      refine pl_whl (f := fun j (q : Int) => pfX12_marks_b44 pd_SH 5000 j F 367 m q) (P := fun z q => 0 ≤ q ∧ q + z = i0) (res := fun o => ∃ F' s', o = some F' ∧ pd_Ly F' ∧ (∀ b, b ≠ 393 → F' b = F b) ∧ F' 393 = s' ∧ mR s s' m 0) ?_ 5000 i0.toNat 0 (by omega) ⟨Int.le_refl _, by omega⟩
      intro j z q ⟨q0, q1⟩
      by_cases c : s (74 + q) = m
      · right
        have e0 : q = i0 := hd q i0 q0 (by omega) a0 b0 (by rw [c, c0])
        subst e0
        -- the rows behind move up
        have g1 : pd_Ly (pd_up F 393 110 (s 110 - 1)) := hL.up (pl_rc0 sx_393 (by decide))
        have l77 : ∃ F' s', pfX12_marks_b77 pd_SH 5000 5000 (pd_up F 393 110 (s 110 - 1)) 367 q = some F' ∧ pd_Ly F' ∧ (∀ b, b ≠ 393 → F' b = F b) ∧ F' 393 = s' ∧ (∀ j, (j < 74 ∨ 110 < j) → s' j = s j) ∧ s' 110 = s 110 - 1 ∧ ∀ i, 0 ≤ i → i < s 110 - 1 → s' (74 + i) = if i < q then s (74 + i) else s (75 + i) := by
          refine pl_for (f := fun j (w : pd_F) i => pfX12_marks_b77 pd_SH 5000 j w 367 i) (P := fun i w => q ≤ i ∧ pd_Ly w ∧ (∀ b, b ≠ 393 → w b = F b) ∧ (∀ j, (j < 74 ∨ 110 < j) → w 393 j = s j) ∧ w 393 110 = s 110 - 1 ∧ (∀ j, 0 ≤ j → j < i → w 393 (74 + j) = if j < q then s (74 + j) else s (75 + j)) ∧ ∀ j, i ≤ j → j < 36 → w 393 (74 + j) = s (74 + j)) (N := s 110 - 1)
            (res := fun o => ∃ F' s', o = some F' ∧ pd_Ly F' ∧ (∀ b, b ≠ 393 → F' b = F b) ∧ F' 393 = s' ∧ (∀ j, (j < 74 ∨ 110 < j) → s' j = s j) ∧ s' 110 = s 110 - 1 ∧ ∀ i, 0 ≤ i → i < s 110 - 1 → s' (74 + i) = if i < q then s (74 + i) else s (75 + i)) ?_ ?_ 5000 (pd_up F 393 110 (s 110 - 1)) q (by omega) (by omega) (by omega)
            ⟨Int.le_refl _, g1, fun b hb => pu_a hb, fun j hj => by rw [pu_r, if_neg (by omega), hs], by rw [pu_r, if_pos rfl], fun j a b => by rw [pu_r, if_neg (by omega), hs, if_pos b], fun j a b => by rw [pu_r, if_neg (by omega), hs]⟩
          · intro j w i a b ⟨w0, w1, w2, w3, w4, w5, w6⟩
            have e5 := w6 (i + 1) (by omega) (by omega)
            rw [show 74 + (i + 1) = 74 + i + 1 by omega] at e5
            refine Or.inl ⟨pd_up w 393 (74 + i) (w 393 (74 + i + 1)), ⟨by omega, w1.up (pl_rc0 sx_393 (by decide)), fun b hb => by rw [pu_a hb]; exact w2 b hb, fun j hj => by rw [pu_r, if_neg (by omega)]; exact w3 j hj, by rw [pu_r, if_neg (by omega)]; exact w4, fun j c d => ?_, fun j c d => by rw [pu_r, if_neg (by omega)]; exact w6 j (by omega) d⟩, ?_⟩
            · rw [pu_r]
              by_cases e : j = i
              · rw [if_pos (by omega), e5, if_neg (by omega), e]
                congr 1
                omega
              · rw [if_neg (by omega)]; exact w5 j c (by omega)
            · show pfX12_marks_b77 pd_SH 5000 (j + 1) w 367 i = _
              simp (disch := omega) only [pfX12_marks_b77, pl_l, pl_b, pl_iT, pl_t, pl_f, lm_1 w1, lm_14 w1, lm_15 w1, lm_16 w1, lm_17 w1, lm_18 w1, lm_19 w1, lm_20 w1, lm_21 w1, lm_22 w1, lm_23 w1, lm_24 w1, lm_25 w1, lm_26 w1, lm_27 w1, lm_28 w1, lm_29 w1, lm_30 w1, lm_31 w1, lm_32 w1, lm_33 w1, lm_34 w1, lm_35 w1, lm_36 w1, lm_37 w1, lm_39 w1, lm_40 w1, lm_42 w1, lm_43 w1, lm_44 w1, lm_45 w1, lm_47 w1, lm_48 w1, lm_49 w1, lm_50 w1, lm_51 w1, gx_367, gx_368, gx_369, gx_370, gx_371, gx_372, gx_373, gx_374, gx_375, gx_376, gx_377, gx_378, gx_379, gx_380, gx_381, gx_382, gx_383, gx_384, gx_385, gx_386, gx_387, gx_388, gx_389, gx_390, gx_391, gx_392, gx_393, gx_394, gx_395, gx_396, gx_397, gx_398, gx_399, gx_400, gx_401, gx_402, gx_403, gn_368, gn_369, gn_370, gn_371, gn_372, gn_373, gn_374, gn_375, gn_376, gn_377, gn_378, gn_379, gn_380, gn_381, gn_382, gn_383, gn_384, gn_385, gn_386, gn_387, gn_388, gn_389, gn_390, gn_391, gn_392, gn_393, gn_394, gn_395, gn_396, gn_397, gn_398, gn_399, gn_400, gn_401, gn_402, gn_403, w4, pl_w, pl_i, if_pos, if_neg]
          · intro j w ⟨w0, w1, w2, w3, w4, w5, w6⟩
            refine ⟨w, w 393, ?_, w1, w2, rfl, w3, w4, w5⟩
            show pfX12_marks_b77 pd_SH 5000 (j + 1) w 367 _ = _
            simp (disch := omega) only [pfX12_marks_b77, pl_l, pl_b, pl_iT, pl_t, pl_f, lm_1 w1, lm_14 w1, lm_15 w1, lm_16 w1, lm_17 w1, lm_18 w1, lm_19 w1, lm_20 w1, lm_21 w1, lm_22 w1, lm_23 w1, lm_24 w1, lm_25 w1, lm_26 w1, lm_27 w1, lm_28 w1, lm_29 w1, lm_30 w1, lm_31 w1, lm_32 w1, lm_33 w1, lm_34 w1, lm_35 w1, lm_36 w1, lm_37 w1, lm_39 w1, lm_40 w1, lm_42 w1, lm_43 w1, lm_44 w1, lm_45 w1, lm_47 w1, lm_48 w1, lm_49 w1, lm_50 w1, lm_51 w1, gx_367, gx_368, gx_369, gx_370, gx_371, gx_372, gx_373, gx_374, gx_375, gx_376, gx_377, gx_378, gx_379, gx_380, gx_381, gx_382, gx_383, gx_384, gx_385, gx_386, gx_387, gx_388, gx_389, gx_390, gx_391, gx_392, gx_393, gx_394, gx_395, gx_396, gx_397, gx_398, gx_399, gx_400, gx_401, gx_402, gx_403, gn_368, gn_369, gn_370, gn_371, gn_372, gn_373, gn_374, gn_375, gn_376, gn_377, gn_378, gn_379, gn_380, gn_381, gn_382, gn_383, gn_384, gn_385, gn_386, gn_387, gn_388, gn_389, gn_390, gn_391, gn_392, gn_393, gn_394, gn_395, gn_396, gn_397, gn_398, gn_399, gn_400, gn_401, gn_402, gn_403, w4, pl_w, pl_i, if_pos, if_neg]
        obtain ⟨F', s', t1, t2, t3, t4, t5, t6, t7⟩ := l77
        have val : ∀ i, 0 ≤ i → i < s 110 - 1 → ∃ i', 0 ≤ i' ∧ i' < s 110 ∧ i' ≠ q ∧ s' (74 + i) = s (74 + i') ∧ (i' = if i < q then i else i + 1) := fun i a b => by
          by_cases w : i < q
          · exact ⟨i, a, by omega, by omega, by rw [t7 i a b, if_pos w], by rw [if_pos w]⟩
          · refine ⟨i + 1, by omega, by omega, by omega, by rw [t7 i a b, if_neg w]; congr 1; omega, by rw [if_neg w]⟩
        have hou : ∀ x, Ou s' x ↔ Ou s x ∧ x ≠ m := fun x => by
          constructor
          · rintro ⟨i, a, b, e⟩
            rw [t6] at b
            obtain ⟨i', u1, u2, u3, u4, -⟩ := val i a b
            rw [u4] at e
            refine ⟨⟨i', u1, u2, e⟩, fun e2 => u3 (hd i' q u1 u2 q0 (by omega) (by rw [e, e2, c]))⟩
          · rintro ⟨⟨i, a, b, e⟩, ne⟩
            have ni : i ≠ q := fun e2 => ne (by rw [← e, e2, c])
            by_cases w : i < q
            · exact ⟨i, a, by rw [t6]; omega, by rw [t7 i a (by omega), if_pos w]; exact e⟩
            · exact ⟨i - 1, by omega, by rw [t6]; omega, by rw [t7 (i - 1) (by omega) (by omega), if_neg (by omega), show 75 + (i - 1) = 74 + i by omega]; exact e⟩
        refine ⟨F', s', ?_, t2, t3, t4, t5, by rw [t6]; omega, ?_, fun x => ?_, ?_⟩
        · show pfX12_marks_b44 pd_SH 5000 (j + 1) F 367 m q = _
          simp (disch := omega) only [pfX12_marks_b44, pfX12_marks_b63, pl_l, pl_b, pl_iT, pl_t, pl_f, lm_1 hL, lm_14 hL, lm_15 hL, lm_16 hL, lm_17 hL, lm_18 hL, lm_19 hL, lm_20 hL, lm_21 hL, lm_22 hL, lm_23 hL, lm_24 hL, lm_25 hL, lm_26 hL, lm_27 hL, lm_28 hL, lm_29 hL, lm_30 hL, lm_31 hL, lm_32 hL, lm_33 hL, lm_34 hL, lm_35 hL, lm_36 hL, lm_37 hL, lm_39 hL, lm_40 hL, lm_42 hL, lm_43 hL, lm_44 hL, lm_45 hL, lm_47 hL, lm_48 hL, lm_49 hL, lm_50 hL, lm_51 hL, gx_367, gx_368, gx_369, gx_370, gx_371, gx_372, gx_373, gx_374, gx_375, gx_376, gx_377, gx_378, gx_379, gx_380, gx_381, gx_382, gx_383, gx_384, gx_385, gx_386, gx_387, gx_388, gx_389, gx_390, gx_391, gx_392, gx_393, gx_394, gx_395, gx_396, gx_397, gx_398, gx_399, gx_400, gx_401, gx_402, gx_403, gn_368, gn_369, gn_370, gn_371, gn_372, gn_373, gn_374, gn_375, gn_376, gn_377, gn_378, gn_379, gn_380, gn_381, gn_382, gn_383, gn_384, gn_385, gn_386, gn_387, gn_388, gn_389, gn_390, gn_391, gn_392, gn_393, gn_394, gn_395, gn_396, gn_397, gn_398, gn_399, gn_400, gn_401, gn_402, gn_403, hs, pl_w, pl_i, if_pos, if_neg]
          exact t1
        · intro i j' a b c' d e
          rw [t6] at b d
          obtain ⟨i', u1, u2, u3, u4, u5⟩ := val i a b
          obtain ⟨j2, v1, v2, v3, v4, v5⟩ := val j' c' d
          rw [u4, v4] at e
          have := hd i' j2 u1 u2 v1 v2 e
          rw [u5, v5] at this
          split at this <;> split at this <;> omega
        · rw [if_neg (show ¬ (0 : Int) ≠ 0 by decide)]; exact hou x
        · rw [t6, ci_t k, ci_f (fun e => ((hou m).mp e).2 rfl)]; omega
      · left
        have : q ≠ i0 := fun e => c (e ▸ c0)
        refine ⟨z - 1, q + 1, by omega, ⟨by omega, by omega⟩, ?_⟩
        show pfX12_marks_b44 pd_SH 5000 (j + 1) F 367 m q = _
        simp (disch := omega) only [pfX12_marks_b44, pl_l, pl_b, pl_iT, pl_t, pl_f, lm_1 hL, lm_14 hL, lm_15 hL, lm_16 hL, lm_17 hL, lm_18 hL, lm_19 hL, lm_20 hL, lm_21 hL, lm_22 hL, lm_23 hL, lm_24 hL, lm_25 hL, lm_26 hL, lm_27 hL, lm_28 hL, lm_29 hL, lm_30 hL, lm_31 hL, lm_32 hL, lm_33 hL, lm_34 hL, lm_35 hL, lm_36 hL, lm_37 hL, lm_39 hL, lm_40 hL, lm_42 hL, lm_43 hL, lm_44 hL, lm_45 hL, lm_47 hL, lm_48 hL, lm_49 hL, lm_50 hL, lm_51 hL, gx_367, gx_368, gx_369, gx_370, gx_371, gx_372, gx_373, gx_374, gx_375, gx_376, gx_377, gx_378, gx_379, gx_380, gx_381, gx_382, gx_383, gx_384, gx_385, gx_386, gx_387, gx_388, gx_389, gx_390, gx_391, gx_392, gx_393, gx_394, gx_395, gx_396, gx_397, gx_398, gx_399, gx_400, gx_401, gx_402, gx_403, gn_368, gn_369, gn_370, gn_371, gn_372, gn_373, gn_374, gn_375, gn_376, gn_377, gn_378, gn_379, gn_380, gn_381, gn_382, gn_383, gn_384, gn_385, gn_386, gn_387, gn_388, gn_389, gn_390, gn_391, gn_392, gn_393, gn_394, gn_395, gn_396, gn_397, gn_398, gn_399, gn_400, gn_401, gn_402, gn_403, hs, pl_w, pl_i, if_pos, if_neg]
    · rw [if_neg (by decide)]
      refine ⟨F, s, rfl, hL, fun _ _ => rfl, hs, fun _ _ => rfl, hn, hd, fun x => ?_, by omega⟩
      rw [if_pos (by decide)]
      exact ⟨Or.inl, fun e => e.elim id (fun e => e ▸ k)⟩
  · rw [ci_f k]
    have hr := hr k
    rcases ho with rfl | rfl
    · rw [if_neg (by decide)]
      refine ⟨F, s, rfl, hL, fun _ _ => rfl, hs, fun _ _ => rfl, hn, hd, fun x => ?_, by omega⟩
      rw [if_neg (by decide)]
      exact ⟨fun e => ⟨e, fun e2 => k (e2 ▸ e)⟩, fun e => e.1⟩
    · rw [if_pos (by decide), if_neg (by decide)]
      simp only [pl_l, pl_b, pl_iT, pl_t, pl_f, gx_367, gx_368, gx_369, gx_370, gx_371, gx_372, gx_373, gx_374, gx_375, gx_376, gx_377, gx_378, gx_379, gx_380, gx_381, gx_382, gx_383, gx_384, gx_385, gx_386, gx_387, gx_388, gx_389, gx_390, gx_391, gx_392, gx_393, gx_394, gx_395, gx_396, gx_397, gx_398, gx_399, gx_400, gx_401, gx_402, gx_403, gn_368, gn_369, gn_370, gn_371, gn_372, gn_373, gn_374, gn_375, gn_376, gn_377, gn_378, gn_379, gn_380, gn_381, gn_382, gn_383, gn_384, gn_385, gn_386, gn_387, gn_388, gn_389, gn_390, gn_391, gn_392, gn_393, gn_394, gn_395, gn_396, gn_397, gn_398, gn_399, gn_400, gn_401, gn_402, gn_403, lm_1 hL, lm_14 hL, lm_15 hL, lm_16 hL, lm_17 hL, lm_18 hL, lm_19 hL, lm_20 hL, lm_21 hL, lm_22 hL, lm_23 hL, lm_24 hL, lm_25 hL, lm_26 hL, lm_27 hL, lm_28 hL, lm_29 hL, lm_30 hL, lm_31 hL, lm_32 hL, lm_33 hL, lm_34 hL, lm_35 hL, lm_36 hL, lm_37 hL, lm_39 hL, lm_40 hL, lm_42 hL, lm_43 hL, lm_44 hL, lm_45 hL, lm_47 hL, lm_48 hL, lm_49 hL, lm_50 hL, lm_51 hL, hs]
      have g1 : pd_Ly (pd_up F 393 (74 + s 110) m) := hL.up (pl_rc0 sx_393 (by decide))
      have r1 : pd_up F 393 (74 + s 110) m 393 110 = s 110 := by rw [pu_r, if_neg (by omega), hs]
      rw [pl_w (by omega), pl_i (by omega), pl_i (by omega)]
      simp only [pl_l, pl_b, pl_iT, pl_t, pl_f, gx_367, gx_368, gx_369, gx_370, gx_371, gx_372, gx_373, gx_374, gx_375, gx_376, gx_377, gx_378, gx_379, gx_380, gx_381, gx_382, gx_383, gx_384, gx_385, gx_386, gx_387, gx_388, gx_389, gx_390, gx_391, gx_392, gx_393, gx_394, gx_395, gx_396, gx_397, gx_398, gx_399, gx_400, gx_401, gx_402, gx_403, gn_368, gn_369, gn_370, gn_371, gn_372, gn_373, gn_374, gn_375, gn_376, gn_377, gn_378, gn_379, gn_380, gn_381, gn_382, gn_383, gn_384, gn_385, gn_386, gn_387, gn_388, gn_389, gn_390, gn_391, gn_392, gn_393, gn_394, gn_395, gn_396, gn_397, gn_398, gn_399, gn_400, gn_401, gn_402, gn_403, lm_1 g1, lm_14 g1, lm_15 g1, lm_16 g1, lm_17 g1, lm_18 g1, lm_19 g1, lm_20 g1, lm_21 g1, lm_22 g1, lm_23 g1, lm_24 g1, lm_25 g1, lm_26 g1, lm_27 g1, lm_28 g1, lm_29 g1, lm_30 g1, lm_31 g1, lm_32 g1, lm_33 g1, lm_34 g1, lm_35 g1, lm_36 g1, lm_37 g1, lm_39 g1, lm_40 g1, lm_42 g1, lm_43 g1, lm_44 g1, lm_45 g1, lm_47 g1, lm_48 g1, lm_49 g1, lm_50 g1, lm_51 g1, r1]
      rw [pl_w (by omega), pl_i (by omega)]
      have rr : pd_up (pd_up F 393 (74 + s 110) m) 393 110 (s 110 + 1) 393 = ru (ru s (74 + s 110) m) 110 (s 110 + 1) := by rw [pu_row, pu_row, hs]
      have e110 : ru (ru s (74 + s 110) m) 110 (s 110 + 1) 110 = s 110 + 1 := ru_e
      have eold : ∀ i, 0 ≤ i → i < s 110 → ru (ru s (74 + s 110) m) 110 (s 110 + 1) (74 + i) = s (74 + i) := fun i a b => by rw [ru_n (by omega), ru_n (by omega)]
      have enew : ru (ru s (74 + s 110) m) 110 (s 110 + 1) (74 + s 110) = m := by rw [ru_n (by omega), ru_e]
      have hou : ∀ x, Ou (ru (ru s (74 + s 110) m) 110 (s 110 + 1)) x ↔ Ou s x ∨ x = m := fun x => by
        constructor
        · rintro ⟨i, a, b, e⟩
          rw [e110] at b
          by_cases w : i = s 110
          · rw [w, enew] at e; exact Or.inr e.symm
          · rw [eold i a (by omega)] at e; exact Or.inl ⟨i, a, by omega, e⟩
        · rintro (⟨i, a, b, e⟩ | e)
          · exact ⟨i, a, by rw [e110]; omega, by rw [eold i a b]; exact e⟩
          · exact ⟨s 110, hn.1, by rw [e110]; omega, by rw [enew, e]⟩
      refine ⟨_, _, rfl, g1.up (pl_rc0 sx_393 (by decide)), fun b hb => by rw [pu_a hb, pu_a hb], rr, fun j hj => by rw [ru_n (by omega), ru_n (by omega)], by rw [e110]; omega, ?_, fun x => ?_, ?_⟩
      · intro i j a b c d e
        rw [e110] at b d
        by_cases w1 : i = s 110
        · by_cases w2 : j = s 110
          · omega
          · rw [w1, enew, eold j c (by omega)] at e
            exact absurd ⟨j, c, by omega, e.symm⟩ k
        · by_cases w2 : j = s 110
          · rw [w2, enew, eold i a (by omega)] at e
            exact absurd ⟨i, a, by omega, e⟩ k
          · rw [eold i a (by omega), eold j c (by omega)] at e
            exact hd i j a (by omega) c (by omega) e
      · rw [if_pos (by decide)]; exact hou x
      · rw [e110, ci_t ((hou m).mpr (Or.inr rfl)), ci_f k]; omega
theorem aOk.mR {s' : Int → Int} {m out : Int} (h : aOk D s) (hb : bOk D) (k : mR s s' m out) : aOk D s' := by
  have n := hb.1.2.2.2.2.2.1
  refine ⟨fun a x y => ?_, ?_, k.2.1, ?_, ?_⟩
  · rw [k.1 a (by omega)]; exact h.1 a x y
  · rw [k.1 70 (by decide)]; exact h.2.1
  · rw [k.1 72 (by decide)]; exact h.2.2.2.1
  · rw [k.1 73 (by decide)]; exact h.2.2.2.2
def isMk (D : pd_F) (m : Int) : Prop := ∃ p, 0 ≤ p ∧ p < D 369 0 ∧ Hk (D 375) (D 376) p m
theorem q_isMark (h : rS D s F) {m : Int} : pfX12_isMark pd_SH 5000 F 367 m = some (ci (isMk D m) 1 0, F) := by
  have n1 := h.np
  have b3 := h.2.2.2.1.2.1
  rw [h.2.1 369 (by decide) (by decide)] at n1
  unfold pfX12_isMark
  have hm : ∀ i, 0 ≤ i → i < D 369 0 → pfX12_hasMark pd_SH 5000 F 367 i m = some (ci (Hk (D 375) (D 376) i m) 1 0, F) := fun i a b => by
    have := r_hasMark h.1 (p := i) (m := m) (by omega) (by rw [h.2.1 375 (by decide) (by decide)]; exact b3 i a b)
    rw [h.2.1 375 (by decide) (by decide), h.2.1 376 (by decide) (by decide)] at this
    exact this
  refine pl_some (f := fun k i => pfX12_isMark_b2 pd_SH 5000 k F 367 m i) n1.1 (fun k i a b c => ?_) (fun k i a b c => ?_) (fun k => ?_) 5000 (by omega)
  · have e := hm i a b
    rw [ci_t c] at e
    show pfX12_isMark_b2 pd_SH 5000 (k + 1) F 367 m i = _
    simp (disch := omega) only [pfX12_isMark_b2, pl_l, pl_b, pl_iT, pl_t, pl_f, lm_1 h.1, lm_14 h.1, lm_15 h.1, lm_16 h.1, lm_17 h.1, lm_18 h.1, lm_19 h.1, lm_20 h.1, lm_21 h.1, lm_22 h.1, lm_23 h.1, lm_24 h.1, lm_25 h.1, lm_26 h.1, lm_27 h.1, lm_28 h.1, lm_29 h.1, lm_30 h.1, lm_31 h.1, lm_32 h.1, lm_33 h.1, lm_34 h.1, lm_35 h.1, lm_36 h.1, lm_37 h.1, lm_39 h.1, lm_40 h.1, lm_42 h.1, lm_43 h.1, lm_44 h.1, lm_45 h.1, lm_47 h.1, lm_48 h.1, lm_49 h.1, lm_50 h.1, lm_51 h.1, gx_367, gx_368, gx_369, gx_370, gx_371, gx_372, gx_373, gx_374, gx_375, gx_376, gx_377, gx_378, gx_379, gx_380, gx_381, gx_382, gx_383, gx_384, gx_385, gx_386, gx_387, gx_388, gx_389, gx_390, gx_391, gx_392, gx_393, gx_394, gx_395, gx_396, gx_397, gx_398, gx_399, gx_400, gx_401, gx_402, gx_403, gn_368, gn_369, gn_370, gn_371, gn_372, gn_373, gn_374, gn_375, gn_376, gn_377, gn_378, gn_379, gn_380, gn_381, gn_382, gn_383, gn_384, gn_385, gn_386, gn_387, gn_388, gn_389, gn_390, gn_391, gn_392, gn_393, gn_394, gn_395, gn_396, gn_397, gn_398, gn_399, gn_400, gn_401, gn_402, gn_403, h.2.1 369 (by decide) (by decide), e, pl_w, pl_i, if_pos, if_neg]
  · have e := hm i a b
    rw [ci_f c] at e
    show pfX12_isMark_b2 pd_SH 5000 (k + 1) F 367 m i = _
    simp (disch := omega) only [pfX12_isMark_b2, pl_l, pl_b, pl_iT, pl_t, pl_f, lm_1 h.1, lm_14 h.1, lm_15 h.1, lm_16 h.1, lm_17 h.1, lm_18 h.1, lm_19 h.1, lm_20 h.1, lm_21 h.1, lm_22 h.1, lm_23 h.1, lm_24 h.1, lm_25 h.1, lm_26 h.1, lm_27 h.1, lm_28 h.1, lm_29 h.1, lm_30 h.1, lm_31 h.1, lm_32 h.1, lm_33 h.1, lm_34 h.1, lm_35 h.1, lm_36 h.1, lm_37 h.1, lm_39 h.1, lm_40 h.1, lm_42 h.1, lm_43 h.1, lm_44 h.1, lm_45 h.1, lm_47 h.1, lm_48 h.1, lm_49 h.1, lm_50 h.1, lm_51 h.1, gx_367, gx_368, gx_369, gx_370, gx_371, gx_372, gx_373, gx_374, gx_375, gx_376, gx_377, gx_378, gx_379, gx_380, gx_381, gx_382, gx_383, gx_384, gx_385, gx_386, gx_387, gx_388, gx_389, gx_390, gx_391, gx_392, gx_393, gx_394, gx_395, gx_396, gx_397, gx_398, gx_399, gx_400, gx_401, gx_402, gx_403, gn_368, gn_369, gn_370, gn_371, gn_372, gn_373, gn_374, gn_375, gn_376, gn_377, gn_378, gn_379, gn_380, gn_381, gn_382, gn_383, gn_384, gn_385, gn_386, gn_387, gn_388, gn_389, gn_390, gn_391, gn_392, gn_393, gn_394, gn_395, gn_396, gn_397, gn_398, gn_399, gn_400, gn_401, gn_402, gn_403, h.2.1 369 (by decide) (by decide), e, pl_w, pl_i, if_pos, if_neg]
  · show pfX12_isMark_b2 pd_SH 5000 (k + 1) F 367 m _ = _
    simp (disch := omega) only [pfX12_isMark_b2, pl_l, pl_b, pl_iT, pl_t, pl_f, lm_1 h.1, lm_14 h.1, lm_15 h.1, lm_16 h.1, lm_17 h.1, lm_18 h.1, lm_19 h.1, lm_20 h.1, lm_21 h.1, lm_22 h.1, lm_23 h.1, lm_24 h.1, lm_25 h.1, lm_26 h.1, lm_27 h.1, lm_28 h.1, lm_29 h.1, lm_30 h.1, lm_31 h.1, lm_32 h.1, lm_33 h.1, lm_34 h.1, lm_35 h.1, lm_36 h.1, lm_37 h.1, lm_39 h.1, lm_40 h.1, lm_42 h.1, lm_43 h.1, lm_44 h.1, lm_45 h.1, lm_47 h.1, lm_48 h.1, lm_49 h.1, lm_50 h.1, lm_51 h.1, gx_367, gx_368, gx_369, gx_370, gx_371, gx_372, gx_373, gx_374, gx_375, gx_376, gx_377, gx_378, gx_379, gx_380, gx_381, gx_382, gx_383, gx_384, gx_385, gx_386, gx_387, gx_388, gx_389, gx_390, gx_391, gx_392, gx_393, gx_394, gx_395, gx_396, gx_397, gx_398, gx_399, gx_400, gx_401, gx_402, gx_403, gn_368, gn_369, gn_370, gn_371, gn_372, gn_373, gn_374, gn_375, gn_376, gn_377, gn_378, gn_379, gn_380, gn_381, gn_382, gn_383, gn_384, gn_385, gn_386, gn_387, gn_388, gn_389, gn_390, gn_391, gn_392, gn_393, gn_394, gn_395, gn_396, gn_397, gn_398, gn_399, gn_400, gn_401, gn_402, gn_403, h.2.1 369 (by decide) (by decide), pl_w, pl_i, if_pos, if_neg]
theorem q_mark (h : rS D s F) (hu : 0 ≤ F 367 41 ∧ F 367 41 ≤ 16) (hd : dst s) {m out : Int} (ho : out = 0 ∨ out = 1) (hr : isMk D m → ¬ Ou s m → s 110 < 36) : (¬ isMk D m ∧ ∃ F', pfX12_mark pd_SH 5000 F 367 m out = some (0, F') ∧ pd_Ly F' ∧ qF F F') ∨
    (isMk D m ∧ ∃ F' s', pfX12_mark pd_SH 5000 F 367 m out = some (1, F') ∧ pd_Ly F' ∧ cF F s' F' ∧ mR s s' m out) := by
  have h' := h.th 0
  unfold pfX12_mark
  simp only [pl_l, pl_b, pl_iT, pl_t, pl_f, gx_367, gx_368, gx_369, gx_370, gx_371, gx_372, gx_373, gx_374, gx_375, gx_376, gx_377, gx_378, gx_379, gx_380, gx_381, gx_382, gx_383, gx_384, gx_385, gx_386, gx_387, gx_388, gx_389, gx_390, gx_391, gx_392, gx_393, gx_394, gx_395, gx_396, gx_397, gx_398, gx_399, gx_400, gx_401, gx_402, gx_403, gn_368, gn_369, gn_370, gn_371, gn_372, gn_373, gn_374, gn_375, gn_376, gn_377, gn_378, gn_379, gn_380, gn_381, gn_382, gn_383, gn_384, gn_385, gn_386, gn_387, gn_388, gn_389, gn_390, gn_391, gn_392, gn_393, gn_394, gn_395, gn_396, gn_397, gn_398, gn_399, gn_400, gn_401, gn_402, gn_403, q_isMark h']
  rcases Classical.em (isMk D m) with k | k
  · rw [ci_t k, if_pos (by decide)]
    obtain ⟨G, f1, f2, f3⟩ := r_keeps h'.1 (by rw [pu_r, if_neg (by decide)]; exact hu)
    have hG := kF.S h' f2 f3
    obtain ⟨H, s', m1, m2, m3, m4, m5⟩ := r_marks f2 hG.2.2.1 h.2.2.2.2.2.2.1 hd ho (hr k)
    rw [f1]
    simp only [pl_l, pl_b, pl_iT, pl_t, pl_f, m1]
    exact Or.inr ⟨k, H, s', rfl, m2, kF.c f3 m4 (fun b _ x _ => m3 b x) (fun j _ _ => by rw [m3 367 (by decide)]), m5⟩
  · rw [ci_f k, if_neg (by decide)]
    exact Or.inl ⟨k, _, rfl, h'.1, qF.th F 0⟩
theorem q_markless (h : rS D s F) (hd : dst s) {m : Int} (hr : isMk D m → ¬ Ou s m → s 110 < 36) : ∃ F' v, pfX12_markless pd_SH 5000 F 367 m = some (v, F') ∧
    ((¬ isMk D m ∧ F' 367 0 = 1 ∧ pd_Ly F' ∧ qF F F') ∨ (isMk D m ∧ F' 367 0 = 0 ∧ pd_Ly F' ∧ tF F F' ∧ ∃ s1 s2, mR s s1 m (1 - ci (Ou s m) 1 0) ∧ mR s1 s2 m (ci (Ou s m) 1 0) ∧ F' 393 = s2 ∧ v = cPU D s1 (s 72) - cPU D s (s 72))) := by
  unfold pfX12_markless
  simp only [pl_l, pl_b, pl_iT, pl_t, pl_f, gx_367, gx_368, gx_369, gx_370, gx_371, gx_372, gx_373, gx_374, gx_375, gx_376, gx_377, gx_378, gx_379, gx_380, gx_381, gx_382, gx_383, gx_384, gx_385, gx_386, gx_387, gx_388, gx_389, gx_390, gx_391, gx_392, gx_393, gx_394, gx_395, gx_396, gx_397, gx_398, gx_399, gx_400, gx_401, gx_402, gx_403, gn_368, gn_369, gn_370, gn_371, gn_372, gn_373, gn_374, gn_375, gn_376, gn_377, gn_378, gn_379, gn_380, gn_381, gn_382, gn_383, gn_384, gn_385, gn_386, gn_387, gn_388, gn_389, gn_390, gn_391, gn_392, gn_393, gn_394, gn_395, gn_396, gn_397, gn_398, gn_399, gn_400, gn_401, gn_402, gn_403, q_isMark h]
  rcases Classical.em (isMk D m) with k | k
  · rw [ci_t k, if_neg (by decide)]
    have h' := h.th 0
    have t0 : pd_up F 367 0 0 367 0 = 0 := by rw [pu_r, if_pos rfl]
    obtain ⟨G, f1, f2, f3, f4⟩ := q_paidNow h'
    have hi := r_isOut f3.1 (m := m) (by rw [f3.2.2.1]; exact h.2.2.2.2.2.2.1)
    rw [f3.2.2.1] at hi
    have hi : pfX12_isOut pd_SH 5000 G 367 m = some (ci (Ou s m) 1 0, G) := hi
    unfold pfX12_markless_b14
    simp only [pl_l, pl_b, pl_iT, pl_t, pl_f, gx_367, gx_368, gx_369, gx_370, gx_371, gx_372, gx_373, gx_374, gx_375, gx_376, gx_377, gx_378, gx_379, gx_380, gx_381, gx_382, gx_383, gx_384, gx_385, gx_386, gx_387, gx_388, gx_389, gx_390, gx_391, gx_392, gx_393, gx_394, gx_395, gx_396, gx_397, gx_398, gx_399, gx_400, gx_401, gx_402, gx_403, gn_368, gn_369, gn_370, gn_371, gn_372, gn_373, gn_374, gn_375, gn_376, gn_377, gn_378, gn_379, gn_380, gn_381, gn_382, gn_383, gn_384, gn_385, gn_386, gn_387, gn_388, gn_389, gn_390, gn_391, gn_392, gn_393, gn_394, gn_395, gn_396, gn_397, gn_398, gn_399, gn_400, gn_401, gn_402, gn_403, t0]
    rw [if_pos (by decide), f1]
    simp only [pl_l, pl_b, pl_iT, pl_t, pl_f, hi]
    have key : ∀ x, (x = 0 ∨ x = 1) → x = ci (Ou s m) (1 : Int) 0 → ∃ F' v, pfX12_markless_b51 pd_SH 5000 G 367 m (cPU D s (s 72)) x (1 - x) m 367 = some (v, F') ∧ F' 367 0 = 0 ∧ pd_Ly F' ∧ tF F F' ∧ ∃ s1 s2, mR s s1 m (1 - x) ∧ mR s1 s2 m x ∧ F' 393 = s2 ∧ v = cPU D s1 (s 72) - cPU D s (s 72) := by
      intro x hx ex
      obtain ⟨H, s1, m1, m2, m3, m4, m5⟩ := r_marks f3.1 f3.2.2.1 h.2.2.2.2.2.2.1 hd (m := m) (out := 1 - x) (by omega) (hr k)
      have a1 := h.2.2.2.2.mR h.2.2.2.1 m5
      have hH : rS D s1 H := f3.row m2 m3 m4 a1
      obtain ⟨K, p1, p2, p3, p4⟩ := q_paidNow hH
      have e72 : s1 72 = s 72 := m5.1 72 (by decide)
      rw [e72] at p1
      obtain ⟨J, s2, j1, j2, j3, j4, j5⟩ := r_marks p3.1 p3.2.2.1 m5.2.1 m5.2.2.1 (m := m) (out := x) hx (fun w => by
        have e := m5.2.2.2.2
        have := h.2.2.2.2.2.2.1
        rw [ci_f w] at e
        rcases ci_o (Ou s m) (1 : Int) 0 with z | z
        · rw [z.2] at e; omega
        · have hz := mt (m5.2.2.2.1 m).mpr w
          rw [ex, z.2, if_pos (by decide)] at hz
          exact absurd (Or.inr rfl) hz)
      have b1 : 0 ≤ cPU D s1 (s 72) ∧ cPU D s1 (s 72) ≤ 1199999880 * sD D s1 := by rw [← e72]; exact cPU_bd h.2.2.2.1 a1 a1.2.2.2.1.1 (sD_12 h.2.2.2.1).1
      have b2 : 0 ≤ cPU D s (s 72) ∧ cPU D s (s 72) ≤ 1199999880 * sD D s := cPU_bd h.2.2.2.1 h.2.2.2.2 h.2.2.2.2.2.2.2.1.1 (sD_12 h.2.2.2.1).1
      have n1 := sD_12 (s := s1) h.2.2.2.1
      have n2 := sD_12 (s := s) h.2.2.2.1
      unfold pfX12_markless_b51
      simp only [pl_l, pl_b, pl_iT, pl_t, pl_f, gx_367, gx_368, gx_369, gx_370, gx_371, gx_372, gx_373, gx_374, gx_375, gx_376, gx_377, gx_378, gx_379, gx_380, gx_381, gx_382, gx_383, gx_384, gx_385, gx_386, gx_387, gx_388, gx_389, gx_390, gx_391, gx_392, gx_393, gx_394, gx_395, gx_396, gx_397, gx_398, gx_399, gx_400, gx_401, gx_402, gx_403, gn_368, gn_369, gn_370, gn_371, gn_372, gn_373, gn_374, gn_375, gn_376, gn_377, gn_378, gn_379, gn_380, gn_381, gn_382, gn_383, gn_384, gn_385, gn_386, gn_387, gn_388, gn_389, gn_390, gn_391, gn_392, gn_393, gn_394, gn_395, gn_396, gn_397, gn_398, gn_399, gn_400, gn_401, gn_402, gn_403, m1, p1, j1]
      rw [pl_W (by omega)]
      have tf : tF F J := ((((qF.th F 0).tr f4.q).t).tr ⟨fun b _ x _ => m3 b x, fun j _ _ => by rw [m3 367 (by decide)]⟩).tr ((p4.q.t).tr ⟨fun b _ x _ => j3 b x, fun j _ _ => by rw [j3 367 (by decide)]⟩)
      refine ⟨J, _, rfl, ?_, j2, tf, s1, s2, m5, j5, j4, rfl⟩
      rw [j3 367 (by decide), p4.2 0 (by decide), m3 367 (by decide), f4.2 0 (by decide)]; exact t0
    rcases ci_o (Ou s m) (1 : Int) 0 with z | z
    · obtain ⟨F', v, e1, e2⟩ := key 1 (Or.inr rfl) z.2.symm
      rw [z.2, if_pos (by decide)]
      exact ⟨F', v, e1, Or.inr ⟨k, e2⟩⟩
    · obtain ⟨F', v, e1, e2⟩ := key 0 (Or.inl rfl) z.2.symm
      rw [z.2, if_neg (by decide)]
      exact ⟨F', v, e1, Or.inr ⟨k, e2⟩⟩
  · rw [ci_f k, if_pos rfl]
    have t1 : pd_up F 367 0 1 367 0 = 1 := by rw [pu_r, if_pos rfl]
    unfold pfX12_markless_b14
    simp only [pl_l, pl_b, pl_iT, pl_t, pl_f, gx_367, gx_368, gx_369, gx_370, gx_371, gx_372, gx_373, gx_374, gx_375, gx_376, gx_377, gx_378, gx_379, gx_380, gx_381, gx_382, gx_383, gx_384, gx_385, gx_386, gx_387, gx_388, gx_389, gx_390, gx_391, gx_392, gx_393, gx_394, gx_395, gx_396, gx_397, gx_398, gx_399, gx_400, gx_401, gx_402, gx_403, gn_368, gn_369, gn_370, gn_371, gn_372, gn_373, gn_374, gn_375, gn_376, gn_377, gn_378, gn_379, gn_380, gn_381, gn_382, gn_383, gn_384, gn_385, gn_386, gn_387, gn_388, gn_389, gn_390, gn_391, gn_392, gn_393, gn_394, gn_395, gn_396, gn_397, gn_398, gn_399, gn_400, gn_401, gn_402, gn_403, t1]
    rw [if_neg (by decide)]
    exact ⟨_, _, rfl, Or.inl ⟨k, t1, (h.th 1).1, qF.th F 1⟩⟩
noncomputable def aCo (D : pd_F) (s : Int → Int) (u l w : Int) : Int := if w = 0 then D 369 0 else if w = 1 then D 370 0 else if w = 2 then D 371 0 else if w = 3 then D 372 0 else if w = 4 then D 373 0 else if w = 5 then s 71 else if w = 6 then s 72 else if w = 7 then s 73 else if w = 8 then s 70 else if w = 9 then s 110 else if w = 10 then u else if w = 11 then l else -1
theorem q_count (h : rS D s F) {w : Int} : ∃ F', pfX12_count pd_SH 5000 F 367 w = some (aCo D s (F 367 41) (F 367 2) w, F') ∧ pd_Ly F' ∧ qF F F' := by
  have h' := h.th 0
  refine ⟨_, ?_, h'.1, qF.th F 0⟩
  unfold pfX12_count aCo
  simp only [pl_l, pl_b, pl_iT, pl_t, pl_f, gx_367, gx_368, gx_369, gx_370, gx_371, gx_372, gx_373, gx_374, gx_375, gx_376, gx_377, gx_378, gx_379, gx_380, gx_381, gx_382, gx_383, gx_384, gx_385, gx_386, gx_387, gx_388, gx_389, gx_390, gx_391, gx_392, gx_393, gx_394, gx_395, gx_396, gx_397, gx_398, gx_399, gx_400, gx_401, gx_402, gx_403, gn_368, gn_369, gn_370, gn_371, gn_372, gn_373, gn_374, gn_375, gn_376, gn_377, gn_378, gn_379, gn_380, gn_381, gn_382, gn_383, gn_384, gn_385, gn_386, gn_387, gn_388, gn_389, gn_390, gn_391, gn_392, gn_393, gn_394, gn_395, gn_396, gn_397, gn_398, gn_399, gn_400, gn_401, gn_402, gn_403, lm_1 h'.1, lm_14 h'.1, lm_15 h'.1, lm_16 h'.1, lm_17 h'.1, lm_18 h'.1, lm_19 h'.1, lm_20 h'.1, lm_21 h'.1, lm_22 h'.1, lm_23 h'.1, lm_24 h'.1, lm_25 h'.1, lm_26 h'.1, lm_27 h'.1, lm_28 h'.1, lm_29 h'.1, lm_30 h'.1, lm_31 h'.1, lm_32 h'.1, lm_33 h'.1, lm_34 h'.1, lm_35 h'.1, lm_36 h'.1, lm_37 h'.1, lm_39 h'.1, lm_40 h'.1, lm_42 h'.1, lm_43 h'.1, lm_44 h'.1, lm_45 h'.1, lm_47 h'.1, lm_48 h'.1, lm_49 h'.1, lm_50 h'.1, lm_51 h'.1, h'.2.2.1, h'.2.1 369 (by decide) (by decide), h'.2.1 370 (by decide) (by decide), h'.2.1 371 (by decide) (by decide), h'.2.1 372 (by decide) (by decide), h'.2.1 373 (by decide) (by decide), pu_r, if_neg (show (41 : Int) ≠ 0 by decide), if_neg (show (2 : Int) ≠ 0 by decide)]
  repeat rw [pl_i (by omega)]
  by_cases w0 : w = 0
  · rw [if_pos w0, if_pos w0]
  by_cases w1 : w = 1
  · rw [if_neg w0, if_pos w1, if_neg w0, if_pos w1]
  by_cases w2 : w = 2
  · rw [if_neg w0, if_neg w1, if_pos w2, if_neg w0, if_neg w1, if_pos w2]
  by_cases w3 : w = 3
  · rw [if_neg w0, if_neg w1, if_neg w2, if_pos w3, if_neg w0, if_neg w1, if_neg w2, if_pos w3]
  by_cases w4 : w = 4
  · rw [if_neg w0, if_neg w1, if_neg w2, if_neg w3, if_pos w4, if_neg w0, if_neg w1, if_neg w2, if_neg w3, if_pos w4]
  by_cases w5 : w = 5
  · rw [if_neg w0, if_neg w1, if_neg w2, if_neg w3, if_neg w4, if_pos w5, if_neg w0, if_neg w1, if_neg w2, if_neg w3, if_neg w4, if_pos w5]
  by_cases w6 : w = 6
  · rw [if_neg w0, if_neg w1, if_neg w2, if_neg w3, if_neg w4, if_neg w5, if_pos w6, if_neg w0, if_neg w1, if_neg w2, if_neg w3, if_neg w4, if_neg w5, if_pos w6]
  by_cases w7 : w = 7
  · rw [if_neg w0, if_neg w1, if_neg w2, if_neg w3, if_neg w4, if_neg w5, if_neg w6, if_pos w7, if_neg w0, if_neg w1, if_neg w2, if_neg w3, if_neg w4, if_neg w5, if_neg w6, if_pos w7]
  by_cases w8 : w = 8
  · rw [if_neg w0, if_neg w1, if_neg w2, if_neg w3, if_neg w4, if_neg w5, if_neg w6, if_neg w7, if_pos w8, if_neg w0, if_neg w1, if_neg w2, if_neg w3, if_neg w4, if_neg w5, if_neg w6, if_neg w7, if_pos w8]
  by_cases w9 : w = 9
  · rw [if_neg w0, if_neg w1, if_neg w2, if_neg w3, if_neg w4, if_neg w5, if_neg w6, if_neg w7, if_neg w8, if_pos w9, if_neg w0, if_neg w1, if_neg w2, if_neg w3, if_neg w4, if_neg w5, if_neg w6, if_neg w7, if_neg w8, if_pos w9]
  by_cases w10 : w = 10
  · rw [if_neg w0, if_neg w1, if_neg w2, if_neg w3, if_neg w4, if_neg w5, if_neg w6, if_neg w7, if_neg w8, if_neg w9, if_pos w10, if_neg w0, if_neg w1, if_neg w2, if_neg w3, if_neg w4, if_neg w5, if_neg w6, if_neg w7, if_neg w8, if_neg w9, if_pos w10]
  by_cases w11 : w = 11
  · rw [if_neg w0, if_neg w1, if_neg w2, if_neg w3, if_neg w4, if_neg w5, if_neg w6, if_neg w7, if_neg w8, if_neg w9, if_neg w10, if_pos w11, if_neg w0, if_neg w1, if_neg w2, if_neg w3, if_neg w4, if_neg w5, if_neg w6, if_neg w7, if_neg w8, if_neg w9, if_neg w10, if_pos w11]
  rw [if_neg w0, if_neg w1, if_neg w2, if_neg w3, if_neg w4, if_neg w5, if_neg w6, if_neg w7, if_neg w8, if_neg w9, if_neg w10, if_neg w11, if_neg w0, if_neg w1, if_neg w2, if_neg w3, if_neg w4, if_neg w5, if_neg w6, if_neg w7, if_neg w8, if_neg w9, if_neg w10, if_neg w11]
theorem shr_ushr {v k : Int} (h : k = 0 ∨ k = 8 ∨ k = 16 ∨ k = 24) : pd_b (pd_b (pd_ushr v k)) = pd_b (pd_shr v k) := by
  have key : ∀ x y : Int, x % 256 = y % 256 → pd_b (pd_b x) = pd_b y := fun x y e => by unfold pd_b; omega
  apply key
  generalize hV : Int32.ofInt v = V
  have hN : V.toBitVec.toNat < 4294967296 := V.toBitVec.isLt
  have go : ∀ n : Nat, (n = 0 ∨ n = 8 ∨ n = 16 ∨ n = 24) → (V.toUInt32 >>> ((Int32.ofNat n).toUInt32 &&& Int32.toUInt32 31)).toInt32.toInt % 256 = (V >>> (Int32.ofNat n &&& 31)).toInt % 256 := by
    intro n hn
    have e1 : (V >>> (Int32.ofNat n &&& 31)).toInt = V.toBitVec.toInt / ((2 ^ n : Nat) : Int) := by
      show (V >>> (Int32.ofNat n &&& 31)).toBitVec.toInt = _
      rw [Int32.toBitVec_shiftRight, BitVec.sshiftRight_eq', bn_s32 n (by omega), BitVec.toInt_sshiftRight, Int.shiftRight_eq_div_pow]
    have eu : ∀ n, n < 32 → (((Int32.ofNat n).toUInt32 &&& Int32.toUInt32 31).toBitVec % 32).toNat = n := by decide +kernel
    have e2 : (V.toUInt32 >>> ((Int32.ofNat n).toUInt32 &&& Int32.toUInt32 31)).toInt32.toBitVec.toNat = V.toBitVec.toNat / 2 ^ n := by
      show (V.toUInt32 >>> ((Int32.ofNat n).toUInt32 &&& Int32.toUInt32 31)).toBitVec.toNat = _
      rw [UInt32.toBitVec_shiftRight, BitVec.ushiftRight_eq', BitVec.toNat_ushiftRight, eu n (by omega), Nat.shiftRight_eq_div_pow]
      rfl
    have e3 : (V.toUInt32 >>> ((Int32.ofNat n).toUInt32 &&& Int32.toUInt32 31)).toInt32.toInt = (V.toUInt32 >>> ((Int32.ofNat n).toUInt32 &&& Int32.toUInt32 31)).toInt32.toBitVec.toInt := rfl
    rw [e1, e3, BitVec.toInt_eq_toNat_cond, BitVec.toInt_eq_toNat_cond, e2]
    generalize V.toBitVec.toNat = N at hN
    rcases hn with rfl | rfl | rfl | rfl
    · rw [show 2 ^ 0 = 1 from rfl, Nat.div_one]; split <;> omega
    · rw [show 2 ^ 8 = 256 from rfl]; split <;> split <;> omega
    · rw [show 2 ^ 16 = 65536 from rfl]; split <;> split <;> omega
    · rw [show 2 ^ 24 = 16777216 from rfl]; split <;> split <;> omega
  unfold pd_ushr pd_shr
  rw [hV]
  rcases h with rfl | rfl | rfl | rfl
  · exact go 0 (by decide)
  · exact go 8 (by decide)
  · exact go 16 (by decide)
  · exact go 24 (by decide)
/-- four bytes behind l -/
def byR (g : Int → Int) (l v : Int) : Int → Int := fun j => if l ≤ j ∧ j < l + 4 then pd_b (pd_shr v (24 - 8 * (j - l))) else g j
theorem r_puts (hL : pd_Ly F) {l v : Int} (h0 : F 367 2 = l) (h1 : 0 ≤ l ∧ l + 4 ≤ 1000) : ∃ F', pfX12_puts pd_SH 5000 F 367 v = some F' ∧ pd_Ly F' ∧ (∀ b, b ≠ 367 → b ≠ 368 → F' b = F b) ∧ (∀ j, j ≠ 2 → F' 367 j = F 367 j) ∧ F' 367 2 = l + 4 ∧ F' 368 = byR (F 368) l v := by
  unfold pfX12_puts
  refine pl_whl (f := fun j (q : pd_F × Int) => pfX12_puts_b3 pd_SH 5000 j q.1 367 v q.2) (P := fun m q => m ≤ 4 ∧ q.2 = 8 * (m : Int) - 8 ∧ pd_Ly q.1 ∧ (∀ b, b ≠ 367 → b ≠ 368 → q.1 b = F b) ∧ (∀ j, j ≠ 2 → q.1 367 j = F 367 j) ∧ q.1 367 2 = l + 4 - m ∧ ∀ j, q.1 368 j = if l ≤ j ∧ j < l + 4 - m then pd_b (pd_shr v (24 - 8 * (j - l))) else F 368 j)
    (res := fun o => ∃ F', o = some F' ∧ pd_Ly F' ∧ (∀ b, b ≠ 367 → b ≠ 368 → F' b = F b) ∧ (∀ j, j ≠ 2 → F' 367 j = F 367 j) ∧ F' 367 2 = l + 4 ∧ F' 368 = byR (F 368) l v) ?_ 5000 4 (F, 24) (by omega) ⟨by omega, rfl, hL, fun _ _ _ => rfl, fun _ _ => rfl, by show F 367 2 = _; omega, fun j => by rw [if_neg (by omega)]⟩
  intro j m ⟨G, x⟩ ⟨q0, q1, q2, q3, q4, q5, q6⟩
  simp only at q1 q2 q3 q4 q5 q6
  match m with
  | 0 =>
    right
    refine ⟨G, ?_, q2, q3, q4, by rw [q5]; omega, ?_⟩
    · show pfX12_puts_b3 pd_SH 5000 (j + 1) G 367 v x = _
      simp (disch := omega) only [pfX12_puts_b3, if_pos]
    · funext i
      rw [q6 i]
      unfold byR
      by_cases c : l ≤ i ∧ i < l + 4
      · rw [if_pos c, if_pos (by omega)]
      · rw [if_neg c, if_neg (by omega)]
  | m + 1 =>
    left
    have e2 : G 367 2 = l + 3 - m := by rw [q5]; omega
    have hx : x = 8 * (m : Int) := by omega
    have hb : pd_b (pd_b (pd_shr v x)) = pd_b (pd_shr v x) := by unfold pd_b; omega
    have g1 : pd_Ly (pd_up G 368 (l + 3 - m) (pd_b (pd_shr v x))) := q2.up (pl_rc0 sx_368 (by decide))
    have e3 : pd_up G 368 (l + 3 - m) (pd_b (pd_shr v x)) 367 2 = l + 3 - m := by rw [pu_a (by decide)]; exact e2
    refine ⟨m, (pd_up (pd_up G 368 (l + 3 - m) (pd_b (pd_shr v x))) 367 2 (l + 3 - m + 1), x - 8), by omega, ⟨by omega, by show x - 8 = _; omega, g1.up (pl_rc4 sx_367 (by decide)), fun b u w => by dsimp only; rw [pu_a u, pu_a w]; exact q3 b u w, fun i u => by dsimp only; rw [pu_r, if_neg u, pu_a (by decide)]; exact q4 i u, by dsimp only; rw [pu_r, if_pos rfl]; omega, fun i => ?_⟩, ?_⟩
    · dsimp only
      rw [pu_a (show (368 : Int) ≠ 367 by decide), pu_r]
      by_cases c : i = l + 3 - m
      · rw [if_pos c, if_pos (by omega), show 24 - 8 * (i - l) = x by omega]
      · rw [if_neg c, q6 i]
        by_cases d : l ≤ i ∧ i < l + 4 - ((m + 1 : Nat) : Int)
        · rw [if_pos d, if_pos (by omega)]
        · rw [if_neg d, if_neg (by omega)]
    · show pfX12_puts_b3 pd_SH 5000 (j + 1) G 367 v x = pfX12_puts_b3 pd_SH 5000 j _ 367 v (x - 8)
      simp (disch := omega) only [pfX12_puts_b3, pl_l, pl_b, pl_iT, pl_t, pl_f, lm_1 q2, lm_14 q2, lm_15 q2, lm_16 q2, lm_17 q2, lm_18 q2, lm_19 q2, lm_20 q2, lm_21 q2, lm_22 q2, lm_23 q2, lm_24 q2, lm_25 q2, lm_26 q2, lm_27 q2, lm_28 q2, lm_29 q2, lm_30 q2, lm_31 q2, lm_32 q2, lm_33 q2, lm_34 q2, lm_35 q2, lm_36 q2, lm_37 q2, lm_39 q2, lm_40 q2, lm_42 q2, lm_43 q2, lm_44 q2, lm_45 q2, lm_47 q2, lm_48 q2, lm_49 q2, lm_50 q2, lm_51 q2, gx_367, gx_368, gx_369, gx_370, gx_371, gx_372, gx_373, gx_374, gx_375, gx_376, gx_377, gx_378, gx_379, gx_380, gx_381, gx_382, gx_383, gx_384, gx_385, gx_386, gx_387, gx_388, gx_389, gx_390, gx_391, gx_392, gx_393, gx_394, gx_395, gx_396, gx_397, gx_398, gx_399, gx_400, gx_401, gx_402, gx_403, gn_368, gn_369, gn_370, gn_371, gn_372, gn_373, gn_374, gn_375, gn_376, gn_377, gn_378, gn_379, gn_380, gn_381, gn_382, gn_383, gn_384, gn_385, gn_386, gn_387, gn_388, gn_389, gn_390, gn_391, gn_392, gn_393, gn_394, gn_395, gn_396, gn_397, gn_398, gn_399, gn_400, gn_401, gn_402, gn_403, e2, e3, hb, pl_w, pl_i, if_neg]
      rw [show x + -8 = x - 8 by omega]
theorem q_feed (hL : pd_Ly F) {l : Int} (h0 : F 367 2 = l) (h1 : 0 ≤ l ∧ l ≤ 1000) {a b c d e : Int} : (1000 < l + 20 ∧ ∃ F', pfX12_feed pd_SH 5000 F 367 a b c d e = some (-1, F') ∧ pd_Ly F' ∧ qF F F') ∨
    (l + 20 ≤ 1000 ∧ ∃ F', pfX12_feed pd_SH 5000 F 367 a b c d e = some (l + 20, F') ∧ pd_Ly F' ∧ (∀ b, b ≠ 367 → b ≠ 368 → F' b = F b) ∧ (∀ j, j ≠ 0 → j ≠ 2 → F' 367 j = F 367 j) ∧ F' 367 2 = l + 20 ∧ F' 368 = byR (byR (byR (byR (byR (F 368) l a) (l + 4) b) (l + 8) c) (l + 12) d) (l + 16) e) := by
  have g1 : pd_Ly (pd_up F 367 0 0) := hL.up (pl_rc4 sx_367 (by decide))
  have e0 : pd_up F 367 0 0 367 2 = l := by rw [pu_r, if_neg (by decide)]; exact h0
  unfold pfX12_feed
  simp only [pl_l, pl_b, pl_iT, pl_t, pl_f, gx_367, gx_368, gx_369, gx_370, gx_371, gx_372, gx_373, gx_374, gx_375, gx_376, gx_377, gx_378, gx_379, gx_380, gx_381, gx_382, gx_383, gx_384, gx_385, gx_386, gx_387, gx_388, gx_389, gx_390, gx_391, gx_392, gx_393, gx_394, gx_395, gx_396, gx_397, gx_398, gx_399, gx_400, gx_401, gx_402, gx_403, gn_368, gn_369, gn_370, gn_371, gn_372, gn_373, gn_374, gn_375, gn_376, gn_377, gn_378, gn_379, gn_380, gn_381, gn_382, gn_383, gn_384, gn_385, gn_386, gn_387, gn_388, gn_389, gn_390, gn_391, gn_392, gn_393, gn_394, gn_395, gn_396, gn_397, gn_398, gn_399, gn_400, gn_401, gn_402, gn_403, e0]
  rw [pl_w (by omega)]
  by_cases k : l + 20 ≤ 1000
  · rw [if_pos k]
    obtain ⟨F1, a1, a2, a3, a4, a5, a6⟩ := r_puts g1 (v := a) e0 (by omega)
    obtain ⟨F2, b1, b2, b3, b4, b5, b6⟩ := r_puts a2 (v := b) a5 (by omega)
    obtain ⟨F3, c1, c2, c3, c4, c5, c6⟩ := r_puts b2 (v := c) b5 (by omega)
    obtain ⟨F4, d1, d2, d3, d4, d5, d6⟩ := r_puts c2 (v := d) c5 (by omega)
    obtain ⟨F5, e1, e2, e3, e4, e5, e6⟩ := r_puts d2 (v := e) d5 (by omega)
    simp only [a1, b1, c1, d1, e1, pl_l, pl_b, pl_iT, pl_t, pl_f, e5]
    refine Or.inr ⟨k, F5, by rw [show l + 4 + 4 + 4 + 4 + 4 = l + 20 by omega], e2, fun b x y => ?_, fun j x y => ?_, by omega, ?_⟩
    · rw [e3 b x y, d3 b x y, c3 b x y, b3 b x y, a3 b x y, pu_a x]
    · rw [e4 j y, d4 j y, c4 j y, b4 j y, a4 j y, pu_r, if_neg x]
    · rw [e6, d6, c6, b6, a6, pu_a (by decide)]
      rw [show l + 4 + 4 = l + 8 by omega, show l + 8 + 4 = l + 12 by omega, show l + 12 + 4 = l + 16 by omega]
  · rw [if_neg k]
    exact Or.inl ⟨by omega, _, rfl, g1, qF.th F 0⟩
end RM

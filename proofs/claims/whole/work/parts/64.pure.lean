/-! the reference's readers -/
theorem pl_find {R : Type} {f : Nat → Int → Option R} {Q : Int → Prop} {hit : Int → Option R} {miss : Option R} {N : Int} (hN : 0 ≤ N)
    (hh : ∀ k i, 0 ≤ i → i < N → Q i → f (k + 1) i = hit i) (hm : ∀ k i, 0 ≤ i → i < N → ¬ Q i → f (k + 1) i = f k (i + 1)) (he : ∀ k, f (k + 1) N = miss) (k : Nat) (hk : N < k) :
    (∃ i, 0 ≤ i ∧ i < N ∧ Q i ∧ (∀ j, 0 ≤ j → j < i → ¬ Q j) ∧ f k 0 = hit i) ∨ ((∀ j, 0 ≤ j → j < N → ¬ Q j) ∧ f k 0 = miss) := by
  refine pl_for (f := fun k (_ : Unit) i => f k i) (P := fun i _ => ∀ j, 0 ≤ j → j < i → ¬ Q j) (N := N) (res := fun o => (∃ i, 0 ≤ i ∧ i < N ∧ Q i ∧ (∀ j, 0 ≤ j → j < i → ¬ Q j) ∧ o = hit i) ∨ ((∀ j, 0 ≤ j → j < N → ¬ Q j) ∧ o = miss)) ?_ ?_ k () 0 (by omega) hN (by omega) (fun j a b => by omega)
  · intro k q i a b h
    rcases Classical.em (Q i) with c | c
    · exact Or.inr (Or.inl ⟨i, a, b, c, h, hh k i a b c⟩)
    · refine Or.inl ⟨(), fun j d e => ?_, hm k i a b c⟩
      rcases Int.lt_or_eq_of_le (show j ≤ i by omega) with g | g
      · exact h j d g
      · rw [g]; exact c
  · intro k q h
    exact Or.inr ⟨h, he k⟩
theorem pl_some {F : pd_F} {f : Nat → Int → Option (Int × pd_F)} {Q : Int → Prop} {N : Int} (hN : 0 ≤ N)
    (hh : ∀ k i, 0 ≤ i → i < N → Q i → f (k + 1) i = some (1, F)) (hm : ∀ k i, 0 ≤ i → i < N → ¬ Q i → f (k + 1) i = f k (i + 1)) (he : ∀ k, f (k + 1) N = some (0, F)) (k : Nat) (hk : N < k) :
    f k 0 = some (ci (∃ i, 0 ≤ i ∧ i < N ∧ Q i) 1 0, F) := by
  rcases pl_find hN hh hm he k hk with ⟨i, a, b, c, -, e⟩ | ⟨h, e⟩
  · rw [e, ci_t ⟨i, a, b, c⟩]
  · rw [e, ci_f (fun ⟨i, a, b, c⟩ => h i a b c)]
theorem r_within {F : pd_F} {v lo hi : Int} : pfX12_within pd_SH 5000 F v lo hi = some (if lo ≤ v ∧ v ≤ hi then 1 else 0, F) := by
  unfold pfX12_within
  repeat' split
  all_goals first | rfl | (exfalso; omega)
theorem r_isPerson {F : pd_F} (hL : pd_Ly F) {p : Int} (h : 0 ≤ F 369 0 ∧ F 369 0 ≤ 12) : pfX12_isPerson pd_SH 5000 F 367 p = some (if 0 ≤ p ∧ p < F 369 0 then 1 else 0, F) := by
  unfold pfX12_isPerson
  simp only [pl_l, pl_b, pl_iT, pl_t, pl_f, lm_1 hL, lm_14 hL, lm_15 hL, lm_16 hL, lm_17 hL, lm_18 hL, lm_19 hL, lm_20 hL, lm_21 hL, lm_22 hL, lm_23 hL, lm_24 hL, lm_25 hL, lm_26 hL, lm_27 hL, lm_28 hL, lm_29 hL, lm_30 hL, lm_31 hL, lm_32 hL, lm_33 hL, lm_34 hL, lm_35 hL, lm_36 hL, lm_37 hL, lm_39 hL, lm_40 hL, lm_42 hL, lm_43 hL, lm_44 hL, lm_45 hL, lm_47 hL, lm_48 hL, lm_49 hL, lm_50 hL, lm_51 hL, gx_367, gx_368, gx_369, gx_370, gx_371, gx_372, gx_373, gx_374, gx_375, gx_376, gx_377, gx_378, gx_379, gx_380, gx_381, gx_382, gx_383, gx_384, gx_385, gx_386, gx_387, gx_388, gx_389, gx_390, gx_391, gx_392, gx_393, gx_394, gx_395, gx_396, gx_397, gx_398, gx_399, gx_400, gx_401, gx_402, gx_403, gn_368, gn_369, gn_370, gn_371, gn_372, gn_373, gn_374, gn_375, gn_376, gn_377, gn_378, gn_379, gn_380, gn_381, gn_382, gn_383, gn_384, gn_385, gn_386, gn_387, gn_388, gn_389, gn_390, gn_391, gn_392, gn_393, gn_394, gn_395, gn_396, gn_397, gn_398, gn_399, gn_400, gn_401, gn_402, gn_403]
  rw [pl_i (by omega), r_within, pl_w (by omega)]
  simp only [pl_l, pl_b, pl_iT, pl_t, pl_f]
  rw [pl_i (by split <;> simp)]
  by_cases c : 0 ≤ p ∧ p < F 369 0
  · rw [if_pos c, if_pos (by omega)]
  · rw [if_neg c, if_neg (by omega)]
theorem r_isAccount {F : pd_F} (hL : pd_Ly F) {p : Int} (h : 0 ≤ F 371 0 ∧ F 371 0 ≤ 12) : pfX12_isAccount pd_SH 5000 F 367 p = some (if 0 ≤ p ∧ p < F 371 0 then 1 else 0, F) := by
  unfold pfX12_isAccount
  simp only [pl_l, pl_b, pl_iT, pl_t, pl_f, lm_1 hL, lm_14 hL, lm_15 hL, lm_16 hL, lm_17 hL, lm_18 hL, lm_19 hL, lm_20 hL, lm_21 hL, lm_22 hL, lm_23 hL, lm_24 hL, lm_25 hL, lm_26 hL, lm_27 hL, lm_28 hL, lm_29 hL, lm_30 hL, lm_31 hL, lm_32 hL, lm_33 hL, lm_34 hL, lm_35 hL, lm_36 hL, lm_37 hL, lm_39 hL, lm_40 hL, lm_42 hL, lm_43 hL, lm_44 hL, lm_45 hL, lm_47 hL, lm_48 hL, lm_49 hL, lm_50 hL, lm_51 hL, gx_367, gx_368, gx_369, gx_370, gx_371, gx_372, gx_373, gx_374, gx_375, gx_376, gx_377, gx_378, gx_379, gx_380, gx_381, gx_382, gx_383, gx_384, gx_385, gx_386, gx_387, gx_388, gx_389, gx_390, gx_391, gx_392, gx_393, gx_394, gx_395, gx_396, gx_397, gx_398, gx_399, gx_400, gx_401, gx_402, gx_403, gn_368, gn_369, gn_370, gn_371, gn_372, gn_373, gn_374, gn_375, gn_376, gn_377, gn_378, gn_379, gn_380, gn_381, gn_382, gn_383, gn_384, gn_385, gn_386, gn_387, gn_388, gn_389, gn_390, gn_391, gn_392, gn_393, gn_394, gn_395, gn_396, gn_397, gn_398, gn_399, gn_400, gn_401, gn_402, gn_403]
  rw [pl_i (by omega), r_within, pl_w (by omega)]
  simp only [pl_l, pl_b, pl_iT, pl_t, pl_f]
  rw [pl_i (by split <;> simp)]
  by_cases c : 0 ≤ p ∧ p < F 371 0
  · rw [if_pos c, if_pos (by omega)]
  · rw [if_neg c, if_neg (by omega)]
theorem r_isTwo {F : pd_F} (hL : pd_Ly F) {p o : Int} (h : 0 ≤ F 369 0 ∧ F 369 0 ≤ 12) : pfX12_isTwo pd_SH 5000 F 367 p o = some (if (0 ≤ p ∧ p < F 369 0) ∧ (0 ≤ o ∧ o < F 369 0) ∧ p ≠ o then 1 else 0, F) := by
  unfold pfX12_isTwo
  simp only [pl_l, pl_b, pl_iT, pl_t, pl_f, gx_367, gx_368, gx_369, gx_370, gx_371, gx_372, gx_373, gx_374, gx_375, gx_376, gx_377, gx_378, gx_379, gx_380, gx_381, gx_382, gx_383, gx_384, gx_385, gx_386, gx_387, gx_388, gx_389, gx_390, gx_391, gx_392, gx_393, gx_394, gx_395, gx_396, gx_397, gx_398, gx_399, gx_400, gx_401, gx_402, gx_403, gn_368, gn_369, gn_370, gn_371, gn_372, gn_373, gn_374, gn_375, gn_376, gn_377, gn_378, gn_379, gn_380, gn_381, gn_382, gn_383, gn_384, gn_385, gn_386, gn_387, gn_388, gn_389, gn_390, gn_391, gn_392, gn_393, gn_394, gn_395, gn_396, gn_397, gn_398, gn_399, gn_400, gn_401, gn_402, gn_403, r_isPerson hL h]
  by_cases a : 0 ≤ p ∧ p < F 369 0
  · by_cases b : 0 ≤ o ∧ o < F 369 0
    · by_cases c : p = o
      · simp [a, b, c]
      · simp [a, b, c]
    · simp [a, b]
  · simp [a]
theorem r_weights {F : pd_F} (hL : pd_Ly F) {l : Int} (hl : 0 ≤ l ∧ l < 30) (h0 : 0 ≤ F 381 l ∧ F 381 l ≤ 5) (hw : ∀ i, 0 ≤ i → i < F 381 l → 0 ≤ F 383 (5 * l + i) ∧ F 383 (5 * l + i) ≤ 99) :
    pfX12_weights pd_SH 5000 F 367 l = some (lW (F 383) l (F 381 l), F) := by
  unfold pfX12_weights
  refine pl_for (f := fun k (q : Int) i => pfX12_weights_b4 pd_SH 5000 k F 367 l q i) (P := fun i q => q = lW (F 383) l i ∧ 0 ≤ q ∧ q ≤ 99 * i) (N := F 381 l) (res := fun o => o = some (lW (F 383) l (F 381 l), F)) ?_ ?_ 5000 0 0 (by omega) h0.1 (by omega) ⟨rfl, by omega, by omega⟩
  · intro k q i a b ⟨e, c, d⟩
    have w := hw i a b
    refine Or.inl ⟨q + F 383 (5 * l + i), ⟨by rw [e]; unfold lW; rw [Sm_s a], by omega, by omega⟩, ?_⟩
    show pfX12_weights_b4 pd_SH 5000 (k + 1) F 367 l q i = _
    simp only [pfX12_weights_b4, pl_l, pl_b, pl_iT, pl_t, pl_f, lm_1 hL, lm_14 hL, lm_15 hL, lm_16 hL, lm_17 hL, lm_18 hL, lm_19 hL, lm_20 hL, lm_21 hL, lm_22 hL, lm_23 hL, lm_24 hL, lm_25 hL, lm_26 hL, lm_27 hL, lm_28 hL, lm_29 hL, lm_30 hL, lm_31 hL, lm_32 hL, lm_33 hL, lm_34 hL, lm_35 hL, lm_36 hL, lm_37 hL, lm_39 hL, lm_40 hL, lm_42 hL, lm_43 hL, lm_44 hL, lm_45 hL, lm_47 hL, lm_48 hL, lm_49 hL, lm_50 hL, lm_51 hL, gx_367, gx_368, gx_369, gx_370, gx_371, gx_372, gx_373, gx_374, gx_375, gx_376, gx_377, gx_378, gx_379, gx_380, gx_381, gx_382, gx_383, gx_384, gx_385, gx_386, gx_387, gx_388, gx_389, gx_390, gx_391, gx_392, gx_393, gx_394, gx_395, gx_396, gx_397, gx_398, gx_399, gx_400, gx_401, gx_402, gx_403, gn_368, gn_369, gn_370, gn_371, gn_372, gn_373, gn_374, gn_375, gn_376, gn_377, gn_378, gn_379, gn_380, gn_381, gn_382, gn_383, gn_384, gn_385, gn_386, gn_387, gn_388, gn_389, gn_390, gn_391, gn_392, gn_393, gn_394, gn_395, gn_396, gn_397, gn_398, gn_399, gn_400, gn_401, gn_402, gn_403]
    rw [pl_w (x := 5 * l) (by omega), pl_w (x := 5 * l + i) (by omega), pl_w (x := i + 1) (by omega), pl_w (x := q + F 383 (5 * l + i)) (by omega), pl_i (by omega), if_neg (by omega), pl_i (by omega)]
  · intro k q ⟨e, c, d⟩
    show pfX12_weights_b4 pd_SH 5000 (k + 1) F 367 l q _ = _
    simp only [pfX12_weights_b4, pl_l, pl_b, pl_iT, pl_t, pl_f, lm_1 hL, lm_14 hL, lm_15 hL, lm_16 hL, lm_17 hL, lm_18 hL, lm_19 hL, lm_20 hL, lm_21 hL, lm_22 hL, lm_23 hL, lm_24 hL, lm_25 hL, lm_26 hL, lm_27 hL, lm_28 hL, lm_29 hL, lm_30 hL, lm_31 hL, lm_32 hL, lm_33 hL, lm_34 hL, lm_35 hL, lm_36 hL, lm_37 hL, lm_39 hL, lm_40 hL, lm_42 hL, lm_43 hL, lm_44 hL, lm_45 hL, lm_47 hL, lm_48 hL, lm_49 hL, lm_50 hL, lm_51 hL, gx_367, gx_368, gx_369, gx_370, gx_371, gx_372, gx_373, gx_374, gx_375, gx_376, gx_377, gx_378, gx_379, gx_380, gx_381, gx_382, gx_383, gx_384, gx_385, gx_386, gx_387, gx_388, gx_389, gx_390, gx_391, gx_392, gx_393, gx_394, gx_395, gx_396, gx_397, gx_398, gx_399, gx_400, gx_401, gx_402, gx_403, gn_368, gn_369, gn_370, gn_371, gn_372, gn_373, gn_374, gn_375, gn_376, gn_377, gn_378, gn_379, gn_380, gn_381, gn_382, gn_383, gn_384, gn_385, gn_386, gn_387, gn_388, gn_389, gn_390, gn_391, gn_392, gn_393, gn_394, gn_395, gn_396, gn_397, gn_398, gn_399, gn_400, gn_401, gn_402, gn_403]
    rw [pl_i (by omega), if_pos (by omega), e]
theorem r_sharesNothing {F : pd_F} (hL : pd_Ly F) : ∃ F', pfX12_sharesNothing pd_SH 5000 F 367 = some F' ∧ pd_Ly F' ∧ (∀ b, b ≠ 397 → F' b = F b) ∧ ∀ p, 0 ≤ p → p < 12 → F' 397 p = 0 := by
  unfold pfX12_sharesNothing
  refine pl_for (f := fun k (q : pd_F) i => pfX12_sharesNothing_b2 pd_SH 5000 k q 367 i) (P := fun i q => pd_Ly q ∧ (∀ b, b ≠ 397 → q b = F b) ∧ ∀ p, 0 ≤ p → p < i → q 397 p = 0) (N := 12) (res := fun o => ∃ F', o = some F' ∧ pd_Ly F' ∧ (∀ b, b ≠ 397 → F' b = F b) ∧ ∀ p, 0 ≤ p → p < 12 → F' 397 p = 0) ?_ ?_ 5000 F 0 (by omega) (by omega) (by omega) ⟨hL, fun _ _ => rfl, fun p a b => by omega⟩
  · intro k q i a b ⟨h1, h2, h3⟩
    refine Or.inl ⟨pd_up q 397 i 0, ⟨h1.up (pl_rc0 sx_397 (by decide)), fun b hb => by rw [pu_a hb]; exact h2 b hb, fun p c d => ?_⟩, ?_⟩
    · rw [pu_r]
      split
      · rfl
      · exact h3 p c (by omega)
    · show pfX12_sharesNothing_b2 pd_SH 5000 (k + 1) q 367 i = _
      simp only [pfX12_sharesNothing_b2, pl_l, pl_b, pl_iT, pl_t, pl_f, lm_1 h1, lm_14 h1, lm_15 h1, lm_16 h1, lm_17 h1, lm_18 h1, lm_19 h1, lm_20 h1, lm_21 h1, lm_22 h1, lm_23 h1, lm_24 h1, lm_25 h1, lm_26 h1, lm_27 h1, lm_28 h1, lm_29 h1, lm_30 h1, lm_31 h1, lm_32 h1, lm_33 h1, lm_34 h1, lm_35 h1, lm_36 h1, lm_37 h1, lm_39 h1, lm_40 h1, lm_42 h1, lm_43 h1, lm_44 h1, lm_45 h1, lm_47 h1, lm_48 h1, lm_49 h1, lm_50 h1, lm_51 h1, gx_367, gx_368, gx_369, gx_370, gx_371, gx_372, gx_373, gx_374, gx_375, gx_376, gx_377, gx_378, gx_379, gx_380, gx_381, gx_382, gx_383, gx_384, gx_385, gx_386, gx_387, gx_388, gx_389, gx_390, gx_391, gx_392, gx_393, gx_394, gx_395, gx_396, gx_397, gx_398, gx_399, gx_400, gx_401, gx_402, gx_403, gn_368, gn_369, gn_370, gn_371, gn_372, gn_373, gn_374, gn_375, gn_376, gn_377, gn_378, gn_379, gn_380, gn_381, gn_382, gn_383, gn_384, gn_385, gn_386, gn_387, gn_388, gn_389, gn_390, gn_391, gn_392, gn_393, gn_394, gn_395, gn_396, gn_397, gn_398, gn_399, gn_400, gn_401, gn_402, gn_403]
      rw [if_neg (by omega), pl_i (by omega), pl_w (by omega)]
  · intro k q ⟨h1, h2, h3⟩
    exact ⟨q, rfl, h1, h2, h3⟩
theorem r_isOut {F : pd_F} (hL : pd_Ly F) {m : Int} (h : 0 ≤ F 393 110 ∧ F 393 110 ≤ 36) : pfX12_isOut pd_SH 5000 F 367 m = some (ci (∃ i, 0 ≤ i ∧ i < F 393 110 ∧ F 393 (74 + i) = m) 1 0, F) := by
  unfold pfX12_isOut
  refine pl_some (f := fun k i => pfX12_isOut_b2 pd_SH 5000 k F 367 m i) h.1 (fun k i a b c => ?_) (fun k i a b c => ?_) (fun k => ?_) 5000 (by omega)
  · show pfX12_isOut_b2 pd_SH 5000 (k + 1) F 367 m i = _
    simp only [pfX12_isOut_b2, pl_l, pl_b, pl_iT, pl_t, pl_f, lm_1 hL, lm_14 hL, lm_15 hL, lm_16 hL, lm_17 hL, lm_18 hL, lm_19 hL, lm_20 hL, lm_21 hL, lm_22 hL, lm_23 hL, lm_24 hL, lm_25 hL, lm_26 hL, lm_27 hL, lm_28 hL, lm_29 hL, lm_30 hL, lm_31 hL, lm_32 hL, lm_33 hL, lm_34 hL, lm_35 hL, lm_36 hL, lm_37 hL, lm_39 hL, lm_40 hL, lm_42 hL, lm_43 hL, lm_44 hL, lm_45 hL, lm_47 hL, lm_48 hL, lm_49 hL, lm_50 hL, lm_51 hL, gx_367, gx_368, gx_369, gx_370, gx_371, gx_372, gx_373, gx_374, gx_375, gx_376, gx_377, gx_378, gx_379, gx_380, gx_381, gx_382, gx_383, gx_384, gx_385, gx_386, gx_387, gx_388, gx_389, gx_390, gx_391, gx_392, gx_393, gx_394, gx_395, gx_396, gx_397, gx_398, gx_399, gx_400, gx_401, gx_402, gx_403, gn_368, gn_369, gn_370, gn_371, gn_372, gn_373, gn_374, gn_375, gn_376, gn_377, gn_378, gn_379, gn_380, gn_381, gn_382, gn_383, gn_384, gn_385, gn_386, gn_387, gn_388, gn_389, gn_390, gn_391, gn_392, gn_393, gn_394, gn_395, gn_396, gn_397, gn_398, gn_399, gn_400, gn_401, gn_402, gn_403]
    rw [pl_i (by omega), if_neg (by omega), pl_w (x := 74 + i) (by omega), pl_i (by omega), if_neg (by omega)]
  · show pfX12_isOut_b2 pd_SH 5000 (k + 1) F 367 m i = _
    simp only [pfX12_isOut_b2, pl_l, pl_b, pl_iT, pl_t, pl_f, lm_1 hL, lm_14 hL, lm_15 hL, lm_16 hL, lm_17 hL, lm_18 hL, lm_19 hL, lm_20 hL, lm_21 hL, lm_22 hL, lm_23 hL, lm_24 hL, lm_25 hL, lm_26 hL, lm_27 hL, lm_28 hL, lm_29 hL, lm_30 hL, lm_31 hL, lm_32 hL, lm_33 hL, lm_34 hL, lm_35 hL, lm_36 hL, lm_37 hL, lm_39 hL, lm_40 hL, lm_42 hL, lm_43 hL, lm_44 hL, lm_45 hL, lm_47 hL, lm_48 hL, lm_49 hL, lm_50 hL, lm_51 hL, gx_367, gx_368, gx_369, gx_370, gx_371, gx_372, gx_373, gx_374, gx_375, gx_376, gx_377, gx_378, gx_379, gx_380, gx_381, gx_382, gx_383, gx_384, gx_385, gx_386, gx_387, gx_388, gx_389, gx_390, gx_391, gx_392, gx_393, gx_394, gx_395, gx_396, gx_397, gx_398, gx_399, gx_400, gx_401, gx_402, gx_403, gn_368, gn_369, gn_370, gn_371, gn_372, gn_373, gn_374, gn_375, gn_376, gn_377, gn_378, gn_379, gn_380, gn_381, gn_382, gn_383, gn_384, gn_385, gn_386, gn_387, gn_388, gn_389, gn_390, gn_391, gn_392, gn_393, gn_394, gn_395, gn_396, gn_397, gn_398, gn_399, gn_400, gn_401, gn_402, gn_403]
    rw [pl_i (by omega), if_neg (by omega), pl_w (x := 74 + i) (by omega), pl_i (by omega), if_pos c, pl_w (by omega)]
  · show pfX12_isOut_b2 pd_SH 5000 (k + 1) F 367 m _ = _
    simp only [pfX12_isOut_b2, pl_l, pl_b, pl_iT, pl_t, pl_f, lm_1 hL, lm_14 hL, lm_15 hL, lm_16 hL, lm_17 hL, lm_18 hL, lm_19 hL, lm_20 hL, lm_21 hL, lm_22 hL, lm_23 hL, lm_24 hL, lm_25 hL, lm_26 hL, lm_27 hL, lm_28 hL, lm_29 hL, lm_30 hL, lm_31 hL, lm_32 hL, lm_33 hL, lm_34 hL, lm_35 hL, lm_36 hL, lm_37 hL, lm_39 hL, lm_40 hL, lm_42 hL, lm_43 hL, lm_44 hL, lm_45 hL, lm_47 hL, lm_48 hL, lm_49 hL, lm_50 hL, lm_51 hL, gx_367, gx_368, gx_369, gx_370, gx_371, gx_372, gx_373, gx_374, gx_375, gx_376, gx_377, gx_378, gx_379, gx_380, gx_381, gx_382, gx_383, gx_384, gx_385, gx_386, gx_387, gx_388, gx_389, gx_390, gx_391, gx_392, gx_393, gx_394, gx_395, gx_396, gx_397, gx_398, gx_399, gx_400, gx_401, gx_402, gx_403, gn_368, gn_369, gn_370, gn_371, gn_372, gn_373, gn_374, gn_375, gn_376, gn_377, gn_378, gn_379, gn_380, gn_381, gn_382, gn_383, gn_384, gn_385, gn_386, gn_387, gn_388, gn_389, gn_390, gn_391, gn_392, gn_393, gn_394, gn_395, gn_396, gn_397, gn_398, gn_399, gn_400, gn_401, gn_402, gn_403]
    rw [pl_i (by omega), if_pos (by omega)]
theorem r_hasMark {F : pd_F} (hL : pd_Ly F) {p m : Int} (hp : 0 ≤ p ∧ p < 24) (h : 0 ≤ F 375 p ∧ F 375 p ≤ 3) : pfX12_hasMark pd_SH 5000 F 367 p m = some (ci (∃ i, 0 ≤ i ∧ i < F 375 p ∧ F 376 (3 * p + i) = m) 1 0, F) := by
  unfold pfX12_hasMark
  refine pl_some (f := fun k i => pfX12_hasMark_b2 pd_SH 5000 k F 367 p m i) h.1 (fun k i a b c => ?_) (fun k i a b c => ?_) (fun k => ?_) 5000 (by omega)
  · show pfX12_hasMark_b2 pd_SH 5000 (k + 1) F 367 p m i = _
    simp only [pfX12_hasMark_b2, pl_l, pl_b, pl_iT, pl_t, pl_f, lm_1 hL, lm_14 hL, lm_15 hL, lm_16 hL, lm_17 hL, lm_18 hL, lm_19 hL, lm_20 hL, lm_21 hL, lm_22 hL, lm_23 hL, lm_24 hL, lm_25 hL, lm_26 hL, lm_27 hL, lm_28 hL, lm_29 hL, lm_30 hL, lm_31 hL, lm_32 hL, lm_33 hL, lm_34 hL, lm_35 hL, lm_36 hL, lm_37 hL, lm_39 hL, lm_40 hL, lm_42 hL, lm_43 hL, lm_44 hL, lm_45 hL, lm_47 hL, lm_48 hL, lm_49 hL, lm_50 hL, lm_51 hL, gx_367, gx_368, gx_369, gx_370, gx_371, gx_372, gx_373, gx_374, gx_375, gx_376, gx_377, gx_378, gx_379, gx_380, gx_381, gx_382, gx_383, gx_384, gx_385, gx_386, gx_387, gx_388, gx_389, gx_390, gx_391, gx_392, gx_393, gx_394, gx_395, gx_396, gx_397, gx_398, gx_399, gx_400, gx_401, gx_402, gx_403, gn_368, gn_369, gn_370, gn_371, gn_372, gn_373, gn_374, gn_375, gn_376, gn_377, gn_378, gn_379, gn_380, gn_381, gn_382, gn_383, gn_384, gn_385, gn_386, gn_387, gn_388, gn_389, gn_390, gn_391, gn_392, gn_393, gn_394, gn_395, gn_396, gn_397, gn_398, gn_399, gn_400, gn_401, gn_402, gn_403]
    rw [pl_i (by omega), if_neg (by omega), pl_w (x := 3 * p) (by omega), pl_w (x := 3 * p + i) (by omega), pl_i (by omega), if_neg (by omega)]
  · show pfX12_hasMark_b2 pd_SH 5000 (k + 1) F 367 p m i = _
    simp only [pfX12_hasMark_b2, pl_l, pl_b, pl_iT, pl_t, pl_f, lm_1 hL, lm_14 hL, lm_15 hL, lm_16 hL, lm_17 hL, lm_18 hL, lm_19 hL, lm_20 hL, lm_21 hL, lm_22 hL, lm_23 hL, lm_24 hL, lm_25 hL, lm_26 hL, lm_27 hL, lm_28 hL, lm_29 hL, lm_30 hL, lm_31 hL, lm_32 hL, lm_33 hL, lm_34 hL, lm_35 hL, lm_36 hL, lm_37 hL, lm_39 hL, lm_40 hL, lm_42 hL, lm_43 hL, lm_44 hL, lm_45 hL, lm_47 hL, lm_48 hL, lm_49 hL, lm_50 hL, lm_51 hL, gx_367, gx_368, gx_369, gx_370, gx_371, gx_372, gx_373, gx_374, gx_375, gx_376, gx_377, gx_378, gx_379, gx_380, gx_381, gx_382, gx_383, gx_384, gx_385, gx_386, gx_387, gx_388, gx_389, gx_390, gx_391, gx_392, gx_393, gx_394, gx_395, gx_396, gx_397, gx_398, gx_399, gx_400, gx_401, gx_402, gx_403, gn_368, gn_369, gn_370, gn_371, gn_372, gn_373, gn_374, gn_375, gn_376, gn_377, gn_378, gn_379, gn_380, gn_381, gn_382, gn_383, gn_384, gn_385, gn_386, gn_387, gn_388, gn_389, gn_390, gn_391, gn_392, gn_393, gn_394, gn_395, gn_396, gn_397, gn_398, gn_399, gn_400, gn_401, gn_402, gn_403]
    rw [pl_i (by omega), if_neg (by omega), pl_w (x := 3 * p) (by omega), pl_w (x := 3 * p + i) (by omega), pl_i (by omega), if_pos c, pl_w (by omega)]
  · show pfX12_hasMark_b2 pd_SH 5000 (k + 1) F 367 p m _ = _
    simp only [pfX12_hasMark_b2, pl_l, pl_b, pl_iT, pl_t, pl_f, lm_1 hL, lm_14 hL, lm_15 hL, lm_16 hL, lm_17 hL, lm_18 hL, lm_19 hL, lm_20 hL, lm_21 hL, lm_22 hL, lm_23 hL, lm_24 hL, lm_25 hL, lm_26 hL, lm_27 hL, lm_28 hL, lm_29 hL, lm_30 hL, lm_31 hL, lm_32 hL, lm_33 hL, lm_34 hL, lm_35 hL, lm_36 hL, lm_37 hL, lm_39 hL, lm_40 hL, lm_42 hL, lm_43 hL, lm_44 hL, lm_45 hL, lm_47 hL, lm_48 hL, lm_49 hL, lm_50 hL, lm_51 hL, gx_367, gx_368, gx_369, gx_370, gx_371, gx_372, gx_373, gx_374, gx_375, gx_376, gx_377, gx_378, gx_379, gx_380, gx_381, gx_382, gx_383, gx_384, gx_385, gx_386, gx_387, gx_388, gx_389, gx_390, gx_391, gx_392, gx_393, gx_394, gx_395, gx_396, gx_397, gx_398, gx_399, gx_400, gx_401, gx_402, gx_403, gn_368, gn_369, gn_370, gn_371, gn_372, gn_373, gn_374, gn_375, gn_376, gn_377, gn_378, gn_379, gn_380, gn_381, gn_382, gn_383, gn_384, gn_385, gn_386, gn_387, gn_388, gn_389, gn_390, gn_391, gn_392, gn_393, gn_394, gn_395, gn_396, gn_397, gn_398, gn_399, gn_400, gn_401, gn_402, gn_403]
    rw [pl_i (by omega), if_pos (by omega)]
/-- the mark m is left out, by the row s -/
def Ou (s : Int → Int) (m : Int) : Prop := ∃ i, 0 ≤ i ∧ i < s 110 ∧ s (74 + i) = m
def Hk (mm mk : Int → Int) (p m : Int) : Prop := ∃ i, 0 ≤ i ∧ i < mm p ∧ mk (3 * p + i) = m
def Hm (mm mk s : Int → Int) (p o : Int) : Prop := ∃ i, 0 ≤ i ∧ i < mm p ∧ Hk mm mk o (mk (3 * p + i)) ∧ ¬ Ou s (mk (3 * p + i))
def Jn (s : Int → Int) (p o : Int) : Prop := ∃ k, 0 ≤ k ∧ k < s 70 ∧ (s (10 + 2 * k) = p ∧ s (11 + 2 * k) = o ∨ s (10 + 2 * k) = o ∧ s (11 + 2 * k) = p)
/-- two persons have a mark alike that counts, or are joined -/
def Bs (mm mk s : Int → Int) (p o : Int) : Prop := p ≠ o ∧ (Hm mm mk s p o ∨ Jn s p o)
theorem Bs_sy {mm mk s : Int → Int} (x y : Int) (h : Bs mm mk s x y) : Bs mm mk s y x := by
  refine ⟨fun e => h.1 e.symm, ?_⟩
  rcases h.2 with ⟨i, a, b, ⟨j, c, d, e⟩, g⟩ | ⟨k, a, b, c⟩
  · exact Or.inl ⟨j, c, d, ⟨i, a, b, e.symm⟩, by rw [e]; exact g⟩
  · exact Or.inr ⟨k, a, b, c.symm⟩
/-- persons' marks and the row of acts lie in their bounds -/
def pOk (np : Int) (mm mk s : Int → Int) : Prop := (∀ p, 0 ≤ p → p < np → 0 ≤ mm p ∧ mm p ≤ 3) ∧ (0 ≤ s 70 ∧ s 70 ≤ 30) ∧ 0 ≤ s 110 ∧ s 110 ≤ 36
theorem r_haveMark {F : pd_F} (hL : pd_Ly F) {p o : Int} (hp : 0 ≤ p ∧ p < 12) (ho : 0 ≤ o ∧ o < 12) (h1 : 0 ≤ F 375 p ∧ F 375 p ≤ 3) (h2 : 0 ≤ F 375 o ∧ F 375 o ≤ 3) (hs : 0 ≤ F 393 110 ∧ F 393 110 ≤ 36) :
    pfX12_haveMark pd_SH 5000 F 367 p o = some (ci (Hm (F 375) (F 376) (F 393) p o) 1 0, F) := by
  unfold pfX12_haveMark
  refine pl_some (f := fun k i => pfX12_haveMark_b2 pd_SH 5000 k F 367 p o i) (Q := fun i => Hk (F 375) (F 376) o (F 376 (3 * p + i)) ∧ ¬ Ou (F 393) (F 376 (3 * p + i))) h1.1 (fun k i a b c => ?_) (fun k i a b c => ?_) (fun k => ?_) 5000 (by omega)
  · show pfX12_haveMark_b2 pd_SH 5000 (k + 1) F 367 p o i = _
    simp only [pfX12_haveMark_b2, pl_l, pl_b, pl_iT, pl_t, pl_f, lm_1 hL, lm_14 hL, lm_15 hL, lm_16 hL, lm_17 hL, lm_18 hL, lm_19 hL, lm_20 hL, lm_21 hL, lm_22 hL, lm_23 hL, lm_24 hL, lm_25 hL, lm_26 hL, lm_27 hL, lm_28 hL, lm_29 hL, lm_30 hL, lm_31 hL, lm_32 hL, lm_33 hL, lm_34 hL, lm_35 hL, lm_36 hL, lm_37 hL, lm_39 hL, lm_40 hL, lm_42 hL, lm_43 hL, lm_44 hL, lm_45 hL, lm_47 hL, lm_48 hL, lm_49 hL, lm_50 hL, lm_51 hL, gx_367, gx_368, gx_369, gx_370, gx_371, gx_372, gx_373, gx_374, gx_375, gx_376, gx_377, gx_378, gx_379, gx_380, gx_381, gx_382, gx_383, gx_384, gx_385, gx_386, gx_387, gx_388, gx_389, gx_390, gx_391, gx_392, gx_393, gx_394, gx_395, gx_396, gx_397, gx_398, gx_399, gx_400, gx_401, gx_402, gx_403, gn_368, gn_369, gn_370, gn_371, gn_372, gn_373, gn_374, gn_375, gn_376, gn_377, gn_378, gn_379, gn_380, gn_381, gn_382, gn_383, gn_384, gn_385, gn_386, gn_387, gn_388, gn_389, gn_390, gn_391, gn_392, gn_393, gn_394, gn_395, gn_396, gn_397, gn_398, gn_399, gn_400, gn_401, gn_402, gn_403]
    rw [pl_i (by omega), if_neg (by omega), pl_w (x := 3 * p) (by omega), pl_w (x := 3 * p + i) (by omega), pl_i (by omega), r_hasMark hL ⟨ho.1, by omega⟩ h2]
    simp only [pl_l, pl_b, pl_iT, pl_t, pl_f, lm_1 hL, lm_14 hL, lm_15 hL, lm_16 hL, lm_17 hL, lm_18 hL, lm_19 hL, lm_20 hL, lm_21 hL, lm_22 hL, lm_23 hL, lm_24 hL, lm_25 hL, lm_26 hL, lm_27 hL, lm_28 hL, lm_29 hL, lm_30 hL, lm_31 hL, lm_32 hL, lm_33 hL, lm_34 hL, lm_35 hL, lm_36 hL, lm_37 hL, lm_39 hL, lm_40 hL, lm_42 hL, lm_43 hL, lm_44 hL, lm_45 hL, lm_47 hL, lm_48 hL, lm_49 hL, lm_50 hL, lm_51 hL, gx_367, gx_368, gx_369, gx_370, gx_371, gx_372, gx_373, gx_374, gx_375, gx_376, gx_377, gx_378, gx_379, gx_380, gx_381, gx_382, gx_383, gx_384, gx_385, gx_386, gx_387, gx_388, gx_389, gx_390, gx_391, gx_392, gx_393, gx_394, gx_395, gx_396, gx_397, gx_398, gx_399, gx_400, gx_401, gx_402, gx_403, gn_368, gn_369, gn_370, gn_371, gn_372, gn_373, gn_374, gn_375, gn_376, gn_377, gn_378, gn_379, gn_380, gn_381, gn_382, gn_383, gn_384, gn_385, gn_386, gn_387, gn_388, gn_389, gn_390, gn_391, gn_392, gn_393, gn_394, gn_395, gn_396, gn_397, gn_398, gn_399, gn_400, gn_401, gn_402, gn_403]
    rw [ci_t (show ∃ j, _ from c.1), if_neg (by decide), pl_i (by omega), r_isOut hL hs]
    simp only [pl_l, pl_b, pl_iT, pl_t, pl_f]
    rw [ci_f (show ¬ ∃ j, _ from c.2), if_neg (by decide)]
  · show pfX12_haveMark_b2 pd_SH 5000 (k + 1) F 367 p o i = _
    simp only [pfX12_haveMark_b2, pfX12_haveMark_b49, pl_l, pl_b, pl_iT, pl_t, pl_f, lm_1 hL, lm_14 hL, lm_15 hL, lm_16 hL, lm_17 hL, lm_18 hL, lm_19 hL, lm_20 hL, lm_21 hL, lm_22 hL, lm_23 hL, lm_24 hL, lm_25 hL, lm_26 hL, lm_27 hL, lm_28 hL, lm_29 hL, lm_30 hL, lm_31 hL, lm_32 hL, lm_33 hL, lm_34 hL, lm_35 hL, lm_36 hL, lm_37 hL, lm_39 hL, lm_40 hL, lm_42 hL, lm_43 hL, lm_44 hL, lm_45 hL, lm_47 hL, lm_48 hL, lm_49 hL, lm_50 hL, lm_51 hL, gx_367, gx_368, gx_369, gx_370, gx_371, gx_372, gx_373, gx_374, gx_375, gx_376, gx_377, gx_378, gx_379, gx_380, gx_381, gx_382, gx_383, gx_384, gx_385, gx_386, gx_387, gx_388, gx_389, gx_390, gx_391, gx_392, gx_393, gx_394, gx_395, gx_396, gx_397, gx_398, gx_399, gx_400, gx_401, gx_402, gx_403, gn_368, gn_369, gn_370, gn_371, gn_372, gn_373, gn_374, gn_375, gn_376, gn_377, gn_378, gn_379, gn_380, gn_381, gn_382, gn_383, gn_384, gn_385, gn_386, gn_387, gn_388, gn_389, gn_390, gn_391, gn_392, gn_393, gn_394, gn_395, gn_396, gn_397, gn_398, gn_399, gn_400, gn_401, gn_402, gn_403]
    rw [pl_i (by omega), if_neg (by omega), pl_w (x := 3 * p) (by omega), pl_w (x := 3 * p + i) (by omega), pl_i (by omega), r_hasMark hL ⟨ho.1, by omega⟩ h2]
    simp only [pl_l, pl_b, pl_iT, pl_t, pl_f, lm_1 hL, lm_14 hL, lm_15 hL, lm_16 hL, lm_17 hL, lm_18 hL, lm_19 hL, lm_20 hL, lm_21 hL, lm_22 hL, lm_23 hL, lm_24 hL, lm_25 hL, lm_26 hL, lm_27 hL, lm_28 hL, lm_29 hL, lm_30 hL, lm_31 hL, lm_32 hL, lm_33 hL, lm_34 hL, lm_35 hL, lm_36 hL, lm_37 hL, lm_39 hL, lm_40 hL, lm_42 hL, lm_43 hL, lm_44 hL, lm_45 hL, lm_47 hL, lm_48 hL, lm_49 hL, lm_50 hL, lm_51 hL, gx_367, gx_368, gx_369, gx_370, gx_371, gx_372, gx_373, gx_374, gx_375, gx_376, gx_377, gx_378, gx_379, gx_380, gx_381, gx_382, gx_383, gx_384, gx_385, gx_386, gx_387, gx_388, gx_389, gx_390, gx_391, gx_392, gx_393, gx_394, gx_395, gx_396, gx_397, gx_398, gx_399, gx_400, gx_401, gx_402, gx_403, gn_368, gn_369, gn_370, gn_371, gn_372, gn_373, gn_374, gn_375, gn_376, gn_377, gn_378, gn_379, gn_380, gn_381, gn_382, gn_383, gn_384, gn_385, gn_386, gn_387, gn_388, gn_389, gn_390, gn_391, gn_392, gn_393, gn_394, gn_395, gn_396, gn_397, gn_398, gn_399, gn_400, gn_401, gn_402, gn_403]
    rcases Classical.em (Hk (F 375) (F 376) o (F 376 (3 * p + i))) with d | d
    · have d2 : Ou (F 393) (F 376 (3 * p + i)) := Classical.byContradiction fun e => c ⟨d, e⟩
      rw [ci_t (show ∃ j, _ from d), if_neg (by decide), pl_i (by omega), r_isOut hL hs]
      simp only [pl_l, pl_b, pl_iT, pl_t, pl_f]
      rw [ci_t (show ∃ j, _ from d2), if_pos (by decide), pl_w (by omega)]
    · rw [ci_f (show ¬ ∃ j, _ from d), if_pos rfl, pl_w (by omega)]
  · show pfX12_haveMark_b2 pd_SH 5000 (k + 1) F 367 p o _ = _
    simp only [pfX12_haveMark_b2, pl_l, pl_b, pl_iT, pl_t, pl_f, lm_1 hL, lm_14 hL, lm_15 hL, lm_16 hL, lm_17 hL, lm_18 hL, lm_19 hL, lm_20 hL, lm_21 hL, lm_22 hL, lm_23 hL, lm_24 hL, lm_25 hL, lm_26 hL, lm_27 hL, lm_28 hL, lm_29 hL, lm_30 hL, lm_31 hL, lm_32 hL, lm_33 hL, lm_34 hL, lm_35 hL, lm_36 hL, lm_37 hL, lm_39 hL, lm_40 hL, lm_42 hL, lm_43 hL, lm_44 hL, lm_45 hL, lm_47 hL, lm_48 hL, lm_49 hL, lm_50 hL, lm_51 hL, gx_367, gx_368, gx_369, gx_370, gx_371, gx_372, gx_373, gx_374, gx_375, gx_376, gx_377, gx_378, gx_379, gx_380, gx_381, gx_382, gx_383, gx_384, gx_385, gx_386, gx_387, gx_388, gx_389, gx_390, gx_391, gx_392, gx_393, gx_394, gx_395, gx_396, gx_397, gx_398, gx_399, gx_400, gx_401, gx_402, gx_403, gn_368, gn_369, gn_370, gn_371, gn_372, gn_373, gn_374, gn_375, gn_376, gn_377, gn_378, gn_379, gn_380, gn_381, gn_382, gn_383, gn_384, gn_385, gn_386, gn_387, gn_388, gn_389, gn_390, gn_391, gn_392, gn_393, gn_394, gn_395, gn_396, gn_397, gn_398, gn_399, gn_400, gn_401, gn_402, gn_403]
    rw [pl_i (by omega), if_pos (by omega)]
theorem r_areJoined {F : pd_F} (hL : pd_Ly F) {p o : Int} (hs : 0 ≤ F 393 70 ∧ F 393 70 ≤ 30) : pfX12_areJoined pd_SH 5000 F 367 p o = some (ci (Jn (F 393) p o) 1 0, F) := by
  unfold pfX12_areJoined
  have e1 : ∀ k : Int, 10 + 2 * k + 1 = 11 + 2 * k := fun k => by omega
  refine pl_some (f := fun k i => pfX12_areJoined_b2 pd_SH 5000 k F 367 p o i) (Q := fun k => F 393 (10 + 2 * k) = p ∧ F 393 (11 + 2 * k) = o ∨ F 393 (10 + 2 * k) = o ∧ F 393 (11 + 2 * k) = p) hs.1 (fun k i a b c => ?_) (fun k i a b c => ?_) (fun k => ?_) 5000 (by omega)
  · show pfX12_areJoined_b2 pd_SH 5000 (k + 1) F 367 p o i = _
    simp only [pfX12_areJoined_b2, pfX12_areJoined_b53, pfX12_areJoined_b67, pl_l, pl_b, pl_iT, pl_t, pl_f, lm_1 hL, lm_14 hL, lm_15 hL, lm_16 hL, lm_17 hL, lm_18 hL, lm_19 hL, lm_20 hL, lm_21 hL, lm_22 hL, lm_23 hL, lm_24 hL, lm_25 hL, lm_26 hL, lm_27 hL, lm_28 hL, lm_29 hL, lm_30 hL, lm_31 hL, lm_32 hL, lm_33 hL, lm_34 hL, lm_35 hL, lm_36 hL, lm_37 hL, lm_39 hL, lm_40 hL, lm_42 hL, lm_43 hL, lm_44 hL, lm_45 hL, lm_47 hL, lm_48 hL, lm_49 hL, lm_50 hL, lm_51 hL, gx_367, gx_368, gx_369, gx_370, gx_371, gx_372, gx_373, gx_374, gx_375, gx_376, gx_377, gx_378, gx_379, gx_380, gx_381, gx_382, gx_383, gx_384, gx_385, gx_386, gx_387, gx_388, gx_389, gx_390, gx_391, gx_392, gx_393, gx_394, gx_395, gx_396, gx_397, gx_398, gx_399, gx_400, gx_401, gx_402, gx_403, gn_368, gn_369, gn_370, gn_371, gn_372, gn_373, gn_374, gn_375, gn_376, gn_377, gn_378, gn_379, gn_380, gn_381, gn_382, gn_383, gn_384, gn_385, gn_386, gn_387, gn_388, gn_389, gn_390, gn_391, gn_392, gn_393, gn_394, gn_395, gn_396, gn_397, gn_398, gn_399, gn_400, gn_401, gn_402, gn_403]
    rw [pl_i (by omega), if_neg (by omega), pl_w (x := 2 * i) (by omega), pl_w (x := 10 + 2 * i) (by omega), pl_w (x := 10 + 2 * i + 1) (by omega), e1, pl_i (by omega), pl_i (by omega)]
    by_cases c1 : F 393 (10 + 2 * i) = p
    · rw [if_neg (by omega)]
      by_cases c2 : F 393 (11 + 2 * i) = o
      · rw [if_pos c2]
      · rw [if_neg c2, if_neg (by omega), if_neg (by omega)]
    · rw [if_pos c1, if_neg (by omega), if_neg (by omega)]
  · show pfX12_areJoined_b2 pd_SH 5000 (k + 1) F 367 p o i = _
    simp only [pfX12_areJoined_b2, pfX12_areJoined_b53, pfX12_areJoined_b67, pl_l, pl_b, pl_iT, pl_t, pl_f, lm_1 hL, lm_14 hL, lm_15 hL, lm_16 hL, lm_17 hL, lm_18 hL, lm_19 hL, lm_20 hL, lm_21 hL, lm_22 hL, lm_23 hL, lm_24 hL, lm_25 hL, lm_26 hL, lm_27 hL, lm_28 hL, lm_29 hL, lm_30 hL, lm_31 hL, lm_32 hL, lm_33 hL, lm_34 hL, lm_35 hL, lm_36 hL, lm_37 hL, lm_39 hL, lm_40 hL, lm_42 hL, lm_43 hL, lm_44 hL, lm_45 hL, lm_47 hL, lm_48 hL, lm_49 hL, lm_50 hL, lm_51 hL, gx_367, gx_368, gx_369, gx_370, gx_371, gx_372, gx_373, gx_374, gx_375, gx_376, gx_377, gx_378, gx_379, gx_380, gx_381, gx_382, gx_383, gx_384, gx_385, gx_386, gx_387, gx_388, gx_389, gx_390, gx_391, gx_392, gx_393, gx_394, gx_395, gx_396, gx_397, gx_398, gx_399, gx_400, gx_401, gx_402, gx_403, gn_368, gn_369, gn_370, gn_371, gn_372, gn_373, gn_374, gn_375, gn_376, gn_377, gn_378, gn_379, gn_380, gn_381, gn_382, gn_383, gn_384, gn_385, gn_386, gn_387, gn_388, gn_389, gn_390, gn_391, gn_392, gn_393, gn_394, gn_395, gn_396, gn_397, gn_398, gn_399, gn_400, gn_401, gn_402, gn_403]
    rw [pl_i (by omega), if_neg (by omega), pl_w (x := 2 * i) (by omega), pl_w (x := 10 + 2 * i) (by omega), pl_w (x := 10 + 2 * i + 1) (by omega), e1, pl_i (by omega), pl_i (by omega), pl_w (x := i + 1) (by omega)]
    by_cases c1 : F 393 (10 + 2 * i) = p
    · rw [if_neg (by omega), if_neg (by omega)]
      by_cases c3 : F 393 (10 + 2 * i) = o
      · rw [if_neg (by omega), if_pos (by omega)]
      · rw [if_pos c3]
    · rw [if_pos c1]
      by_cases c3 : F 393 (10 + 2 * i) = o
      · rw [if_neg (by omega), if_pos (by omega)]
      · rw [if_pos c3]
  · show pfX12_areJoined_b2 pd_SH 5000 (k + 1) F 367 p o _ = _
    simp only [pfX12_areJoined_b2, pl_l, pl_b, pl_iT, pl_t, pl_f, lm_1 hL, lm_14 hL, lm_15 hL, lm_16 hL, lm_17 hL, lm_18 hL, lm_19 hL, lm_20 hL, lm_21 hL, lm_22 hL, lm_23 hL, lm_24 hL, lm_25 hL, lm_26 hL, lm_27 hL, lm_28 hL, lm_29 hL, lm_30 hL, lm_31 hL, lm_32 hL, lm_33 hL, lm_34 hL, lm_35 hL, lm_36 hL, lm_37 hL, lm_39 hL, lm_40 hL, lm_42 hL, lm_43 hL, lm_44 hL, lm_45 hL, lm_47 hL, lm_48 hL, lm_49 hL, lm_50 hL, lm_51 hL, gx_367, gx_368, gx_369, gx_370, gx_371, gx_372, gx_373, gx_374, gx_375, gx_376, gx_377, gx_378, gx_379, gx_380, gx_381, gx_382, gx_383, gx_384, gx_385, gx_386, gx_387, gx_388, gx_389, gx_390, gx_391, gx_392, gx_393, gx_394, gx_395, gx_396, gx_397, gx_398, gx_399, gx_400, gx_401, gx_402, gx_403, gn_368, gn_369, gn_370, gn_371, gn_372, gn_373, gn_374, gn_375, gn_376, gn_377, gn_378, gn_379, gn_380, gn_381, gn_382, gn_383, gn_384, gn_385, gn_386, gn_387, gn_388, gn_389, gn_390, gn_391, gn_392, gn_393, gn_394, gn_395, gn_396, gn_397, gn_398, gn_399, gn_400, gn_401, gn_402, gn_403]
    rw [pl_i (by omega), if_pos (by omega)]
theorem r_areBeside {F : pd_F} (hL : pd_Ly F) {np p o : Int} (hn : np ≤ 12) (hk : pOk np (F 375) (F 376) (F 393)) (hp : 0 ≤ p ∧ p < np) (ho : 0 ≤ o ∧ o < np) :
    pfX12_areBeside pd_SH 5000 F 367 p o = some (ci (Bs (F 375) (F 376) (F 393) p o) 1 0, F) := by
  unfold pfX12_areBeside
  simp only [pl_l, pl_b, pl_iT, pl_t, pl_f, gx_367, gx_368, gx_369, gx_370, gx_371, gx_372, gx_373, gx_374, gx_375, gx_376, gx_377, gx_378, gx_379, gx_380, gx_381, gx_382, gx_383, gx_384, gx_385, gx_386, gx_387, gx_388, gx_389, gx_390, gx_391, gx_392, gx_393, gx_394, gx_395, gx_396, gx_397, gx_398, gx_399, gx_400, gx_401, gx_402, gx_403, gn_368, gn_369, gn_370, gn_371, gn_372, gn_373, gn_374, gn_375, gn_376, gn_377, gn_378, gn_379, gn_380, gn_381, gn_382, gn_383, gn_384, gn_385, gn_386, gn_387, gn_388, gn_389, gn_390, gn_391, gn_392, gn_393, gn_394, gn_395, gn_396, gn_397, gn_398, gn_399, gn_400, gn_401, gn_402, gn_403, r_haveMark hL (p := p) (o := o) (by omega) (by omega) (hk.1 p hp.1 hp.2) (hk.1 o ho.1 ho.2) hk.2.2, r_areJoined hL hk.2.1]
  by_cases c : p = o
  · rw [if_pos c, ci_f (fun h => h.1 c)]
  · rw [if_neg c]
    rcases ci_o (Hm (F 375) (F 376) (F 393) p o) (1 : Int) 0 with h | h
    · rw [h.2, if_pos (by decide), ci_t ⟨c, Or.inl h.1⟩]
    · rw [h.2, if_neg (by decide)]
      rcases ci_o (Jn (F 393) p o) (1 : Int) 0 with g | g
      · rw [g.2, if_neg (by decide), ci_t ⟨c, Or.inr g.1⟩]
      · rw [g.2, if_pos rfl, ci_f (fun e => e.2.elim h.1 g.1)]

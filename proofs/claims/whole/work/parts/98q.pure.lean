/-! the reference's copies -/
/-- n cells from n on are copied to the front -/
def cpR (F H : pd_F) (a n : Int) : Prop := ∀ j, H a j = if 0 ≤ j ∧ j < n then F a (n + j) else F a j
section CP
variable {F : pd_F}
theorem r_cp62 (hL : pd_Ly F) (hB : ∀ k, 12 ≤ k → k < 24 → F 377 k = 0 ∨ F 377 k = 1) : ∃ H, pfX12_copies_b62 pd_SH 5000 5000 F 367 0 = pfX12_copies_b119 pd_SH 5000 H 367 ∧ pd_Ly H ∧ (∀ a, a ≠ 374 → a ≠ 375 → a ≠ 377 → H a = F a) ∧ cpR F H 374 12 ∧ cpR F H 375 12 ∧ cpR F H 377 12 := by
  refine pl_for (f := fun j (q : pd_F) i => pfX12_copies_b62 pd_SH 5000 j q 367 i) (P := fun i q => pd_Ly q ∧ (∀ a, a ≠ 374 → a ≠ 375 → a ≠ 377 → q a = F a) ∧ (∀ j, q 374 j = if 0 ≤ j ∧ j < i then F 374 (12 + j) else F 374 j) ∧ (∀ j, q 375 j = if 0 ≤ j ∧ j < i then F 375 (12 + j) else F 375 j) ∧ (∀ j, q 377 j = if 0 ≤ j ∧ j < i then F 377 (12 + j) else F 377 j)) (N := 12)
    (res := fun o => ∃ H, o = pfX12_copies_b119 pd_SH 5000 H 367 ∧ pd_Ly H ∧ (∀ a, a ≠ 374 → a ≠ 375 → a ≠ 377 → H a = F a) ∧ cpR F H 374 12 ∧ cpR F H 375 12 ∧ cpR F H 377 12) ?_ ?_ 5000 F 0 (by omega) (by omega) (by omega)
    ⟨hL, fun a _ _ _ => rfl, fun j => by rw [if_neg (by omega)], fun j => by rw [if_neg (by omega)], fun j => by rw [if_neg (by omega)]⟩
  · intro k q i a0 b0 ⟨q1, q2, q3, q4, q5⟩
    have u0 : pd_Ly q := q1
    have v0 : q 374 (12 + i) = F 374 (12 + i) := by rw [q3, if_neg (by omega)]
    have v1 : q 375 (12 + i) = F 375 (12 + i) := by rw [q4, if_neg (by omega)]
    have v2 : q 377 (12 + i) = F 377 (12 + i) := by rw [q5, if_neg (by omega)]
    have u1 : pd_Ly (pd_up q 374 i (F 374 (12 + i))) := u0.up (rc_row (by decide))
    have w1 : (pd_up q 374 i (F 374 (12 + i))) 375 (12 + i) = F 375 (12 + i) := by rw [pu_a (by decide)]; exact v1
    have u2 : pd_Ly (pd_up (pd_up q 374 i (F 374 (12 + i))) 375 i (F 375 (12 + i))) := u1.up (rc_row (by decide))
    have w2 : (pd_up (pd_up q 374 i (F 374 (12 + i))) 375 i (F 375 (12 + i))) 377 (12 + i) = F 377 (12 + i) := by rw [pu_a (by decide), pu_a (by decide)]; exact v2
    have u3 : pd_Ly (pd_up (pd_up (pd_up q 374 i (F 374 (12 + i))) 375 i (F 375 (12 + i))) 377 i (F 377 (12 + i))) := u2.up (rc_row (by decide))
    refine Or.inl ⟨(pd_up (pd_up (pd_up q 374 i (F 374 (12 + i))) 375 i (F 375 (12 + i))) 377 i (F 377 (12 + i))), ⟨u3, fun a x0 x1 x2 => by rw [pu_a x2, pu_a x1, pu_a x0]; exact q2 a x0 x1 x2, fun j => ?_, fun j => ?_, fun j => ?_⟩, ?_⟩
    · rw [pu_a (by decide), pu_a (by decide), pu_r]
      by_cases e : j = i
      · rw [if_pos e, if_pos (by omega), e]
      · rw [if_neg e, q3 j]
        by_cases z : 0 ≤ j ∧ j < i
        · rw [if_pos z, if_pos (by omega)]
        · rw [if_neg z, if_neg (by omega)]
    · rw [pu_a (by decide), pu_r]
      by_cases e : j = i
      · rw [if_pos e, if_pos (by omega), e]
      · rw [if_neg e, pu_a (by decide), q4 j]
        by_cases z : 0 ≤ j ∧ j < i
        · rw [if_pos z, if_pos (by omega)]
        · rw [if_neg z, if_neg (by omega)]
    · rw [pu_r]
      by_cases e : j = i
      · rw [if_pos e, if_pos (by omega), e]
      · rw [if_neg e, pu_a (by decide), pu_a (by decide), q5 j]
        by_cases z : 0 ≤ j ∧ j < i
        · rw [if_pos z, if_pos (by omega)]
        · rw [if_neg z, if_neg (by omega)]
    · show pfX12_copies_b62 pd_SH 5000 (k + 1) q 367 i = _
      simp only [pfX12_copies_b62, pl_l, pl_b, pl_iT, pl_t, pl_f, gx_367, gx_368, gx_369, gx_370, gx_371, gx_372, gx_373, gx_374, gx_375, gx_376, gx_377, gx_378, gx_379, gx_380, gx_381, gx_382, gx_383, gx_384, gx_385, gx_386, gx_387, gx_388, gx_389, gx_390, gx_391, gx_392, gx_393, gx_394, gx_395, gx_396, gx_397, gx_398, gx_399, gx_400, gx_401, gx_402, gx_403, gn_368, gn_369, gn_370, gn_371, gn_372, gn_373, gn_374, gn_375, gn_376, gn_377, gn_378, gn_379, gn_380, gn_381, gn_382, gn_383, gn_384, gn_385, gn_386, gn_387, gn_388, gn_389, gn_390, gn_391, gn_392, gn_393, gn_394, gn_395, gn_396, gn_397, gn_398, gn_399, gn_400, gn_401, gn_402, gn_403, lm_1 q1, lm_14 q1, lm_15 q1, lm_16 q1, lm_17 q1, lm_18 q1, lm_19 q1, lm_20 q1, lm_21 q1, lm_22 q1, lm_23 q1, lm_24 q1, lm_25 q1, lm_26 q1, lm_27 q1, lm_28 q1, lm_29 q1, lm_30 q1, lm_31 q1, lm_32 q1, lm_33 q1, lm_34 q1, lm_35 q1, lm_36 q1, lm_37 q1, lm_39 q1, lm_40 q1, lm_42 q1, lm_43 q1, lm_44 q1, lm_45 q1, lm_47 q1, lm_48 q1, lm_49 q1, lm_50 q1, lm_51 q1]
      rw [if_neg (by omega), pl_w (x := 12 + i) (by omega), v0, pl_i (by omega), pl_i (by omega)]
      simp only [pl_l, pl_b, pl_iT, pl_t, pl_f, gx_367, gx_368, gx_369, gx_370, gx_371, gx_372, gx_373, gx_374, gx_375, gx_376, gx_377, gx_378, gx_379, gx_380, gx_381, gx_382, gx_383, gx_384, gx_385, gx_386, gx_387, gx_388, gx_389, gx_390, gx_391, gx_392, gx_393, gx_394, gx_395, gx_396, gx_397, gx_398, gx_399, gx_400, gx_401, gx_402, gx_403, gn_368, gn_369, gn_370, gn_371, gn_372, gn_373, gn_374, gn_375, gn_376, gn_377, gn_378, gn_379, gn_380, gn_381, gn_382, gn_383, gn_384, gn_385, gn_386, gn_387, gn_388, gn_389, gn_390, gn_391, gn_392, gn_393, gn_394, gn_395, gn_396, gn_397, gn_398, gn_399, gn_400, gn_401, gn_402, gn_403, lm_1 u1, lm_14 u1, lm_15 u1, lm_16 u1, lm_17 u1, lm_18 u1, lm_19 u1, lm_20 u1, lm_21 u1, lm_22 u1, lm_23 u1, lm_24 u1, lm_25 u1, lm_26 u1, lm_27 u1, lm_28 u1, lm_29 u1, lm_30 u1, lm_31 u1, lm_32 u1, lm_33 u1, lm_34 u1, lm_35 u1, lm_36 u1, lm_37 u1, lm_39 u1, lm_40 u1, lm_42 u1, lm_43 u1, lm_44 u1, lm_45 u1, lm_47 u1, lm_48 u1, lm_49 u1, lm_50 u1, lm_51 u1, w1]
      rw [pl_i (by omega), pl_i (by omega)]
      simp only [pl_l, pl_b, pl_iT, pl_t, pl_f, gx_367, gx_368, gx_369, gx_370, gx_371, gx_372, gx_373, gx_374, gx_375, gx_376, gx_377, gx_378, gx_379, gx_380, gx_381, gx_382, gx_383, gx_384, gx_385, gx_386, gx_387, gx_388, gx_389, gx_390, gx_391, gx_392, gx_393, gx_394, gx_395, gx_396, gx_397, gx_398, gx_399, gx_400, gx_401, gx_402, gx_403, gn_368, gn_369, gn_370, gn_371, gn_372, gn_373, gn_374, gn_375, gn_376, gn_377, gn_378, gn_379, gn_380, gn_381, gn_382, gn_383, gn_384, gn_385, gn_386, gn_387, gn_388, gn_389, gn_390, gn_391, gn_392, gn_393, gn_394, gn_395, gn_396, gn_397, gn_398, gn_399, gn_400, gn_401, gn_402, gn_403, lm_1 u2, lm_14 u2, lm_15 u2, lm_16 u2, lm_17 u2, lm_18 u2, lm_19 u2, lm_20 u2, lm_21 u2, lm_22 u2, lm_23 u2, lm_24 u2, lm_25 u2, lm_26 u2, lm_27 u2, lm_28 u2, lm_29 u2, lm_30 u2, lm_31 u2, lm_32 u2, lm_33 u2, lm_34 u2, lm_35 u2, lm_36 u2, lm_37 u2, lm_39 u2, lm_40 u2, lm_42 u2, lm_43 u2, lm_44 u2, lm_45 u2, lm_47 u2, lm_48 u2, lm_49 u2, lm_50 u2, lm_51 u2, w2]
      rw [pl_i (by omega), pl_i (by omega), pl_i (hB (12 + i) (by omega) (by omega))]
      try simp only [pl_l, pl_b, pl_iT, pl_t, pl_f]
      rw [pl_w (by omega)]
  · intro k q ⟨q1, q2, q3, q4, q5⟩
    refine ⟨q, ?_, q1, q2, q3, q4, q5⟩
    show pfX12_copies_b62 pd_SH 5000 (k + 1) q 367 _ = _
    simp only [pfX12_copies_b62]
    rw [if_pos (by decide)]
theorem r_cp121 (hL : pd_Ly F) : ∃ H, pfX12_copies_b121 pd_SH 5000 5000 F 367 0 = pfX12_copies_b148 pd_SH 5000 H 367 ∧ pd_Ly H ∧ (∀ a, a ≠ 376 → H a = F a) ∧ cpR F H 376 36 := by
  refine pl_for (f := fun j (q : pd_F) i => pfX12_copies_b121 pd_SH 5000 j q 367 i) (P := fun i q => pd_Ly q ∧ (∀ a, a ≠ 376 → q a = F a) ∧ (∀ j, q 376 j = if 0 ≤ j ∧ j < i then F 376 (36 + j) else F 376 j)) (N := 36)
    (res := fun o => ∃ H, o = pfX12_copies_b148 pd_SH 5000 H 367 ∧ pd_Ly H ∧ (∀ a, a ≠ 376 → H a = F a) ∧ cpR F H 376 36) ?_ ?_ 5000 F 0 (by omega) (by omega) (by omega)
    ⟨hL, fun a _ => rfl, fun j => by rw [if_neg (by omega)]⟩
  · intro k q i a0 b0 ⟨q1, q2, q3⟩
    have u0 : pd_Ly q := q1
    have v0 : q 376 (36 + i) = F 376 (36 + i) := by rw [q3, if_neg (by omega)]
    have u1 : pd_Ly (pd_up q 376 i (F 376 (36 + i))) := u0.up (rc_row (by decide))
    refine Or.inl ⟨(pd_up q 376 i (F 376 (36 + i))), ⟨u1, fun a x0 => by rw [pu_a x0]; exact q2 a x0, fun j => ?_⟩, ?_⟩
    · rw [pu_r]
      by_cases e : j = i
      · rw [if_pos e, if_pos (by omega), e]
      · rw [if_neg e, q3 j]
        by_cases z : 0 ≤ j ∧ j < i
        · rw [if_pos z, if_pos (by omega)]
        · rw [if_neg z, if_neg (by omega)]
    · show pfX12_copies_b121 pd_SH 5000 (k + 1) q 367 i = _
      simp only [pfX12_copies_b121, pl_l, pl_b, pl_iT, pl_t, pl_f, gx_367, gx_368, gx_369, gx_370, gx_371, gx_372, gx_373, gx_374, gx_375, gx_376, gx_377, gx_378, gx_379, gx_380, gx_381, gx_382, gx_383, gx_384, gx_385, gx_386, gx_387, gx_388, gx_389, gx_390, gx_391, gx_392, gx_393, gx_394, gx_395, gx_396, gx_397, gx_398, gx_399, gx_400, gx_401, gx_402, gx_403, gn_368, gn_369, gn_370, gn_371, gn_372, gn_373, gn_374, gn_375, gn_376, gn_377, gn_378, gn_379, gn_380, gn_381, gn_382, gn_383, gn_384, gn_385, gn_386, gn_387, gn_388, gn_389, gn_390, gn_391, gn_392, gn_393, gn_394, gn_395, gn_396, gn_397, gn_398, gn_399, gn_400, gn_401, gn_402, gn_403, lm_1 q1, lm_14 q1, lm_15 q1, lm_16 q1, lm_17 q1, lm_18 q1, lm_19 q1, lm_20 q1, lm_21 q1, lm_22 q1, lm_23 q1, lm_24 q1, lm_25 q1, lm_26 q1, lm_27 q1, lm_28 q1, lm_29 q1, lm_30 q1, lm_31 q1, lm_32 q1, lm_33 q1, lm_34 q1, lm_35 q1, lm_36 q1, lm_37 q1, lm_39 q1, lm_40 q1, lm_42 q1, lm_43 q1, lm_44 q1, lm_45 q1, lm_47 q1, lm_48 q1, lm_49 q1, lm_50 q1, lm_51 q1]
      rw [if_neg (by omega), pl_w (x := 36 + i) (by omega), v0, pl_i (by omega), pl_i (by omega)]
      try simp only [pl_l, pl_b, pl_iT, pl_t, pl_f]
      rw [pl_w (by omega)]
  · intro k q ⟨q1, q2, q3⟩
    refine ⟨q, ?_, q1, q2, q3⟩
    show pfX12_copies_b121 pd_SH 5000 (k + 1) q 367 _ = _
    simp only [pfX12_copies_b121]
    rw [if_pos (by decide)]
theorem r_cp150 (hL : pd_Ly F) : ∃ H, pfX12_copies_b150 pd_SH 5000 5000 F 367 0 = pfX12_copies_b177 pd_SH 5000 H 367 ∧ pd_Ly H ∧ (∀ a, a ≠ 381 → H a = F a) ∧ cpR F H 381 15 := by
  refine pl_for (f := fun j (q : pd_F) i => pfX12_copies_b150 pd_SH 5000 j q 367 i) (P := fun i q => pd_Ly q ∧ (∀ a, a ≠ 381 → q a = F a) ∧ (∀ j, q 381 j = if 0 ≤ j ∧ j < i then F 381 (15 + j) else F 381 j)) (N := 15)
    (res := fun o => ∃ H, o = pfX12_copies_b177 pd_SH 5000 H 367 ∧ pd_Ly H ∧ (∀ a, a ≠ 381 → H a = F a) ∧ cpR F H 381 15) ?_ ?_ 5000 F 0 (by omega) (by omega) (by omega)
    ⟨hL, fun a _ => rfl, fun j => by rw [if_neg (by omega)]⟩
  · intro k q i a0 b0 ⟨q1, q2, q3⟩
    have u0 : pd_Ly q := q1
    have v0 : q 381 (15 + i) = F 381 (15 + i) := by rw [q3, if_neg (by omega)]
    have u1 : pd_Ly (pd_up q 381 i (F 381 (15 + i))) := u0.up (rc_row (by decide))
    refine Or.inl ⟨(pd_up q 381 i (F 381 (15 + i))), ⟨u1, fun a x0 => by rw [pu_a x0]; exact q2 a x0, fun j => ?_⟩, ?_⟩
    · rw [pu_r]
      by_cases e : j = i
      · rw [if_pos e, if_pos (by omega), e]
      · rw [if_neg e, q3 j]
        by_cases z : 0 ≤ j ∧ j < i
        · rw [if_pos z, if_pos (by omega)]
        · rw [if_neg z, if_neg (by omega)]
    · show pfX12_copies_b150 pd_SH 5000 (k + 1) q 367 i = _
      simp only [pfX12_copies_b150, pl_l, pl_b, pl_iT, pl_t, pl_f, gx_367, gx_368, gx_369, gx_370, gx_371, gx_372, gx_373, gx_374, gx_375, gx_376, gx_377, gx_378, gx_379, gx_380, gx_381, gx_382, gx_383, gx_384, gx_385, gx_386, gx_387, gx_388, gx_389, gx_390, gx_391, gx_392, gx_393, gx_394, gx_395, gx_396, gx_397, gx_398, gx_399, gx_400, gx_401, gx_402, gx_403, gn_368, gn_369, gn_370, gn_371, gn_372, gn_373, gn_374, gn_375, gn_376, gn_377, gn_378, gn_379, gn_380, gn_381, gn_382, gn_383, gn_384, gn_385, gn_386, gn_387, gn_388, gn_389, gn_390, gn_391, gn_392, gn_393, gn_394, gn_395, gn_396, gn_397, gn_398, gn_399, gn_400, gn_401, gn_402, gn_403, lm_1 q1, lm_14 q1, lm_15 q1, lm_16 q1, lm_17 q1, lm_18 q1, lm_19 q1, lm_20 q1, lm_21 q1, lm_22 q1, lm_23 q1, lm_24 q1, lm_25 q1, lm_26 q1, lm_27 q1, lm_28 q1, lm_29 q1, lm_30 q1, lm_31 q1, lm_32 q1, lm_33 q1, lm_34 q1, lm_35 q1, lm_36 q1, lm_37 q1, lm_39 q1, lm_40 q1, lm_42 q1, lm_43 q1, lm_44 q1, lm_45 q1, lm_47 q1, lm_48 q1, lm_49 q1, lm_50 q1, lm_51 q1]
      rw [if_neg (by omega), pl_w (x := 15 + i) (by omega), v0, pl_i (by omega), pl_i (by omega)]
      try simp only [pl_l, pl_b, pl_iT, pl_t, pl_f]
      rw [pl_w (by omega)]
  · intro k q ⟨q1, q2, q3⟩
    refine ⟨q, ?_, q1, q2, q3⟩
    show pfX12_copies_b150 pd_SH 5000 (k + 1) q 367 _ = _
    simp only [pfX12_copies_b150]
    rw [if_pos (by decide)]
theorem r_cp179 (hL : pd_Ly F) : ∃ H, pfX12_copies_b179 pd_SH 5000 5000 F 367 0 = pfX12_copies_b221 pd_SH 5000 H 367 ∧ pd_Ly H ∧ (∀ a, a ≠ 382 → a ≠ 383 → H a = F a) ∧ cpR F H 382 75 ∧ cpR F H 383 75 := by
  refine pl_for (f := fun j (q : pd_F) i => pfX12_copies_b179 pd_SH 5000 j q 367 i) (P := fun i q => pd_Ly q ∧ (∀ a, a ≠ 382 → a ≠ 383 → q a = F a) ∧ (∀ j, q 382 j = if 0 ≤ j ∧ j < i then F 382 (75 + j) else F 382 j) ∧ (∀ j, q 383 j = if 0 ≤ j ∧ j < i then F 383 (75 + j) else F 383 j)) (N := 75)
    (res := fun o => ∃ H, o = pfX12_copies_b221 pd_SH 5000 H 367 ∧ pd_Ly H ∧ (∀ a, a ≠ 382 → a ≠ 383 → H a = F a) ∧ cpR F H 382 75 ∧ cpR F H 383 75) ?_ ?_ 5000 F 0 (by omega) (by omega) (by omega)
    ⟨hL, fun a _ _ => rfl, fun j => by rw [if_neg (by omega)], fun j => by rw [if_neg (by omega)]⟩
  · intro k q i a0 b0 ⟨q1, q2, q3, q4⟩
    have u0 : pd_Ly q := q1
    have v0 : q 382 (75 + i) = F 382 (75 + i) := by rw [q3, if_neg (by omega)]
    have v1 : q 383 (75 + i) = F 383 (75 + i) := by rw [q4, if_neg (by omega)]
    have u1 : pd_Ly (pd_up q 382 i (F 382 (75 + i))) := u0.up (rc_row (by decide))
    have w1 : (pd_up q 382 i (F 382 (75 + i))) 383 (75 + i) = F 383 (75 + i) := by rw [pu_a (by decide)]; exact v1
    have u2 : pd_Ly (pd_up (pd_up q 382 i (F 382 (75 + i))) 383 i (F 383 (75 + i))) := u1.up (rc_row (by decide))
    refine Or.inl ⟨(pd_up (pd_up q 382 i (F 382 (75 + i))) 383 i (F 383 (75 + i))), ⟨u2, fun a x0 x1 => by rw [pu_a x1, pu_a x0]; exact q2 a x0 x1, fun j => ?_, fun j => ?_⟩, ?_⟩
    · rw [pu_a (by decide), pu_r]
      by_cases e : j = i
      · rw [if_pos e, if_pos (by omega), e]
      · rw [if_neg e, q3 j]
        by_cases z : 0 ≤ j ∧ j < i
        · rw [if_pos z, if_pos (by omega)]
        · rw [if_neg z, if_neg (by omega)]
    · rw [pu_r]
      by_cases e : j = i
      · rw [if_pos e, if_pos (by omega), e]
      · rw [if_neg e, pu_a (by decide), q4 j]
        by_cases z : 0 ≤ j ∧ j < i
        · rw [if_pos z, if_pos (by omega)]
        · rw [if_neg z, if_neg (by omega)]
    · show pfX12_copies_b179 pd_SH 5000 (k + 1) q 367 i = _
      simp only [pfX12_copies_b179, pl_l, pl_b, pl_iT, pl_t, pl_f, gx_367, gx_368, gx_369, gx_370, gx_371, gx_372, gx_373, gx_374, gx_375, gx_376, gx_377, gx_378, gx_379, gx_380, gx_381, gx_382, gx_383, gx_384, gx_385, gx_386, gx_387, gx_388, gx_389, gx_390, gx_391, gx_392, gx_393, gx_394, gx_395, gx_396, gx_397, gx_398, gx_399, gx_400, gx_401, gx_402, gx_403, gn_368, gn_369, gn_370, gn_371, gn_372, gn_373, gn_374, gn_375, gn_376, gn_377, gn_378, gn_379, gn_380, gn_381, gn_382, gn_383, gn_384, gn_385, gn_386, gn_387, gn_388, gn_389, gn_390, gn_391, gn_392, gn_393, gn_394, gn_395, gn_396, gn_397, gn_398, gn_399, gn_400, gn_401, gn_402, gn_403, lm_1 q1, lm_14 q1, lm_15 q1, lm_16 q1, lm_17 q1, lm_18 q1, lm_19 q1, lm_20 q1, lm_21 q1, lm_22 q1, lm_23 q1, lm_24 q1, lm_25 q1, lm_26 q1, lm_27 q1, lm_28 q1, lm_29 q1, lm_30 q1, lm_31 q1, lm_32 q1, lm_33 q1, lm_34 q1, lm_35 q1, lm_36 q1, lm_37 q1, lm_39 q1, lm_40 q1, lm_42 q1, lm_43 q1, lm_44 q1, lm_45 q1, lm_47 q1, lm_48 q1, lm_49 q1, lm_50 q1, lm_51 q1]
      rw [if_neg (by omega), pl_w (x := 75 + i) (by omega), v0, pl_i (by omega), pl_i (by omega)]
      simp only [pl_l, pl_b, pl_iT, pl_t, pl_f, gx_367, gx_368, gx_369, gx_370, gx_371, gx_372, gx_373, gx_374, gx_375, gx_376, gx_377, gx_378, gx_379, gx_380, gx_381, gx_382, gx_383, gx_384, gx_385, gx_386, gx_387, gx_388, gx_389, gx_390, gx_391, gx_392, gx_393, gx_394, gx_395, gx_396, gx_397, gx_398, gx_399, gx_400, gx_401, gx_402, gx_403, gn_368, gn_369, gn_370, gn_371, gn_372, gn_373, gn_374, gn_375, gn_376, gn_377, gn_378, gn_379, gn_380, gn_381, gn_382, gn_383, gn_384, gn_385, gn_386, gn_387, gn_388, gn_389, gn_390, gn_391, gn_392, gn_393, gn_394, gn_395, gn_396, gn_397, gn_398, gn_399, gn_400, gn_401, gn_402, gn_403, lm_1 u1, lm_14 u1, lm_15 u1, lm_16 u1, lm_17 u1, lm_18 u1, lm_19 u1, lm_20 u1, lm_21 u1, lm_22 u1, lm_23 u1, lm_24 u1, lm_25 u1, lm_26 u1, lm_27 u1, lm_28 u1, lm_29 u1, lm_30 u1, lm_31 u1, lm_32 u1, lm_33 u1, lm_34 u1, lm_35 u1, lm_36 u1, lm_37 u1, lm_39 u1, lm_40 u1, lm_42 u1, lm_43 u1, lm_44 u1, lm_45 u1, lm_47 u1, lm_48 u1, lm_49 u1, lm_50 u1, lm_51 u1, w1]
      rw [pl_i (by omega), pl_i (by omega)]
      try simp only [pl_l, pl_b, pl_iT, pl_t, pl_f]
      rw [pl_w (by omega)]
  · intro k q ⟨q1, q2, q3, q4⟩
    refine ⟨q, ?_, q1, q2, q3, q4⟩
    show pfX12_copies_b179 pd_SH 5000 (k + 1) q 367 _ = _
    simp only [pfX12_copies_b179]
    rw [if_pos (by decide)]
theorem r_cp223 (hL : pd_Ly F) : ∃ H, pfX12_copies_b223 pd_SH 5000 5000 F 367 0 = pfX12_copies_b295 pd_SH 5000 H 367 ∧ pd_Ly H ∧ (∀ a, a ≠ 384 → a ≠ 385 → a ≠ 386 → a ≠ 387 → H a = F a) ∧ cpR F H 384 6 ∧ cpR F H 385 6 ∧ cpR F H 386 6 ∧ cpR F H 387 6 := by
  refine pl_for (f := fun j (q : pd_F) i => pfX12_copies_b223 pd_SH 5000 j q 367 i) (P := fun i q => pd_Ly q ∧ (∀ a, a ≠ 384 → a ≠ 385 → a ≠ 386 → a ≠ 387 → q a = F a) ∧ (∀ j, q 384 j = if 0 ≤ j ∧ j < i then F 384 (6 + j) else F 384 j) ∧ (∀ j, q 385 j = if 0 ≤ j ∧ j < i then F 385 (6 + j) else F 385 j) ∧ (∀ j, q 386 j = if 0 ≤ j ∧ j < i then F 386 (6 + j) else F 386 j) ∧ (∀ j, q 387 j = if 0 ≤ j ∧ j < i then F 387 (6 + j) else F 387 j)) (N := 6)
    (res := fun o => ∃ H, o = pfX12_copies_b295 pd_SH 5000 H 367 ∧ pd_Ly H ∧ (∀ a, a ≠ 384 → a ≠ 385 → a ≠ 386 → a ≠ 387 → H a = F a) ∧ cpR F H 384 6 ∧ cpR F H 385 6 ∧ cpR F H 386 6 ∧ cpR F H 387 6) ?_ ?_ 5000 F 0 (by omega) (by omega) (by omega)
    ⟨hL, fun a _ _ _ _ => rfl, fun j => by rw [if_neg (by omega)], fun j => by rw [if_neg (by omega)], fun j => by rw [if_neg (by omega)], fun j => by rw [if_neg (by omega)]⟩
  · intro k q i a0 b0 ⟨q1, q2, q3, q4, q5, q6⟩
    have u0 : pd_Ly q := q1
    have v0 : q 384 (6 + i) = F 384 (6 + i) := by rw [q3, if_neg (by omega)]
    have v1 : q 385 (6 + i) = F 385 (6 + i) := by rw [q4, if_neg (by omega)]
    have v2 : q 386 (6 + i) = F 386 (6 + i) := by rw [q5, if_neg (by omega)]
    have v3 : q 387 (6 + i) = F 387 (6 + i) := by rw [q6, if_neg (by omega)]
    have u1 : pd_Ly (pd_up q 384 i (F 384 (6 + i))) := u0.up (rc_row (by decide))
    have w1 : (pd_up q 384 i (F 384 (6 + i))) 385 (6 + i) = F 385 (6 + i) := by rw [pu_a (by decide)]; exact v1
    have u2 : pd_Ly (pd_up (pd_up q 384 i (F 384 (6 + i))) 385 i (F 385 (6 + i))) := u1.up (rc_row (by decide))
    have w2 : (pd_up (pd_up q 384 i (F 384 (6 + i))) 385 i (F 385 (6 + i))) 386 (6 + i) = F 386 (6 + i) := by rw [pu_a (by decide), pu_a (by decide)]; exact v2
    have u3 : pd_Ly (pd_up (pd_up (pd_up q 384 i (F 384 (6 + i))) 385 i (F 385 (6 + i))) 386 i (F 386 (6 + i))) := u2.up (rc_row (by decide))
    have w3 : (pd_up (pd_up (pd_up q 384 i (F 384 (6 + i))) 385 i (F 385 (6 + i))) 386 i (F 386 (6 + i))) 387 (6 + i) = F 387 (6 + i) := by rw [pu_a (by decide), pu_a (by decide), pu_a (by decide)]; exact v3
    have u4 : pd_Ly (pd_up (pd_up (pd_up (pd_up q 384 i (F 384 (6 + i))) 385 i (F 385 (6 + i))) 386 i (F 386 (6 + i))) 387 i (F 387 (6 + i))) := u3.up (rc_row (by decide))
    refine Or.inl ⟨(pd_up (pd_up (pd_up (pd_up q 384 i (F 384 (6 + i))) 385 i (F 385 (6 + i))) 386 i (F 386 (6 + i))) 387 i (F 387 (6 + i))), ⟨u4, fun a x0 x1 x2 x3 => by rw [pu_a x3, pu_a x2, pu_a x1, pu_a x0]; exact q2 a x0 x1 x2 x3, fun j => ?_, fun j => ?_, fun j => ?_, fun j => ?_⟩, ?_⟩
    · rw [pu_a (by decide), pu_a (by decide), pu_a (by decide), pu_r]
      by_cases e : j = i
      · rw [if_pos e, if_pos (by omega), e]
      · rw [if_neg e, q3 j]
        by_cases z : 0 ≤ j ∧ j < i
        · rw [if_pos z, if_pos (by omega)]
        · rw [if_neg z, if_neg (by omega)]
    · rw [pu_a (by decide), pu_a (by decide), pu_r]
      by_cases e : j = i
      · rw [if_pos e, if_pos (by omega), e]
      · rw [if_neg e, pu_a (by decide), q4 j]
        by_cases z : 0 ≤ j ∧ j < i
        · rw [if_pos z, if_pos (by omega)]
        · rw [if_neg z, if_neg (by omega)]
    · rw [pu_a (by decide), pu_r]
      by_cases e : j = i
      · rw [if_pos e, if_pos (by omega), e]
      · rw [if_neg e, pu_a (by decide), pu_a (by decide), q5 j]
        by_cases z : 0 ≤ j ∧ j < i
        · rw [if_pos z, if_pos (by omega)]
        · rw [if_neg z, if_neg (by omega)]
    · rw [pu_r]
      by_cases e : j = i
      · rw [if_pos e, if_pos (by omega), e]
      · rw [if_neg e, pu_a (by decide), pu_a (by decide), pu_a (by decide), q6 j]
        by_cases z : 0 ≤ j ∧ j < i
        · rw [if_pos z, if_pos (by omega)]
        · rw [if_neg z, if_neg (by omega)]
    · show pfX12_copies_b223 pd_SH 5000 (k + 1) q 367 i = _
      simp only [pfX12_copies_b223, pl_l, pl_b, pl_iT, pl_t, pl_f, gx_367, gx_368, gx_369, gx_370, gx_371, gx_372, gx_373, gx_374, gx_375, gx_376, gx_377, gx_378, gx_379, gx_380, gx_381, gx_382, gx_383, gx_384, gx_385, gx_386, gx_387, gx_388, gx_389, gx_390, gx_391, gx_392, gx_393, gx_394, gx_395, gx_396, gx_397, gx_398, gx_399, gx_400, gx_401, gx_402, gx_403, gn_368, gn_369, gn_370, gn_371, gn_372, gn_373, gn_374, gn_375, gn_376, gn_377, gn_378, gn_379, gn_380, gn_381, gn_382, gn_383, gn_384, gn_385, gn_386, gn_387, gn_388, gn_389, gn_390, gn_391, gn_392, gn_393, gn_394, gn_395, gn_396, gn_397, gn_398, gn_399, gn_400, gn_401, gn_402, gn_403, lm_1 q1, lm_14 q1, lm_15 q1, lm_16 q1, lm_17 q1, lm_18 q1, lm_19 q1, lm_20 q1, lm_21 q1, lm_22 q1, lm_23 q1, lm_24 q1, lm_25 q1, lm_26 q1, lm_27 q1, lm_28 q1, lm_29 q1, lm_30 q1, lm_31 q1, lm_32 q1, lm_33 q1, lm_34 q1, lm_35 q1, lm_36 q1, lm_37 q1, lm_39 q1, lm_40 q1, lm_42 q1, lm_43 q1, lm_44 q1, lm_45 q1, lm_47 q1, lm_48 q1, lm_49 q1, lm_50 q1, lm_51 q1]
      rw [if_neg (by omega), pl_w (x := 6 + i) (by omega), v0, pl_i (by omega), pl_i (by omega)]
      simp only [pl_l, pl_b, pl_iT, pl_t, pl_f, gx_367, gx_368, gx_369, gx_370, gx_371, gx_372, gx_373, gx_374, gx_375, gx_376, gx_377, gx_378, gx_379, gx_380, gx_381, gx_382, gx_383, gx_384, gx_385, gx_386, gx_387, gx_388, gx_389, gx_390, gx_391, gx_392, gx_393, gx_394, gx_395, gx_396, gx_397, gx_398, gx_399, gx_400, gx_401, gx_402, gx_403, gn_368, gn_369, gn_370, gn_371, gn_372, gn_373, gn_374, gn_375, gn_376, gn_377, gn_378, gn_379, gn_380, gn_381, gn_382, gn_383, gn_384, gn_385, gn_386, gn_387, gn_388, gn_389, gn_390, gn_391, gn_392, gn_393, gn_394, gn_395, gn_396, gn_397, gn_398, gn_399, gn_400, gn_401, gn_402, gn_403, lm_1 u1, lm_14 u1, lm_15 u1, lm_16 u1, lm_17 u1, lm_18 u1, lm_19 u1, lm_20 u1, lm_21 u1, lm_22 u1, lm_23 u1, lm_24 u1, lm_25 u1, lm_26 u1, lm_27 u1, lm_28 u1, lm_29 u1, lm_30 u1, lm_31 u1, lm_32 u1, lm_33 u1, lm_34 u1, lm_35 u1, lm_36 u1, lm_37 u1, lm_39 u1, lm_40 u1, lm_42 u1, lm_43 u1, lm_44 u1, lm_45 u1, lm_47 u1, lm_48 u1, lm_49 u1, lm_50 u1, lm_51 u1, w1]
      rw [pl_i (by omega), pl_i (by omega)]
      simp only [pl_l, pl_b, pl_iT, pl_t, pl_f, gx_367, gx_368, gx_369, gx_370, gx_371, gx_372, gx_373, gx_374, gx_375, gx_376, gx_377, gx_378, gx_379, gx_380, gx_381, gx_382, gx_383, gx_384, gx_385, gx_386, gx_387, gx_388, gx_389, gx_390, gx_391, gx_392, gx_393, gx_394, gx_395, gx_396, gx_397, gx_398, gx_399, gx_400, gx_401, gx_402, gx_403, gn_368, gn_369, gn_370, gn_371, gn_372, gn_373, gn_374, gn_375, gn_376, gn_377, gn_378, gn_379, gn_380, gn_381, gn_382, gn_383, gn_384, gn_385, gn_386, gn_387, gn_388, gn_389, gn_390, gn_391, gn_392, gn_393, gn_394, gn_395, gn_396, gn_397, gn_398, gn_399, gn_400, gn_401, gn_402, gn_403, lm_1 u2, lm_14 u2, lm_15 u2, lm_16 u2, lm_17 u2, lm_18 u2, lm_19 u2, lm_20 u2, lm_21 u2, lm_22 u2, lm_23 u2, lm_24 u2, lm_25 u2, lm_26 u2, lm_27 u2, lm_28 u2, lm_29 u2, lm_30 u2, lm_31 u2, lm_32 u2, lm_33 u2, lm_34 u2, lm_35 u2, lm_36 u2, lm_37 u2, lm_39 u2, lm_40 u2, lm_42 u2, lm_43 u2, lm_44 u2, lm_45 u2, lm_47 u2, lm_48 u2, lm_49 u2, lm_50 u2, lm_51 u2, w2]
      rw [pl_i (by omega), pl_i (by omega)]
      simp only [pl_l, pl_b, pl_iT, pl_t, pl_f, gx_367, gx_368, gx_369, gx_370, gx_371, gx_372, gx_373, gx_374, gx_375, gx_376, gx_377, gx_378, gx_379, gx_380, gx_381, gx_382, gx_383, gx_384, gx_385, gx_386, gx_387, gx_388, gx_389, gx_390, gx_391, gx_392, gx_393, gx_394, gx_395, gx_396, gx_397, gx_398, gx_399, gx_400, gx_401, gx_402, gx_403, gn_368, gn_369, gn_370, gn_371, gn_372, gn_373, gn_374, gn_375, gn_376, gn_377, gn_378, gn_379, gn_380, gn_381, gn_382, gn_383, gn_384, gn_385, gn_386, gn_387, gn_388, gn_389, gn_390, gn_391, gn_392, gn_393, gn_394, gn_395, gn_396, gn_397, gn_398, gn_399, gn_400, gn_401, gn_402, gn_403, lm_1 u3, lm_14 u3, lm_15 u3, lm_16 u3, lm_17 u3, lm_18 u3, lm_19 u3, lm_20 u3, lm_21 u3, lm_22 u3, lm_23 u3, lm_24 u3, lm_25 u3, lm_26 u3, lm_27 u3, lm_28 u3, lm_29 u3, lm_30 u3, lm_31 u3, lm_32 u3, lm_33 u3, lm_34 u3, lm_35 u3, lm_36 u3, lm_37 u3, lm_39 u3, lm_40 u3, lm_42 u3, lm_43 u3, lm_44 u3, lm_45 u3, lm_47 u3, lm_48 u3, lm_49 u3, lm_50 u3, lm_51 u3, w3]
      rw [pl_i (by omega), pl_i (by omega)]
      try simp only [pl_l, pl_b, pl_iT, pl_t, pl_f]
      rw [pl_w (by omega)]
  · intro k q ⟨q1, q2, q3, q4, q5, q6⟩
    refine ⟨q, ?_, q1, q2, q3, q4, q5, q6⟩
    show pfX12_copies_b223 pd_SH 5000 (k + 1) q 367 _ = _
    simp only [pfX12_copies_b223]
    rw [if_pos (by decide)]
theorem r_cp297 (hL : pd_Ly F) : ∃ H, pfX12_copies_b297 pd_SH 5000 5000 F 367 0 = pfX12_copies_b354 pd_SH 5000 H 367 ∧ pd_Ly H ∧ (∀ a, a ≠ 388 → a ≠ 389 → a ≠ 390 → H a = F a) ∧ cpR F H 388 8 ∧ cpR F H 389 8 ∧ cpR F H 390 8 := by
  refine pl_for (f := fun j (q : pd_F) i => pfX12_copies_b297 pd_SH 5000 j q 367 i) (P := fun i q => pd_Ly q ∧ (∀ a, a ≠ 388 → a ≠ 389 → a ≠ 390 → q a = F a) ∧ (∀ j, q 388 j = if 0 ≤ j ∧ j < i then F 388 (8 + j) else F 388 j) ∧ (∀ j, q 389 j = if 0 ≤ j ∧ j < i then F 389 (8 + j) else F 389 j) ∧ (∀ j, q 390 j = if 0 ≤ j ∧ j < i then F 390 (8 + j) else F 390 j)) (N := 8)
    (res := fun o => ∃ H, o = pfX12_copies_b354 pd_SH 5000 H 367 ∧ pd_Ly H ∧ (∀ a, a ≠ 388 → a ≠ 389 → a ≠ 390 → H a = F a) ∧ cpR F H 388 8 ∧ cpR F H 389 8 ∧ cpR F H 390 8) ?_ ?_ 5000 F 0 (by omega) (by omega) (by omega)
    ⟨hL, fun a _ _ _ => rfl, fun j => by rw [if_neg (by omega)], fun j => by rw [if_neg (by omega)], fun j => by rw [if_neg (by omega)]⟩
  · intro k q i a0 b0 ⟨q1, q2, q3, q4, q5⟩
    have u0 : pd_Ly q := q1
    have v0 : q 388 (8 + i) = F 388 (8 + i) := by rw [q3, if_neg (by omega)]
    have v1 : q 389 (8 + i) = F 389 (8 + i) := by rw [q4, if_neg (by omega)]
    have v2 : q 390 (8 + i) = F 390 (8 + i) := by rw [q5, if_neg (by omega)]
    have u1 : pd_Ly (pd_up q 388 i (F 388 (8 + i))) := u0.up (rc_row (by decide))
    have w1 : (pd_up q 388 i (F 388 (8 + i))) 389 (8 + i) = F 389 (8 + i) := by rw [pu_a (by decide)]; exact v1
    have u2 : pd_Ly (pd_up (pd_up q 388 i (F 388 (8 + i))) 389 i (F 389 (8 + i))) := u1.up (rc_row (by decide))
    have w2 : (pd_up (pd_up q 388 i (F 388 (8 + i))) 389 i (F 389 (8 + i))) 390 (8 + i) = F 390 (8 + i) := by rw [pu_a (by decide), pu_a (by decide)]; exact v2
    have u3 : pd_Ly (pd_up (pd_up (pd_up q 388 i (F 388 (8 + i))) 389 i (F 389 (8 + i))) 390 i (F 390 (8 + i))) := u2.up (rc_row (by decide))
    refine Or.inl ⟨(pd_up (pd_up (pd_up q 388 i (F 388 (8 + i))) 389 i (F 389 (8 + i))) 390 i (F 390 (8 + i))), ⟨u3, fun a x0 x1 x2 => by rw [pu_a x2, pu_a x1, pu_a x0]; exact q2 a x0 x1 x2, fun j => ?_, fun j => ?_, fun j => ?_⟩, ?_⟩
    · rw [pu_a (by decide), pu_a (by decide), pu_r]
      by_cases e : j = i
      · rw [if_pos e, if_pos (by omega), e]
      · rw [if_neg e, q3 j]
        by_cases z : 0 ≤ j ∧ j < i
        · rw [if_pos z, if_pos (by omega)]
        · rw [if_neg z, if_neg (by omega)]
    · rw [pu_a (by decide), pu_r]
      by_cases e : j = i
      · rw [if_pos e, if_pos (by omega), e]
      · rw [if_neg e, pu_a (by decide), q4 j]
        by_cases z : 0 ≤ j ∧ j < i
        · rw [if_pos z, if_pos (by omega)]
        · rw [if_neg z, if_neg (by omega)]
    · rw [pu_r]
      by_cases e : j = i
      · rw [if_pos e, if_pos (by omega), e]
      · rw [if_neg e, pu_a (by decide), pu_a (by decide), q5 j]
        by_cases z : 0 ≤ j ∧ j < i
        · rw [if_pos z, if_pos (by omega)]
        · rw [if_neg z, if_neg (by omega)]
    · show pfX12_copies_b297 pd_SH 5000 (k + 1) q 367 i = _
      simp only [pfX12_copies_b297, pl_l, pl_b, pl_iT, pl_t, pl_f, gx_367, gx_368, gx_369, gx_370, gx_371, gx_372, gx_373, gx_374, gx_375, gx_376, gx_377, gx_378, gx_379, gx_380, gx_381, gx_382, gx_383, gx_384, gx_385, gx_386, gx_387, gx_388, gx_389, gx_390, gx_391, gx_392, gx_393, gx_394, gx_395, gx_396, gx_397, gx_398, gx_399, gx_400, gx_401, gx_402, gx_403, gn_368, gn_369, gn_370, gn_371, gn_372, gn_373, gn_374, gn_375, gn_376, gn_377, gn_378, gn_379, gn_380, gn_381, gn_382, gn_383, gn_384, gn_385, gn_386, gn_387, gn_388, gn_389, gn_390, gn_391, gn_392, gn_393, gn_394, gn_395, gn_396, gn_397, gn_398, gn_399, gn_400, gn_401, gn_402, gn_403, lm_1 q1, lm_14 q1, lm_15 q1, lm_16 q1, lm_17 q1, lm_18 q1, lm_19 q1, lm_20 q1, lm_21 q1, lm_22 q1, lm_23 q1, lm_24 q1, lm_25 q1, lm_26 q1, lm_27 q1, lm_28 q1, lm_29 q1, lm_30 q1, lm_31 q1, lm_32 q1, lm_33 q1, lm_34 q1, lm_35 q1, lm_36 q1, lm_37 q1, lm_39 q1, lm_40 q1, lm_42 q1, lm_43 q1, lm_44 q1, lm_45 q1, lm_47 q1, lm_48 q1, lm_49 q1, lm_50 q1, lm_51 q1]
      rw [if_neg (by omega), pl_w (x := 8 + i) (by omega), v0, pl_i (by omega), pl_i (by omega)]
      simp only [pl_l, pl_b, pl_iT, pl_t, pl_f, gx_367, gx_368, gx_369, gx_370, gx_371, gx_372, gx_373, gx_374, gx_375, gx_376, gx_377, gx_378, gx_379, gx_380, gx_381, gx_382, gx_383, gx_384, gx_385, gx_386, gx_387, gx_388, gx_389, gx_390, gx_391, gx_392, gx_393, gx_394, gx_395, gx_396, gx_397, gx_398, gx_399, gx_400, gx_401, gx_402, gx_403, gn_368, gn_369, gn_370, gn_371, gn_372, gn_373, gn_374, gn_375, gn_376, gn_377, gn_378, gn_379, gn_380, gn_381, gn_382, gn_383, gn_384, gn_385, gn_386, gn_387, gn_388, gn_389, gn_390, gn_391, gn_392, gn_393, gn_394, gn_395, gn_396, gn_397, gn_398, gn_399, gn_400, gn_401, gn_402, gn_403, lm_1 u1, lm_14 u1, lm_15 u1, lm_16 u1, lm_17 u1, lm_18 u1, lm_19 u1, lm_20 u1, lm_21 u1, lm_22 u1, lm_23 u1, lm_24 u1, lm_25 u1, lm_26 u1, lm_27 u1, lm_28 u1, lm_29 u1, lm_30 u1, lm_31 u1, lm_32 u1, lm_33 u1, lm_34 u1, lm_35 u1, lm_36 u1, lm_37 u1, lm_39 u1, lm_40 u1, lm_42 u1, lm_43 u1, lm_44 u1, lm_45 u1, lm_47 u1, lm_48 u1, lm_49 u1, lm_50 u1, lm_51 u1, w1]
      rw [pl_i (by omega), pl_i (by omega)]
      simp only [pl_l, pl_b, pl_iT, pl_t, pl_f, gx_367, gx_368, gx_369, gx_370, gx_371, gx_372, gx_373, gx_374, gx_375, gx_376, gx_377, gx_378, gx_379, gx_380, gx_381, gx_382, gx_383, gx_384, gx_385, gx_386, gx_387, gx_388, gx_389, gx_390, gx_391, gx_392, gx_393, gx_394, gx_395, gx_396, gx_397, gx_398, gx_399, gx_400, gx_401, gx_402, gx_403, gn_368, gn_369, gn_370, gn_371, gn_372, gn_373, gn_374, gn_375, gn_376, gn_377, gn_378, gn_379, gn_380, gn_381, gn_382, gn_383, gn_384, gn_385, gn_386, gn_387, gn_388, gn_389, gn_390, gn_391, gn_392, gn_393, gn_394, gn_395, gn_396, gn_397, gn_398, gn_399, gn_400, gn_401, gn_402, gn_403, lm_1 u2, lm_14 u2, lm_15 u2, lm_16 u2, lm_17 u2, lm_18 u2, lm_19 u2, lm_20 u2, lm_21 u2, lm_22 u2, lm_23 u2, lm_24 u2, lm_25 u2, lm_26 u2, lm_27 u2, lm_28 u2, lm_29 u2, lm_30 u2, lm_31 u2, lm_32 u2, lm_33 u2, lm_34 u2, lm_35 u2, lm_36 u2, lm_37 u2, lm_39 u2, lm_40 u2, lm_42 u2, lm_43 u2, lm_44 u2, lm_45 u2, lm_47 u2, lm_48 u2, lm_49 u2, lm_50 u2, lm_51 u2, w2]
      rw [pl_i (by omega), pl_i (by omega)]
      try simp only [pl_l, pl_b, pl_iT, pl_t, pl_f]
      rw [pl_w (by omega)]
  · intro k q ⟨q1, q2, q3, q4, q5⟩
    refine ⟨q, ?_, q1, q2, q3, q4, q5⟩
    show pfX12_copies_b297 pd_SH 5000 (k + 1) q 367 _ = _
    simp only [pfX12_copies_b297]
    rw [if_pos (by decide)]
theorem r_cp356 (hL : pd_Ly F) : ∃ H, pfX12_copies_b356 pd_SH 5000 5000 F 367 0 = pfX12_copies_b375 pd_SH 5000 H 367 ∧ pd_Ly H ∧ (∀ a, a ≠ 393 → H a = F a) ∧ ∀ j, 0 ≤ j → j < 111 → H 393 j = 0 := by
  refine pl_for (f := fun j (q : pd_F) i => pfX12_copies_b356 pd_SH 5000 j q 367 i) (P := fun i q => pd_Ly q ∧ (∀ a, a ≠ 393 → q a = F a) ∧ ∀ j, 0 ≤ j → j < i → q 393 j = 0) (N := 111)
    (res := fun o => ∃ H, o = pfX12_copies_b375 pd_SH 5000 H 367 ∧ pd_Ly H ∧ (∀ a, a ≠ 393 → H a = F a) ∧ ∀ j, 0 ≤ j → j < 111 → H 393 j = 0) ?_ ?_ 5000 F 0 (by omega) (by omega) (by omega) ⟨hL, fun _ _ => rfl, fun j a b => by omega⟩
  · intro k q i a0 b0 ⟨q1, q2, q3⟩
    refine Or.inl ⟨pd_up q 393 i 0, ⟨q1.up (pl_rc0 sx_393 (by decide)), fun a x => by rw [pu_a x]; exact q2 a x, fun j x y => ?_⟩, ?_⟩
    · rw [pu_r]
      by_cases e : j = i
      · rw [if_pos e]
      · rw [if_neg e]; exact q3 j x (by omega)
    · show pfX12_copies_b356 pd_SH 5000 (k + 1) q 367 i = _
      simp only [pfX12_copies_b356, pl_l, pl_b, pl_iT, pl_t, pl_f, gx_367, gx_368, gx_369, gx_370, gx_371, gx_372, gx_373, gx_374, gx_375, gx_376, gx_377, gx_378, gx_379, gx_380, gx_381, gx_382, gx_383, gx_384, gx_385, gx_386, gx_387, gx_388, gx_389, gx_390, gx_391, gx_392, gx_393, gx_394, gx_395, gx_396, gx_397, gx_398, gx_399, gx_400, gx_401, gx_402, gx_403, gn_368, gn_369, gn_370, gn_371, gn_372, gn_373, gn_374, gn_375, gn_376, gn_377, gn_378, gn_379, gn_380, gn_381, gn_382, gn_383, gn_384, gn_385, gn_386, gn_387, gn_388, gn_389, gn_390, gn_391, gn_392, gn_393, gn_394, gn_395, gn_396, gn_397, gn_398, gn_399, gn_400, gn_401, gn_402, gn_403, lm_1 q1, lm_14 q1, lm_15 q1, lm_16 q1, lm_17 q1, lm_18 q1, lm_19 q1, lm_20 q1, lm_21 q1, lm_22 q1, lm_23 q1, lm_24 q1, lm_25 q1, lm_26 q1, lm_27 q1, lm_28 q1, lm_29 q1, lm_30 q1, lm_31 q1, lm_32 q1, lm_33 q1, lm_34 q1, lm_35 q1, lm_36 q1, lm_37 q1, lm_39 q1, lm_40 q1, lm_42 q1, lm_43 q1, lm_44 q1, lm_45 q1, lm_47 q1, lm_48 q1, lm_49 q1, lm_50 q1, lm_51 q1]
      rw [if_neg (by omega), pl_i (by omega), pl_w (by omega)]
  · intro k q ⟨q1, q2, q3⟩
    refine ⟨q, ?_, q1, q2, q3⟩
    show pfX12_copies_b356 pd_SH 5000 (k + 1) q 367 _ = _
    simp only [pfX12_copies_b356]
    rw [if_pos (by decide)]
theorem r_cp377 (hL : pd_Ly F) {na : Int} (h : F 371 0 = na) (hn : 0 ≤ na ∧ na ≤ 10) : ∃ H, pfX12_copies_b377 pd_SH 5000 5000 F 367 0 = pfX12_copies_b408 pd_SH 5000 H 367 ∧ pd_Ly H ∧ (∀ a, a ≠ 393 → H a = F a) ∧ ∀ j, H 393 j = if 0 ≤ j ∧ j < na then F 380 (10 + j) else F 393 j := by
  refine pl_for (f := fun j (q : pd_F) i => pfX12_copies_b377 pd_SH 5000 j q 367 i) (P := fun i q => pd_Ly q ∧ (∀ a, a ≠ 393 → q a = F a) ∧ ∀ j, q 393 j = if 0 ≤ j ∧ j < i then F 380 (10 + j) else F 393 j) (N := na)
    (res := fun o => ∃ H, o = pfX12_copies_b408 pd_SH 5000 H 367 ∧ pd_Ly H ∧ (∀ a, a ≠ 393 → H a = F a) ∧ ∀ j, H 393 j = if 0 ≤ j ∧ j < na then F 380 (10 + j) else F 393 j) ?_ ?_ 5000 F 0 (by omega) (by omega) (by omega) ⟨hL, fun _ _ => rfl, fun j => by rw [if_neg (by omega)]⟩
  · intro k q i a0 b0 ⟨q1, q2, q3⟩
    have e1 : q 371 0 = na := by rw [q2 371 (by decide)]; exact h
    have e2 : q 380 (10 + i) = F 380 (10 + i) := by rw [q2 380 (by decide)]
    refine Or.inl ⟨pd_up q 393 i (F 380 (10 + i)), ⟨q1.up (pl_rc0 sx_393 (by decide)), fun a x => by rw [pu_a x]; exact q2 a x, fun j => ?_⟩, ?_⟩
    · rw [pu_r]
      by_cases e : j = i
      · rw [if_pos e, if_pos (by omega), e]
      · rw [if_neg e, q3 j]
        by_cases z : 0 ≤ j ∧ j < i
        · rw [if_pos z, if_pos (by omega)]
        · rw [if_neg z, if_neg (by omega)]
    · show pfX12_copies_b377 pd_SH 5000 (k + 1) q 367 i = _
      simp only [pfX12_copies_b377, pl_l, pl_b, pl_iT, pl_t, pl_f, gx_367, gx_368, gx_369, gx_370, gx_371, gx_372, gx_373, gx_374, gx_375, gx_376, gx_377, gx_378, gx_379, gx_380, gx_381, gx_382, gx_383, gx_384, gx_385, gx_386, gx_387, gx_388, gx_389, gx_390, gx_391, gx_392, gx_393, gx_394, gx_395, gx_396, gx_397, gx_398, gx_399, gx_400, gx_401, gx_402, gx_403, gn_368, gn_369, gn_370, gn_371, gn_372, gn_373, gn_374, gn_375, gn_376, gn_377, gn_378, gn_379, gn_380, gn_381, gn_382, gn_383, gn_384, gn_385, gn_386, gn_387, gn_388, gn_389, gn_390, gn_391, gn_392, gn_393, gn_394, gn_395, gn_396, gn_397, gn_398, gn_399, gn_400, gn_401, gn_402, gn_403, lm_1 q1, lm_14 q1, lm_15 q1, lm_16 q1, lm_17 q1, lm_18 q1, lm_19 q1, lm_20 q1, lm_21 q1, lm_22 q1, lm_23 q1, lm_24 q1, lm_25 q1, lm_26 q1, lm_27 q1, lm_28 q1, lm_29 q1, lm_30 q1, lm_31 q1, lm_32 q1, lm_33 q1, lm_34 q1, lm_35 q1, lm_36 q1, lm_37 q1, lm_39 q1, lm_40 q1, lm_42 q1, lm_43 q1, lm_44 q1, lm_45 q1, lm_47 q1, lm_48 q1, lm_49 q1, lm_50 q1, lm_51 q1, e1]
      rw [pl_i (by decide), if_neg (by omega), pl_w (x := 10 + i) (by omega), pl_i (by omega), pl_i (by omega), e2, pl_w (by omega)]
  · intro k q ⟨q1, q2, q3⟩
    have e1 : q 371 0 = na := by rw [q2 371 (by decide)]; exact h
    refine ⟨q, ?_, q1, q2, q3⟩
    show pfX12_copies_b377 pd_SH 5000 (k + 1) q 367 _ = _
    simp only [pfX12_copies_b377, pl_l, pl_b, pl_iT, pl_t, pl_f, gx_367, gx_368, gx_369, gx_370, gx_371, gx_372, gx_373, gx_374, gx_375, gx_376, gx_377, gx_378, gx_379, gx_380, gx_381, gx_382, gx_383, gx_384, gx_385, gx_386, gx_387, gx_388, gx_389, gx_390, gx_391, gx_392, gx_393, gx_394, gx_395, gx_396, gx_397, gx_398, gx_399, gx_400, gx_401, gx_402, gx_403, gn_368, gn_369, gn_370, gn_371, gn_372, gn_373, gn_374, gn_375, gn_376, gn_377, gn_378, gn_379, gn_380, gn_381, gn_382, gn_383, gn_384, gn_385, gn_386, gn_387, gn_388, gn_389, gn_390, gn_391, gn_392, gn_393, gn_394, gn_395, gn_396, gn_397, gn_398, gn_399, gn_400, gn_401, gn_402, gn_403, lm_1 q1, lm_14 q1, lm_15 q1, lm_16 q1, lm_17 q1, lm_18 q1, lm_19 q1, lm_20 q1, lm_21 q1, lm_22 q1, lm_23 q1, lm_24 q1, lm_25 q1, lm_26 q1, lm_27 q1, lm_28 q1, lm_29 q1, lm_30 q1, lm_31 q1, lm_32 q1, lm_33 q1, lm_34 q1, lm_35 q1, lm_36 q1, lm_37 q1, lm_39 q1, lm_40 q1, lm_42 q1, lm_43 q1, lm_44 q1, lm_45 q1, lm_47 q1, lm_48 q1, lm_49 q1, lm_50 q1, lm_51 q1, e1]
    rw [pl_i (by decide), if_pos (by omega)]
theorem r_cp408 (hL : pd_Ly F) : ∃ H, pfX12_copies_b408 pd_SH 5000 F 367 = some H ∧ pd_Ly H ∧ (∀ a, a ≠ 393 → H a = F a) ∧ ∀ j, H 393 j = if j = 71 then sv F 0 else if j = 72 then sv F 1 else if j = 73 then sv F 2 else F 393 j := by
  have c460 : ∀ (q : pd_F), pd_Ly q → ∀ t, ∃ H, pfX12_copies_b460 pd_SH 5000 q 367 t 72 393 = some H ∧ pd_Ly H ∧ (∀ a, a ≠ 393 → H a = q a) ∧ ∀ j, H 393 j = if j = 72 then t else if j = 73 then sv q 2 else q 393 j := fun q hq t => by
    have g1 : pd_Ly (pd_up q 393 72 t) := hq.up (pl_rc0 sx_393 (by decide))
    have e1 : pd_up q 393 72 t 392 2 = q 392 2 := by rw [pu_a (by decide)]
    have e2 : pd_up q 393 72 t 391 2 = q 391 2 := by rw [pu_a (by decide)]
    have fin : ∀ v, v = sv q 2 → ∀ j, pd_up (pd_up q 393 72 t) 393 73 v 393 j = if j = 72 then t else if j = 73 then sv q 2 else q 393 j := fun v hv j => by
      rw [pu_r, pu_r, hv]
      by_cases x : j = 73
      · rw [if_pos x, if_neg (by omega), if_pos x]
      · rw [if_neg x]
        by_cases y : j = 72
        · rw [if_pos y, if_pos y]
        · rw [if_neg y, if_neg y, if_neg x]
    unfold pfX12_copies_b460
    simp only [pl_l, pl_b, pl_iT, pl_t, pl_f, gx_367, gx_368, gx_369, gx_370, gx_371, gx_372, gx_373, gx_374, gx_375, gx_376, gx_377, gx_378, gx_379, gx_380, gx_381, gx_382, gx_383, gx_384, gx_385, gx_386, gx_387, gx_388, gx_389, gx_390, gx_391, gx_392, gx_393, gx_394, gx_395, gx_396, gx_397, gx_398, gx_399, gx_400, gx_401, gx_402, gx_403, gn_368, gn_369, gn_370, gn_371, gn_372, gn_373, gn_374, gn_375, gn_376, gn_377, gn_378, gn_379, gn_380, gn_381, gn_382, gn_383, gn_384, gn_385, gn_386, gn_387, gn_388, gn_389, gn_390, gn_391, gn_392, gn_393, gn_394, gn_395, gn_396, gn_397, gn_398, gn_399, gn_400, gn_401, gn_402, gn_403, lm_1 g1, lm_14 g1, lm_15 g1, lm_16 g1, lm_17 g1, lm_18 g1, lm_19 g1, lm_20 g1, lm_21 g1, lm_22 g1, lm_23 g1, lm_24 g1, lm_25 g1, lm_26 g1, lm_27 g1, lm_28 g1, lm_29 g1, lm_30 g1, lm_31 g1, lm_32 g1, lm_33 g1, lm_34 g1, lm_35 g1, lm_36 g1, lm_37 g1, lm_39 g1, lm_40 g1, lm_42 g1, lm_43 g1, lm_44 g1, lm_45 g1, lm_47 g1, lm_48 g1, lm_49 g1, lm_50 g1, lm_51 g1, e1, e2]
    rw [pl_i (by decide), pl_i (by decide)]
    by_cases z : q 392 2 = 0
    · rw [if_pos z, pl_i (by decide)]
      exact ⟨_, rfl, g1.up (pl_rc0 sx_393 (by decide)), fun a x => by rw [pu_a x, pu_a x], fin _ (by unfold sv; rw [if_pos z]; rfl)⟩
    · rw [if_neg z, pl_i (by decide), pl_i (by decide)]
      exact ⟨_, rfl, g1.up (pl_rc0 sx_393 (by decide)), fun a x => by rw [pu_a x, pu_a x], fin _ (by unfold sv; rw [if_neg z])⟩
  have c433 : ∀ (q : pd_F), pd_Ly q → ∀ t, ∃ H, pfX12_copies_b433 pd_SH 5000 q 367 t 71 393 = some H ∧ pd_Ly H ∧ (∀ a, a ≠ 393 → H a = q a) ∧ ∀ j, H 393 j = if j = 71 then t else if j = 72 then sv q 1 else if j = 73 then sv q 2 else q 393 j := fun q hq t => by
    have g1 : pd_Ly (pd_up q 393 71 t) := hq.up (pl_rc0 sx_393 (by decide))
    have e1 : pd_up q 393 71 t 392 1 = q 392 1 := by rw [pu_a (by decide)]
    have e2 : pd_up q 393 71 t 391 1 = q 391 1 := by rw [pu_a (by decide)]
    have es : sv (pd_up q 393 71 t) 2 = sv q 2 := by unfold sv; rw [pu_a (by decide), pu_a (by decide)]
    have fin : ∀ v, v = sv q 1 → ∃ H, pfX12_copies_b460 pd_SH 5000 (pd_up q 393 71 t) 367 v 72 393 = some H ∧ pd_Ly H ∧ (∀ a, a ≠ 393 → H a = q a) ∧ ∀ j, H 393 j = if j = 71 then t else if j = 72 then sv q 1 else if j = 73 then sv q 2 else q 393 j := fun v hv => by
      obtain ⟨H, a1, a2, a3, a4⟩ := c460 _ g1 v
      refine ⟨H, a1, a2, fun a x => by rw [a3 a x, pu_a x], fun j => ?_⟩
      rw [a4, es, pu_r, hv]
      by_cases x : j = 71
      · rw [if_pos x, if_pos x, if_neg (by omega), if_neg (by omega)]
      · rw [if_neg x, if_neg x]
    unfold pfX12_copies_b433
    simp only [pl_l, pl_b, pl_iT, pl_t, pl_f, gx_367, gx_368, gx_369, gx_370, gx_371, gx_372, gx_373, gx_374, gx_375, gx_376, gx_377, gx_378, gx_379, gx_380, gx_381, gx_382, gx_383, gx_384, gx_385, gx_386, gx_387, gx_388, gx_389, gx_390, gx_391, gx_392, gx_393, gx_394, gx_395, gx_396, gx_397, gx_398, gx_399, gx_400, gx_401, gx_402, gx_403, gn_368, gn_369, gn_370, gn_371, gn_372, gn_373, gn_374, gn_375, gn_376, gn_377, gn_378, gn_379, gn_380, gn_381, gn_382, gn_383, gn_384, gn_385, gn_386, gn_387, gn_388, gn_389, gn_390, gn_391, gn_392, gn_393, gn_394, gn_395, gn_396, gn_397, gn_398, gn_399, gn_400, gn_401, gn_402, gn_403, lm_1 g1, lm_14 g1, lm_15 g1, lm_16 g1, lm_17 g1, lm_18 g1, lm_19 g1, lm_20 g1, lm_21 g1, lm_22 g1, lm_23 g1, lm_24 g1, lm_25 g1, lm_26 g1, lm_27 g1, lm_28 g1, lm_29 g1, lm_30 g1, lm_31 g1, lm_32 g1, lm_33 g1, lm_34 g1, lm_35 g1, lm_36 g1, lm_37 g1, lm_39 g1, lm_40 g1, lm_42 g1, lm_43 g1, lm_44 g1, lm_45 g1, lm_47 g1, lm_48 g1, lm_49 g1, lm_50 g1, lm_51 g1, e1, e2]
    rw [pl_i (by decide), pl_i (by decide)]
    by_cases z : q 392 1 = 0
    · rw [if_pos z]
      exact fin _ (by unfold sv; rw [if_pos z]; rfl)
    · rw [if_neg z, pl_i (by decide)]
      exact fin _ (by unfold sv; rw [if_neg z])
  unfold pfX12_copies_b408
  simp only [pl_l, pl_b, pl_iT, pl_t, pl_f, gx_367, gx_368, gx_369, gx_370, gx_371, gx_372, gx_373, gx_374, gx_375, gx_376, gx_377, gx_378, gx_379, gx_380, gx_381, gx_382, gx_383, gx_384, gx_385, gx_386, gx_387, gx_388, gx_389, gx_390, gx_391, gx_392, gx_393, gx_394, gx_395, gx_396, gx_397, gx_398, gx_399, gx_400, gx_401, gx_402, gx_403, gn_368, gn_369, gn_370, gn_371, gn_372, gn_373, gn_374, gn_375, gn_376, gn_377, gn_378, gn_379, gn_380, gn_381, gn_382, gn_383, gn_384, gn_385, gn_386, gn_387, gn_388, gn_389, gn_390, gn_391, gn_392, gn_393, gn_394, gn_395, gn_396, gn_397, gn_398, gn_399, gn_400, gn_401, gn_402, gn_403, lm_1 hL, lm_14 hL, lm_15 hL, lm_16 hL, lm_17 hL, lm_18 hL, lm_19 hL, lm_20 hL, lm_21 hL, lm_22 hL, lm_23 hL, lm_24 hL, lm_25 hL, lm_26 hL, lm_27 hL, lm_28 hL, lm_29 hL, lm_30 hL, lm_31 hL, lm_32 hL, lm_33 hL, lm_34 hL, lm_35 hL, lm_36 hL, lm_37 hL, lm_39 hL, lm_40 hL, lm_42 hL, lm_43 hL, lm_44 hL, lm_45 hL, lm_47 hL, lm_48 hL, lm_49 hL, lm_50 hL, lm_51 hL]
  rw [pl_i (by decide)]
  by_cases z : F 392 0 = 0
  · rw [if_pos z]
    have e : sv F 0 = 0 := by unfold sv; rw [if_pos z]; rfl
    rw [e]
    exact c433 F hL 0
  · rw [if_neg z, pl_i (by decide)]
    have e : sv F 0 = F 391 0 := by unfold sv; rw [if_neg z]
    rw [e]
    exact c433 F hL _
theorem r_copies (hL : pd_Ly F) (hB : ∀ k, 12 ≤ k → k < 24 → F 377 k = 0 ∨ F 377 k = 1) {na : Int} (h : F 371 1 = na) (hn : 0 ≤ na ∧ na ≤ 10) : ∃ H, pfX12_copies pd_SH 5000 F 367 = some H ∧ pd_Ly H ∧ (∀ a, (a < 369 ∨ a = 378 ∨ a = 379 ∨ a = 380 ∨ a = 391 ∨ a = 392 ∨ 393 < a) → H a = F a) ∧
    (H 369 0 = F 369 1 ∧ H 370 0 = F 370 1 ∧ H 371 0 = F 371 1 ∧ H 372 0 = F 372 1 ∧ H 373 0 = F 373 1) ∧ (cpR F H 374 12 ∧ cpR F H 375 12 ∧ cpR F H 377 12) ∧ cpR F H 376 36 ∧ cpR F H 381 15 ∧ (cpR F H 382 75 ∧ cpR F H 383 75) ∧ (cpR F H 384 6 ∧ cpR F H 385 6 ∧ cpR F H 386 6 ∧ cpR F H 387 6) ∧ (cpR F H 388 8 ∧ cpR F H 389 8 ∧ cpR F H 390 8) ∧
    ∀ j, 0 ≤ j → j < 111 → H 393 j = if j = 71 then sv F 0 else if j = 72 then sv F 1 else if j = 73 then sv F 2 else if j < na then F 380 (10 + j) else 0 := by
  have u1 : pd_Ly (pd_up F 369 0 (F 369 1)) := hL.up (rc_row (by decide))
  have u2 : pd_Ly (pd_up (pd_up F 369 0 (F 369 1)) 370 0 (F 370 1)) := u1.up (rc_row (by decide))
  have u3 : pd_Ly (pd_up (pd_up (pd_up F 369 0 (F 369 1)) 370 0 (F 370 1)) 371 0 (F 371 1)) := u2.up (rc_row (by decide))
  have u4 : pd_Ly (pd_up (pd_up (pd_up (pd_up F 369 0 (F 369 1)) 370 0 (F 370 1)) 371 0 (F 371 1)) 372 0 (F 372 1)) := u3.up (rc_row (by decide))
  obtain ⟨A, hA⟩ : ∃ A, pd_up (pd_up (pd_up (pd_up (pd_up F 369 0 (F 369 1)) 370 0 (F 370 1)) 371 0 (F 371 1)) 372 0 (F 372 1)) 373 0 (F 373 1) = A := ⟨_, rfl⟩
  have uA : pd_Ly A := by rw [← hA]; exact u4.up (rc_row (by decide))
  have e2 : pd_up F 369 0 (F 369 1) 370 1 = F 370 1 := by rw [pu_a (by decide)]
  have e3 : pd_up (pd_up F 369 0 (F 369 1)) 370 0 (F 370 1) 371 1 = F 371 1 := by rw [pu_a (by decide), pu_a (by decide)]
  have e4 : pd_up (pd_up (pd_up F 369 0 (F 369 1)) 370 0 (F 370 1)) 371 0 (F 371 1) 372 1 = F 372 1 := by rw [pu_a (by decide), pu_a (by decide), pu_a (by decide)]
  have e5 : pd_up (pd_up (pd_up (pd_up F 369 0 (F 369 1)) 370 0 (F 370 1)) 371 0 (F 371 1)) 372 0 (F 372 1) 373 1 = F 373 1 := by rw [pu_a (by decide), pu_a (by decide), pu_a (by decide), pu_a (by decide)]
  have Aa : ∀ a, (a < 369 ∨ 373 < a) → A a = F a := fun a x => by rw [← hA, pu_a (by omega), pu_a (by omega), pu_a (by omega), pu_a (by omega), pu_a (by omega)]
  have eA : pfX12_copies pd_SH 5000 F 367 = pfX12_copies_b62 pd_SH 5000 5000 A 367 0 := by
    unfold pfX12_copies
    simp only [pl_l, pl_b, pl_iT, pl_t, pl_f, gx_367, gx_368, gx_369, gx_370, gx_371, gx_372, gx_373, gx_374, gx_375, gx_376, gx_377, gx_378, gx_379, gx_380, gx_381, gx_382, gx_383, gx_384, gx_385, gx_386, gx_387, gx_388, gx_389, gx_390, gx_391, gx_392, gx_393, gx_394, gx_395, gx_396, gx_397, gx_398, gx_399, gx_400, gx_401, gx_402, gx_403, gn_368, gn_369, gn_370, gn_371, gn_372, gn_373, gn_374, gn_375, gn_376, gn_377, gn_378, gn_379, gn_380, gn_381, gn_382, gn_383, gn_384, gn_385, gn_386, gn_387, gn_388, gn_389, gn_390, gn_391, gn_392, gn_393, gn_394, gn_395, gn_396, gn_397, gn_398, gn_399, gn_400, gn_401, gn_402, gn_403, lm_1 hL, lm_14 hL, lm_15 hL, lm_16 hL, lm_17 hL, lm_18 hL, lm_19 hL, lm_20 hL, lm_21 hL, lm_22 hL, lm_23 hL, lm_24 hL, lm_25 hL, lm_26 hL, lm_27 hL, lm_28 hL, lm_29 hL, lm_30 hL, lm_31 hL, lm_32 hL, lm_33 hL, lm_34 hL, lm_35 hL, lm_36 hL, lm_37 hL, lm_39 hL, lm_40 hL, lm_42 hL, lm_43 hL, lm_44 hL, lm_45 hL, lm_47 hL, lm_48 hL, lm_49 hL, lm_50 hL, lm_51 hL]
    rw [pl_i (by decide), pl_i (by decide)]
    simp only [pl_l, pl_b, pl_iT, pl_t, pl_f, gx_367, gx_368, gx_369, gx_370, gx_371, gx_372, gx_373, gx_374, gx_375, gx_376, gx_377, gx_378, gx_379, gx_380, gx_381, gx_382, gx_383, gx_384, gx_385, gx_386, gx_387, gx_388, gx_389, gx_390, gx_391, gx_392, gx_393, gx_394, gx_395, gx_396, gx_397, gx_398, gx_399, gx_400, gx_401, gx_402, gx_403, gn_368, gn_369, gn_370, gn_371, gn_372, gn_373, gn_374, gn_375, gn_376, gn_377, gn_378, gn_379, gn_380, gn_381, gn_382, gn_383, gn_384, gn_385, gn_386, gn_387, gn_388, gn_389, gn_390, gn_391, gn_392, gn_393, gn_394, gn_395, gn_396, gn_397, gn_398, gn_399, gn_400, gn_401, gn_402, gn_403, lm_1 u1, lm_14 u1, lm_15 u1, lm_16 u1, lm_17 u1, lm_18 u1, lm_19 u1, lm_20 u1, lm_21 u1, lm_22 u1, lm_23 u1, lm_24 u1, lm_25 u1, lm_26 u1, lm_27 u1, lm_28 u1, lm_29 u1, lm_30 u1, lm_31 u1, lm_32 u1, lm_33 u1, lm_34 u1, lm_35 u1, lm_36 u1, lm_37 u1, lm_39 u1, lm_40 u1, lm_42 u1, lm_43 u1, lm_44 u1, lm_45 u1, lm_47 u1, lm_48 u1, lm_49 u1, lm_50 u1, lm_51 u1, e2]
    rw [pl_i (by decide), pl_i (by decide)]
    simp only [pl_l, pl_b, pl_iT, pl_t, pl_f, gx_367, gx_368, gx_369, gx_370, gx_371, gx_372, gx_373, gx_374, gx_375, gx_376, gx_377, gx_378, gx_379, gx_380, gx_381, gx_382, gx_383, gx_384, gx_385, gx_386, gx_387, gx_388, gx_389, gx_390, gx_391, gx_392, gx_393, gx_394, gx_395, gx_396, gx_397, gx_398, gx_399, gx_400, gx_401, gx_402, gx_403, gn_368, gn_369, gn_370, gn_371, gn_372, gn_373, gn_374, gn_375, gn_376, gn_377, gn_378, gn_379, gn_380, gn_381, gn_382, gn_383, gn_384, gn_385, gn_386, gn_387, gn_388, gn_389, gn_390, gn_391, gn_392, gn_393, gn_394, gn_395, gn_396, gn_397, gn_398, gn_399, gn_400, gn_401, gn_402, gn_403, lm_1 u2, lm_14 u2, lm_15 u2, lm_16 u2, lm_17 u2, lm_18 u2, lm_19 u2, lm_20 u2, lm_21 u2, lm_22 u2, lm_23 u2, lm_24 u2, lm_25 u2, lm_26 u2, lm_27 u2, lm_28 u2, lm_29 u2, lm_30 u2, lm_31 u2, lm_32 u2, lm_33 u2, lm_34 u2, lm_35 u2, lm_36 u2, lm_37 u2, lm_39 u2, lm_40 u2, lm_42 u2, lm_43 u2, lm_44 u2, lm_45 u2, lm_47 u2, lm_48 u2, lm_49 u2, lm_50 u2, lm_51 u2, e3]
    rw [pl_i (by decide), pl_i (by decide)]
    simp only [pl_l, pl_b, pl_iT, pl_t, pl_f, gx_367, gx_368, gx_369, gx_370, gx_371, gx_372, gx_373, gx_374, gx_375, gx_376, gx_377, gx_378, gx_379, gx_380, gx_381, gx_382, gx_383, gx_384, gx_385, gx_386, gx_387, gx_388, gx_389, gx_390, gx_391, gx_392, gx_393, gx_394, gx_395, gx_396, gx_397, gx_398, gx_399, gx_400, gx_401, gx_402, gx_403, gn_368, gn_369, gn_370, gn_371, gn_372, gn_373, gn_374, gn_375, gn_376, gn_377, gn_378, gn_379, gn_380, gn_381, gn_382, gn_383, gn_384, gn_385, gn_386, gn_387, gn_388, gn_389, gn_390, gn_391, gn_392, gn_393, gn_394, gn_395, gn_396, gn_397, gn_398, gn_399, gn_400, gn_401, gn_402, gn_403, lm_1 u3, lm_14 u3, lm_15 u3, lm_16 u3, lm_17 u3, lm_18 u3, lm_19 u3, lm_20 u3, lm_21 u3, lm_22 u3, lm_23 u3, lm_24 u3, lm_25 u3, lm_26 u3, lm_27 u3, lm_28 u3, lm_29 u3, lm_30 u3, lm_31 u3, lm_32 u3, lm_33 u3, lm_34 u3, lm_35 u3, lm_36 u3, lm_37 u3, lm_39 u3, lm_40 u3, lm_42 u3, lm_43 u3, lm_44 u3, lm_45 u3, lm_47 u3, lm_48 u3, lm_49 u3, lm_50 u3, lm_51 u3, e4]
    rw [pl_i (by decide), pl_i (by decide)]
    simp only [pl_l, pl_b, pl_iT, pl_t, pl_f, gx_367, gx_368, gx_369, gx_370, gx_371, gx_372, gx_373, gx_374, gx_375, gx_376, gx_377, gx_378, gx_379, gx_380, gx_381, gx_382, gx_383, gx_384, gx_385, gx_386, gx_387, gx_388, gx_389, gx_390, gx_391, gx_392, gx_393, gx_394, gx_395, gx_396, gx_397, gx_398, gx_399, gx_400, gx_401, gx_402, gx_403, gn_368, gn_369, gn_370, gn_371, gn_372, gn_373, gn_374, gn_375, gn_376, gn_377, gn_378, gn_379, gn_380, gn_381, gn_382, gn_383, gn_384, gn_385, gn_386, gn_387, gn_388, gn_389, gn_390, gn_391, gn_392, gn_393, gn_394, gn_395, gn_396, gn_397, gn_398, gn_399, gn_400, gn_401, gn_402, gn_403, lm_1 u4, lm_14 u4, lm_15 u4, lm_16 u4, lm_17 u4, lm_18 u4, lm_19 u4, lm_20 u4, lm_21 u4, lm_22 u4, lm_23 u4, lm_24 u4, lm_25 u4, lm_26 u4, lm_27 u4, lm_28 u4, lm_29 u4, lm_30 u4, lm_31 u4, lm_32 u4, lm_33 u4, lm_34 u4, lm_35 u4, lm_36 u4, lm_37 u4, lm_39 u4, lm_40 u4, lm_42 u4, lm_43 u4, lm_44 u4, lm_45 u4, lm_47 u4, lm_48 u4, lm_49 u4, lm_50 u4, lm_51 u4, e5]
    rw [pl_i (by decide), pl_i (by decide), hA]
  obtain ⟨B, b1, b2, b3, b4, b5, b6⟩ := r_cp62 uA (fun k x y => by rw [Aa 377 (by decide)]; exact hB k x y)
  obtain ⟨C, c1, c2, c3, c4⟩ := r_cp121 b2
  obtain ⟨D, d1, d2, d3, d4⟩ := r_cp150 c2
  obtain ⟨E, f1, f2, f3, f4, f5⟩ := r_cp179 d2
  obtain ⟨P, g1, g2, g3, g4, g5, g6, g7⟩ := r_cp223 f2
  obtain ⟨Q, h1, h2, h3, h4, h5, h6⟩ := r_cp297 g2
  obtain ⟨R, i1, i2, i3, i4⟩ := r_cp356 h2
  have R371 : R 371 0 = na := by rw [i3 371 (by decide), h3 371 (by decide) (by decide) (by decide), g3 371 (by decide) (by decide) (by decide) (by decide), f3 371 (by decide) (by decide), d3 371 (by decide), c3 371 (by decide), b3 371 (by decide) (by decide) (by decide), ← hA, pu_a (by decide), pu_a (by decide), pu_r, if_pos rfl]; exact h
  obtain ⟨S, j1, j2, j3, j4⟩ := r_cp377 i2 R371 hn
  obtain ⟨H, k1, k2, k3, k4⟩ := r_cp408 j2
  have back : ∀ a, a ≠ 393 → a ≠ 388 → a ≠ 389 → a ≠ 390 → a ≠ 384 → a ≠ 385 → a ≠ 386 → a ≠ 387 → a ≠ 382 → a ≠ 383 → a ≠ 381 → a ≠ 376 → a ≠ 374 → a ≠ 375 → a ≠ 377 → H a = A a := fun a x1 x2 x3 x4 x5 x6 x7 x8 x9 x10 x11 x12 x13 x14 x15 => by
    rw [k3 a x1, j3 a x1, i3 a x1, h3 a x2 x3 x4, g3 a x5 x6 x7 x8, f3 a x9 x10, d3 a x11, c3 a x12, b3 a x13 x14 x15]
  have b99 : ∀ a, a ≠ 393 → H a = Q a := fun a x => by rw [k3 a x, j3 a x, i3 a x]
  refine ⟨H, ?_, k2, fun a x => ?_, ?_, ?_, ?_, ?_, ?_, ?_, ?_, fun j x y => ?_⟩
  · rw [eA, b1]
    unfold pfX12_copies_b119
    rw [c1]
    unfold pfX12_copies_b148
    rw [d1]
    unfold pfX12_copies_b177
    rw [f1]
    unfold pfX12_copies_b221
    rw [g1]
    unfold pfX12_copies_b295
    rw [h1]
    unfold pfX12_copies_b354
    rw [i1]
    unfold pfX12_copies_b375
    rw [j1, k1]
  · rw [back a (by omega) (by omega) (by omega) (by omega) (by omega) (by omega) (by omega) (by omega) (by omega) (by omega) (by omega) (by omega) (by omega) (by omega) (by omega)]
    exact Aa a (by omega)
  · rw [back 369 (by decide) (by decide) (by decide) (by decide) (by decide) (by decide) (by decide) (by decide) (by decide) (by decide) (by decide) (by decide) (by decide) (by decide) (by decide), back 370 (by decide) (by decide) (by decide) (by decide) (by decide) (by decide) (by decide) (by decide) (by decide) (by decide) (by decide) (by decide) (by decide) (by decide) (by decide), back 371 (by decide) (by decide) (by decide) (by decide) (by decide) (by decide) (by decide) (by decide) (by decide) (by decide) (by decide) (by decide) (by decide) (by decide) (by decide), back 372 (by decide) (by decide) (by decide) (by decide) (by decide) (by decide) (by decide) (by decide) (by decide) (by decide) (by decide) (by decide) (by decide) (by decide) (by decide), back 373 (by decide) (by decide) (by decide) (by decide) (by decide) (by decide) (by decide) (by decide) (by decide) (by decide) (by decide) (by decide) (by decide) (by decide) (by decide), ← hA]
    refine ⟨?_, ?_, ?_, ?_, ?_⟩
    · rw [pu_a (by decide), pu_a (by decide), pu_a (by decide), pu_a (by decide), pu_r, if_pos rfl]
    · rw [pu_a (by decide), pu_a (by decide), pu_a (by decide), pu_r, if_pos rfl]
    · rw [pu_a (by decide), pu_a (by decide), pu_r, if_pos rfl]
    · rw [pu_a (by decide), pu_r, if_pos rfl]
    · rw [pu_r, if_pos rfl]
  · have e : ∀ a, a = 374 ∨ a = 375 ∨ a = 377 → H a = B a := fun a x => by rw [b99 a (by omega), h3 a (by omega) (by omega) (by omega), g3 a (by omega) (by omega) (by omega) (by omega), f3 a (by omega) (by omega), d3 a (by omega), c3 a (by omega)]
    refine ⟨fun j => ?_, fun j => ?_, fun j => ?_⟩
    · rw [e 374 (by decide), b4, Aa 374 (by decide)]
    · rw [e 375 (by decide), b5, Aa 375 (by decide)]
    · rw [e 377 (by decide), b6, Aa 377 (by decide)]
  · intro j
    rw [b99 376 (by decide), h3 376 (by decide) (by decide) (by decide), g3 376 (by decide) (by decide) (by decide) (by decide), f3 376 (by decide) (by decide), d3 376 (by decide), c4, b3 376 (by decide) (by decide) (by decide), Aa 376 (by decide)]
  · intro j
    rw [b99 381 (by decide), h3 381 (by decide) (by decide) (by decide), g3 381 (by decide) (by decide) (by decide) (by decide), f3 381 (by decide) (by decide), d4, c3 381 (by decide), b3 381 (by decide) (by decide) (by decide), Aa 381 (by decide)]
  · have e : ∀ a, a = 382 ∨ a = 383 → H a = E a ∧ D a = F a := fun a x => by
      refine ⟨?_, ?_⟩
      · rw [b99 a (by omega), h3 a (by omega) (by omega) (by omega), g3 a (by omega) (by omega) (by omega) (by omega)]
      · rw [d3 a (by omega), c3 a (by omega), b3 a (by omega) (by omega) (by omega), Aa a (by omega)]
    refine ⟨fun j => ?_, fun j => ?_⟩
    · rw [(e 382 (by decide)).1, f4, (e 382 (by decide)).2]
    · rw [(e 383 (by decide)).1, f5, (e 383 (by decide)).2]
  · have e : ∀ a, 384 ≤ a ∧ a ≤ 387 → H a = P a ∧ E a = F a := fun a x => by
      refine ⟨?_, ?_⟩
      · rw [b99 a (by omega), h3 a (by omega) (by omega) (by omega)]
      · rw [f3 a (by omega) (by omega), d3 a (by omega), c3 a (by omega), b3 a (by omega) (by omega) (by omega), Aa a (by omega)]
    refine ⟨fun j => ?_, fun j => ?_, fun j => ?_, fun j => ?_⟩
    · rw [(e 384 (by decide)).1, g4, (e 384 (by decide)).2]
    · rw [(e 385 (by decide)).1, g5, (e 385 (by decide)).2]
    · rw [(e 386 (by decide)).1, g6, (e 386 (by decide)).2]
    · rw [(e 387 (by decide)).1, g7, (e 387 (by decide)).2]
  · have e : ∀ a, 388 ≤ a ∧ a ≤ 390 → H a = Q a ∧ P a = F a := fun a x => by
      refine ⟨b99 a (by omega), ?_⟩
      rw [g3 a (by omega) (by omega) (by omega) (by omega), f3 a (by omega) (by omega), d3 a (by omega), c3 a (by omega), b3 a (by omega) (by omega) (by omega), Aa a (by omega)]
    refine ⟨fun j => ?_, fun j => ?_, fun j => ?_⟩
    · rw [(e 388 (by decide)).1, h4, (e 388 (by decide)).2]
    · rw [(e 389 (by decide)).1, h5, (e 389 (by decide)).2]
    · rw [(e 390 (by decide)).1, h6, (e 390 (by decide)).2]
  · have rA : ∀ a, a = 380 ∨ a = 391 ∨ a = 392 → R a = F a := fun a x => by rw [i3 a (by omega), h3 a (by omega) (by omega) (by omega), g3 a (by omega) (by omega) (by omega) (by omega), f3 a (by omega) (by omega), d3 a (by omega), c3 a (by omega), b3 a (by omega) (by omega) (by omega), Aa a (by omega)]
    have sS : ∀ w, sv S w = sv F w := fun w => by unfold sv; rw [j3 392 (by decide), j3 391 (by decide), rA 391 (by decide), rA 392 (by decide)]
    rw [k4, sS, sS, sS, j4, rA 380 (by decide), i4 j x y]
    by_cases z : j < na
    · rw [if_pos (show 0 ≤ j ∧ j < na from ⟨x, z⟩), if_pos z]
    · rw [if_neg (show ¬ (0 ≤ j ∧ j < na) from fun e => z e.2), if_neg z]
end CP

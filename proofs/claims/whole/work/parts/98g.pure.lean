/-! loans and highs told -/
section LH
variable {b : Int} {F G : pd_F}
theorem r_named0 (h : J b F G) : (12 ≤ bn G 369 0 → ∀ G', pfX12_must pd_SH 5000 G 367 0 5 = some (0, G') → pfX12_named pd_SH 5000 G 367 0 = some (0, G')) ∧
    (bn G 369 0 < 12 → pfX12_named pd_SH 5000 G 367 0 = Option.bind (pfX12_steps pd_SH 5000 G 367) fun F4 => Option.bind (pfX12_personLine pd_SH 5000 F4 367) fun q => pd_i (q.1 = 0 ∨ q.1 = 1) (some (q.1, q.2))) := by
  have h2 := h.2.1
  have h9 := h.2.2.2.2.2.2.2
  rw [bn_369]
  unfold pfX12_named
  rw [if_neg (show ¬ (0 : Int) ≠ 0 by decide)]
  simp only [pl_l, pl_b, pl_iT, pl_t, pl_f, gx_367, gx_368, gx_369, gx_370, gx_371, gx_372, gx_373, gx_374, gx_375, gx_376, gx_377, gx_378, gx_379, gx_380, gx_381, gx_382, gx_383, gx_384, gx_385, gx_386, gx_387, gx_388, gx_389, gx_390, gx_391, gx_392, gx_393, gx_394, gx_395, gx_396, gx_397, gx_398, gx_399, gx_400, gx_401, gx_402, gx_403, gn_368, gn_369, gn_370, gn_371, gn_372, gn_373, gn_374, gn_375, gn_376, gn_377, gn_378, gn_379, gn_380, gn_381, gn_382, gn_383, gn_384, gn_385, gn_386, gn_387, gn_388, gn_389, gn_390, gn_391, gn_392, gn_393, gn_394, gn_395, gn_396, gn_397, gn_398, gn_399, gn_400, gn_401, gn_402, gn_403, lm_1 h2, lm_14 h2, lm_15 h2, lm_16 h2, lm_17 h2, lm_18 h2, lm_19 h2, lm_20 h2, lm_21 h2, lm_22 h2, lm_23 h2, lm_24 h2, lm_25 h2, lm_26 h2, lm_27 h2, lm_28 h2, lm_29 h2, lm_30 h2, lm_31 h2, lm_32 h2, lm_33 h2, lm_34 h2, lm_35 h2, lm_36 h2, lm_37 h2, lm_39 h2, lm_40 h2, lm_42 h2, lm_43 h2, lm_44 h2, lm_45 h2, lm_47 h2, lm_48 h2, lm_49 h2, lm_50 h2, lm_51 h2, h9]
  rw [pl_i (by omega)]
  refine ⟨fun k G' e => ?_, fun k => ?_⟩
  · rw [if_pos (show G 369 1 ≥ 12 from k)]
    unfold pfX12_named_b125
    simp only [pl_l, pl_b, pl_iT, pl_t, pl_f, gx_367, gx_368, gx_369, gx_370, gx_371, gx_372, gx_373, gx_374, gx_375, gx_376, gx_377, gx_378, gx_379, gx_380, gx_381, gx_382, gx_383, gx_384, gx_385, gx_386, gx_387, gx_388, gx_389, gx_390, gx_391, gx_392, gx_393, gx_394, gx_395, gx_396, gx_397, gx_398, gx_399, gx_400, gx_401, gx_402, gx_403, gn_368, gn_369, gn_370, gn_371, gn_372, gn_373, gn_374, gn_375, gn_376, gn_377, gn_378, gn_379, gn_380, gn_381, gn_382, gn_383, gn_384, gn_385, gn_386, gn_387, gn_388, gn_389, gn_390, gn_391, gn_392, gn_393, gn_394, gn_395, gn_396, gn_397, gn_398, gn_399, gn_400, gn_401, gn_402, gn_403, e]
    rw [if_neg (show ¬ (0 : Int) ≠ 0 by decide)]
  · rw [if_neg (show ¬ G 369 1 ≥ 12 by omega)]
    unfold pfX12_named_b125
    have m := j_must h (v := 1) (k := 5) (by decide)
    simp only [pl_l, pl_b, pl_iT, pl_t, pl_f, gx_367, gx_368, gx_369, gx_370, gx_371, gx_372, gx_373, gx_374, gx_375, gx_376, gx_377, gx_378, gx_379, gx_380, gx_381, gx_382, gx_383, gx_384, gx_385, gx_386, gx_387, gx_388, gx_389, gx_390, gx_391, gx_392, gx_393, gx_394, gx_395, gx_396, gx_397, gx_398, gx_399, gx_400, gx_401, gx_402, gx_403, gn_368, gn_369, gn_370, gn_371, gn_372, gn_373, gn_374, gn_375, gn_376, gn_377, gn_378, gn_379, gn_380, gn_381, gn_382, gn_383, gn_384, gn_385, gn_386, gn_387, gn_388, gn_389, gn_390, gn_391, gn_392, gn_393, gn_394, gn_395, gn_396, gn_397, gn_398, gn_399, gn_400, gn_401, gn_402, gn_403, m]
    rw [if_pos (show (1 : Int) ≠ 0 by decide)]
theorem r_named1 (h : J b F G) : (5 ≤ bn G 370 0 → ∀ G', pfX12_must pd_SH 5000 G 367 0 5 = some (0, G') → pfX12_named pd_SH 5000 G 367 1 = some (0, G')) ∧
    (bn G 370 0 < 5 → pfX12_named pd_SH 5000 G 367 1 = Option.bind (pfX12_steps pd_SH 5000 G 367) fun F4 => Option.bind (pfX12_trustLine pd_SH 5000 F4 367) fun q => pd_i (q.1 = 0 ∨ q.1 = 1) (some (q.1, q.2))) := by
  have h2 := h.2.1
  have h9 := h.2.2.2.2.2.2.2
  rw [bn_370]
  unfold pfX12_named
  rw [if_pos (show (1 : Int) ≠ 0 by decide)]
  rw [if_neg (show ¬ (1 : Int) ≠ 1 by decide)]
  simp only [pl_l, pl_b, pl_iT, pl_t, pl_f, gx_367, gx_368, gx_369, gx_370, gx_371, gx_372, gx_373, gx_374, gx_375, gx_376, gx_377, gx_378, gx_379, gx_380, gx_381, gx_382, gx_383, gx_384, gx_385, gx_386, gx_387, gx_388, gx_389, gx_390, gx_391, gx_392, gx_393, gx_394, gx_395, gx_396, gx_397, gx_398, gx_399, gx_400, gx_401, gx_402, gx_403, gn_368, gn_369, gn_370, gn_371, gn_372, gn_373, gn_374, gn_375, gn_376, gn_377, gn_378, gn_379, gn_380, gn_381, gn_382, gn_383, gn_384, gn_385, gn_386, gn_387, gn_388, gn_389, gn_390, gn_391, gn_392, gn_393, gn_394, gn_395, gn_396, gn_397, gn_398, gn_399, gn_400, gn_401, gn_402, gn_403, lm_1 h2, lm_14 h2, lm_15 h2, lm_16 h2, lm_17 h2, lm_18 h2, lm_19 h2, lm_20 h2, lm_21 h2, lm_22 h2, lm_23 h2, lm_24 h2, lm_25 h2, lm_26 h2, lm_27 h2, lm_28 h2, lm_29 h2, lm_30 h2, lm_31 h2, lm_32 h2, lm_33 h2, lm_34 h2, lm_35 h2, lm_36 h2, lm_37 h2, lm_39 h2, lm_40 h2, lm_42 h2, lm_43 h2, lm_44 h2, lm_45 h2, lm_47 h2, lm_48 h2, lm_49 h2, lm_50 h2, lm_51 h2, h9]
  rw [pl_i (by omega)]
  refine ⟨fun k G' e => ?_, fun k => ?_⟩
  · rw [if_pos (show G 370 1 ≥ 5 from k)]
    unfold pfX12_named_b125
    simp only [pl_l, pl_b, pl_iT, pl_t, pl_f, gx_367, gx_368, gx_369, gx_370, gx_371, gx_372, gx_373, gx_374, gx_375, gx_376, gx_377, gx_378, gx_379, gx_380, gx_381, gx_382, gx_383, gx_384, gx_385, gx_386, gx_387, gx_388, gx_389, gx_390, gx_391, gx_392, gx_393, gx_394, gx_395, gx_396, gx_397, gx_398, gx_399, gx_400, gx_401, gx_402, gx_403, gn_368, gn_369, gn_370, gn_371, gn_372, gn_373, gn_374, gn_375, gn_376, gn_377, gn_378, gn_379, gn_380, gn_381, gn_382, gn_383, gn_384, gn_385, gn_386, gn_387, gn_388, gn_389, gn_390, gn_391, gn_392, gn_393, gn_394, gn_395, gn_396, gn_397, gn_398, gn_399, gn_400, gn_401, gn_402, gn_403, e]
    rw [if_neg (show ¬ (0 : Int) ≠ 0 by decide)]
  · rw [if_neg (show ¬ G 370 1 ≥ 5 by omega)]
    unfold pfX12_named_b125
    have m := j_must h (v := 1) (k := 5) (by decide)
    simp only [pl_l, pl_b, pl_iT, pl_t, pl_f, gx_367, gx_368, gx_369, gx_370, gx_371, gx_372, gx_373, gx_374, gx_375, gx_376, gx_377, gx_378, gx_379, gx_380, gx_381, gx_382, gx_383, gx_384, gx_385, gx_386, gx_387, gx_388, gx_389, gx_390, gx_391, gx_392, gx_393, gx_394, gx_395, gx_396, gx_397, gx_398, gx_399, gx_400, gx_401, gx_402, gx_403, gn_368, gn_369, gn_370, gn_371, gn_372, gn_373, gn_374, gn_375, gn_376, gn_377, gn_378, gn_379, gn_380, gn_381, gn_382, gn_383, gn_384, gn_385, gn_386, gn_387, gn_388, gn_389, gn_390, gn_391, gn_392, gn_393, gn_394, gn_395, gn_396, gn_397, gn_398, gn_399, gn_400, gn_401, gn_402, gn_403, m]
    rw [if_pos (show (1 : Int) ≠ 0 by decide)]
    refine congrArg (Option.bind (pfX12_steps pd_SH 5000 G 367)) (funext fun F4 => ?_)
    rw [if_neg (show ¬ (1 : Int) = 0 by decide)]
theorem r_named2 (h : J b F G) : (10 ≤ bn G 371 0 → ∀ G', pfX12_must pd_SH 5000 G 367 0 5 = some (0, G') → pfX12_named pd_SH 5000 G 367 2 = some (0, G')) ∧
    (bn G 371 0 < 10 → pfX12_named pd_SH 5000 G 367 2 = Option.bind (pfX12_steps pd_SH 5000 G 367) fun F4 => Option.bind (pfX12_accountLine pd_SH 5000 F4 367) fun q => pd_i (q.1 = 0 ∨ q.1 = 1) (some (q.1, q.2))) := by
  have h2 := h.2.1
  have h9 := h.2.2.2.2.2.2.2
  rw [bn_371]
  unfold pfX12_named
  rw [if_pos (show (2 : Int) ≠ 0 by decide)]
  rw [if_pos (show (2 : Int) ≠ 1 by decide)]
  rw [if_neg (show ¬ (2 : Int) ≠ 2 by decide)]
  simp only [pl_l, pl_b, pl_iT, pl_t, pl_f, gx_367, gx_368, gx_369, gx_370, gx_371, gx_372, gx_373, gx_374, gx_375, gx_376, gx_377, gx_378, gx_379, gx_380, gx_381, gx_382, gx_383, gx_384, gx_385, gx_386, gx_387, gx_388, gx_389, gx_390, gx_391, gx_392, gx_393, gx_394, gx_395, gx_396, gx_397, gx_398, gx_399, gx_400, gx_401, gx_402, gx_403, gn_368, gn_369, gn_370, gn_371, gn_372, gn_373, gn_374, gn_375, gn_376, gn_377, gn_378, gn_379, gn_380, gn_381, gn_382, gn_383, gn_384, gn_385, gn_386, gn_387, gn_388, gn_389, gn_390, gn_391, gn_392, gn_393, gn_394, gn_395, gn_396, gn_397, gn_398, gn_399, gn_400, gn_401, gn_402, gn_403, lm_1 h2, lm_14 h2, lm_15 h2, lm_16 h2, lm_17 h2, lm_18 h2, lm_19 h2, lm_20 h2, lm_21 h2, lm_22 h2, lm_23 h2, lm_24 h2, lm_25 h2, lm_26 h2, lm_27 h2, lm_28 h2, lm_29 h2, lm_30 h2, lm_31 h2, lm_32 h2, lm_33 h2, lm_34 h2, lm_35 h2, lm_36 h2, lm_37 h2, lm_39 h2, lm_40 h2, lm_42 h2, lm_43 h2, lm_44 h2, lm_45 h2, lm_47 h2, lm_48 h2, lm_49 h2, lm_50 h2, lm_51 h2, h9]
  rw [pl_i (by omega)]
  refine ⟨fun k G' e => ?_, fun k => ?_⟩
  · rw [if_pos (show G 371 1 ≥ 10 from k)]
    unfold pfX12_named_b125
    simp only [pl_l, pl_b, pl_iT, pl_t, pl_f, gx_367, gx_368, gx_369, gx_370, gx_371, gx_372, gx_373, gx_374, gx_375, gx_376, gx_377, gx_378, gx_379, gx_380, gx_381, gx_382, gx_383, gx_384, gx_385, gx_386, gx_387, gx_388, gx_389, gx_390, gx_391, gx_392, gx_393, gx_394, gx_395, gx_396, gx_397, gx_398, gx_399, gx_400, gx_401, gx_402, gx_403, gn_368, gn_369, gn_370, gn_371, gn_372, gn_373, gn_374, gn_375, gn_376, gn_377, gn_378, gn_379, gn_380, gn_381, gn_382, gn_383, gn_384, gn_385, gn_386, gn_387, gn_388, gn_389, gn_390, gn_391, gn_392, gn_393, gn_394, gn_395, gn_396, gn_397, gn_398, gn_399, gn_400, gn_401, gn_402, gn_403, e]
    rw [if_neg (show ¬ (0 : Int) ≠ 0 by decide)]
  · rw [if_neg (show ¬ G 371 1 ≥ 10 by omega)]
    unfold pfX12_named_b125
    have m := j_must h (v := 1) (k := 5) (by decide)
    simp only [pl_l, pl_b, pl_iT, pl_t, pl_f, gx_367, gx_368, gx_369, gx_370, gx_371, gx_372, gx_373, gx_374, gx_375, gx_376, gx_377, gx_378, gx_379, gx_380, gx_381, gx_382, gx_383, gx_384, gx_385, gx_386, gx_387, gx_388, gx_389, gx_390, gx_391, gx_392, gx_393, gx_394, gx_395, gx_396, gx_397, gx_398, gx_399, gx_400, gx_401, gx_402, gx_403, gn_368, gn_369, gn_370, gn_371, gn_372, gn_373, gn_374, gn_375, gn_376, gn_377, gn_378, gn_379, gn_380, gn_381, gn_382, gn_383, gn_384, gn_385, gn_386, gn_387, gn_388, gn_389, gn_390, gn_391, gn_392, gn_393, gn_394, gn_395, gn_396, gn_397, gn_398, gn_399, gn_400, gn_401, gn_402, gn_403, m]
    rw [if_pos (show (1 : Int) ≠ 0 by decide)]
    refine congrArg (Option.bind (pfX12_steps pd_SH 5000 G 367)) (funext fun F4 => ?_)
    rw [if_neg (show ¬ (2 : Int) = 0 by decide)]
    rw [if_neg (show ¬ (2 : Int) = 1 by decide)]
theorem r_named3 (h : J b F G) : (6 ≤ bn G 372 0 → ∀ G', pfX12_must pd_SH 5000 G 367 0 5 = some (0, G') → pfX12_named pd_SH 5000 G 367 3 = some (0, G')) ∧
    (bn G 372 0 < 6 → pfX12_named pd_SH 5000 G 367 3 = Option.bind (pfX12_steps pd_SH 5000 G 367) fun F4 => Option.bind (pfX12_highLine pd_SH 5000 F4 367) fun q => pd_i (q.1 = 0 ∨ q.1 = 1) (some (q.1, q.2))) := by
  have h2 := h.2.1
  have h9 := h.2.2.2.2.2.2.2
  rw [bn_372]
  unfold pfX12_named
  rw [if_pos (show (3 : Int) ≠ 0 by decide)]
  rw [if_pos (show (3 : Int) ≠ 1 by decide)]
  rw [if_pos (show (3 : Int) ≠ 2 by decide)]
  rw [if_neg (show ¬ (3 : Int) ≠ 3 by decide)]
  simp only [pl_l, pl_b, pl_iT, pl_t, pl_f, gx_367, gx_368, gx_369, gx_370, gx_371, gx_372, gx_373, gx_374, gx_375, gx_376, gx_377, gx_378, gx_379, gx_380, gx_381, gx_382, gx_383, gx_384, gx_385, gx_386, gx_387, gx_388, gx_389, gx_390, gx_391, gx_392, gx_393, gx_394, gx_395, gx_396, gx_397, gx_398, gx_399, gx_400, gx_401, gx_402, gx_403, gn_368, gn_369, gn_370, gn_371, gn_372, gn_373, gn_374, gn_375, gn_376, gn_377, gn_378, gn_379, gn_380, gn_381, gn_382, gn_383, gn_384, gn_385, gn_386, gn_387, gn_388, gn_389, gn_390, gn_391, gn_392, gn_393, gn_394, gn_395, gn_396, gn_397, gn_398, gn_399, gn_400, gn_401, gn_402, gn_403, lm_1 h2, lm_14 h2, lm_15 h2, lm_16 h2, lm_17 h2, lm_18 h2, lm_19 h2, lm_20 h2, lm_21 h2, lm_22 h2, lm_23 h2, lm_24 h2, lm_25 h2, lm_26 h2, lm_27 h2, lm_28 h2, lm_29 h2, lm_30 h2, lm_31 h2, lm_32 h2, lm_33 h2, lm_34 h2, lm_35 h2, lm_36 h2, lm_37 h2, lm_39 h2, lm_40 h2, lm_42 h2, lm_43 h2, lm_44 h2, lm_45 h2, lm_47 h2, lm_48 h2, lm_49 h2, lm_50 h2, lm_51 h2, h9]
  rw [pl_i (by omega)]
  refine ⟨fun k G' e => ?_, fun k => ?_⟩
  · rw [if_pos (show G 372 1 ≥ 6 from k)]
    unfold pfX12_named_b125
    simp only [pl_l, pl_b, pl_iT, pl_t, pl_f, gx_367, gx_368, gx_369, gx_370, gx_371, gx_372, gx_373, gx_374, gx_375, gx_376, gx_377, gx_378, gx_379, gx_380, gx_381, gx_382, gx_383, gx_384, gx_385, gx_386, gx_387, gx_388, gx_389, gx_390, gx_391, gx_392, gx_393, gx_394, gx_395, gx_396, gx_397, gx_398, gx_399, gx_400, gx_401, gx_402, gx_403, gn_368, gn_369, gn_370, gn_371, gn_372, gn_373, gn_374, gn_375, gn_376, gn_377, gn_378, gn_379, gn_380, gn_381, gn_382, gn_383, gn_384, gn_385, gn_386, gn_387, gn_388, gn_389, gn_390, gn_391, gn_392, gn_393, gn_394, gn_395, gn_396, gn_397, gn_398, gn_399, gn_400, gn_401, gn_402, gn_403, e]
    rw [if_neg (show ¬ (0 : Int) ≠ 0 by decide)]
  · rw [if_neg (show ¬ G 372 1 ≥ 6 by omega)]
    unfold pfX12_named_b125
    have m := j_must h (v := 1) (k := 5) (by decide)
    simp only [pl_l, pl_b, pl_iT, pl_t, pl_f, gx_367, gx_368, gx_369, gx_370, gx_371, gx_372, gx_373, gx_374, gx_375, gx_376, gx_377, gx_378, gx_379, gx_380, gx_381, gx_382, gx_383, gx_384, gx_385, gx_386, gx_387, gx_388, gx_389, gx_390, gx_391, gx_392, gx_393, gx_394, gx_395, gx_396, gx_397, gx_398, gx_399, gx_400, gx_401, gx_402, gx_403, gn_368, gn_369, gn_370, gn_371, gn_372, gn_373, gn_374, gn_375, gn_376, gn_377, gn_378, gn_379, gn_380, gn_381, gn_382, gn_383, gn_384, gn_385, gn_386, gn_387, gn_388, gn_389, gn_390, gn_391, gn_392, gn_393, gn_394, gn_395, gn_396, gn_397, gn_398, gn_399, gn_400, gn_401, gn_402, gn_403, m]
    rw [if_pos (show (1 : Int) ≠ 0 by decide)]
    refine congrArg (Option.bind (pfX12_steps pd_SH 5000 G 367)) (funext fun F4 => ?_)
    rw [if_neg (show ¬ (3 : Int) = 0 by decide)]
    rw [if_neg (show ¬ (3 : Int) = 1 by decide)]
    rw [if_neg (show ¬ (3 : Int) = 2 by decide)]
theorem r_named4 (h : J b F G) : (8 ≤ bn G 373 0 → ∀ G', pfX12_must pd_SH 5000 G 367 0 5 = some (0, G') → pfX12_named pd_SH 5000 G 367 4 = some (0, G')) ∧
    (bn G 373 0 < 8 → pfX12_named pd_SH 5000 G 367 4 = Option.bind (pfX12_steps pd_SH 5000 G 367) fun F4 => Option.bind (pfX12_loanLine pd_SH 5000 F4 367) fun q => pd_i (q.1 = 0 ∨ q.1 = 1) (some (q.1, q.2))) := by
  have h2 := h.2.1
  have h9 := h.2.2.2.2.2.2.2
  rw [bn_373]
  unfold pfX12_named
  rw [if_pos (show (4 : Int) ≠ 0 by decide)]
  rw [if_pos (show (4 : Int) ≠ 1 by decide)]
  rw [if_pos (show (4 : Int) ≠ 2 by decide)]
  rw [if_pos (show (4 : Int) ≠ 3 by decide)]
  simp only [pl_l, pl_b, pl_iT, pl_t, pl_f, gx_367, gx_368, gx_369, gx_370, gx_371, gx_372, gx_373, gx_374, gx_375, gx_376, gx_377, gx_378, gx_379, gx_380, gx_381, gx_382, gx_383, gx_384, gx_385, gx_386, gx_387, gx_388, gx_389, gx_390, gx_391, gx_392, gx_393, gx_394, gx_395, gx_396, gx_397, gx_398, gx_399, gx_400, gx_401, gx_402, gx_403, gn_368, gn_369, gn_370, gn_371, gn_372, gn_373, gn_374, gn_375, gn_376, gn_377, gn_378, gn_379, gn_380, gn_381, gn_382, gn_383, gn_384, gn_385, gn_386, gn_387, gn_388, gn_389, gn_390, gn_391, gn_392, gn_393, gn_394, gn_395, gn_396, gn_397, gn_398, gn_399, gn_400, gn_401, gn_402, gn_403, lm_1 h2, lm_14 h2, lm_15 h2, lm_16 h2, lm_17 h2, lm_18 h2, lm_19 h2, lm_20 h2, lm_21 h2, lm_22 h2, lm_23 h2, lm_24 h2, lm_25 h2, lm_26 h2, lm_27 h2, lm_28 h2, lm_29 h2, lm_30 h2, lm_31 h2, lm_32 h2, lm_33 h2, lm_34 h2, lm_35 h2, lm_36 h2, lm_37 h2, lm_39 h2, lm_40 h2, lm_42 h2, lm_43 h2, lm_44 h2, lm_45 h2, lm_47 h2, lm_48 h2, lm_49 h2, lm_50 h2, lm_51 h2, h9]
  rw [pl_i (by omega)]
  refine ⟨fun k G' e => ?_, fun k => ?_⟩
  · rw [if_pos (show G 373 1 ≥ 8 from k)]
    unfold pfX12_named_b125
    simp only [pl_l, pl_b, pl_iT, pl_t, pl_f, gx_367, gx_368, gx_369, gx_370, gx_371, gx_372, gx_373, gx_374, gx_375, gx_376, gx_377, gx_378, gx_379, gx_380, gx_381, gx_382, gx_383, gx_384, gx_385, gx_386, gx_387, gx_388, gx_389, gx_390, gx_391, gx_392, gx_393, gx_394, gx_395, gx_396, gx_397, gx_398, gx_399, gx_400, gx_401, gx_402, gx_403, gn_368, gn_369, gn_370, gn_371, gn_372, gn_373, gn_374, gn_375, gn_376, gn_377, gn_378, gn_379, gn_380, gn_381, gn_382, gn_383, gn_384, gn_385, gn_386, gn_387, gn_388, gn_389, gn_390, gn_391, gn_392, gn_393, gn_394, gn_395, gn_396, gn_397, gn_398, gn_399, gn_400, gn_401, gn_402, gn_403, e]
    rw [if_neg (show ¬ (0 : Int) ≠ 0 by decide)]
  · rw [if_neg (show ¬ G 373 1 ≥ 8 by omega)]
    unfold pfX12_named_b125
    have m := j_must h (v := 1) (k := 5) (by decide)
    simp only [pl_l, pl_b, pl_iT, pl_t, pl_f, gx_367, gx_368, gx_369, gx_370, gx_371, gx_372, gx_373, gx_374, gx_375, gx_376, gx_377, gx_378, gx_379, gx_380, gx_381, gx_382, gx_383, gx_384, gx_385, gx_386, gx_387, gx_388, gx_389, gx_390, gx_391, gx_392, gx_393, gx_394, gx_395, gx_396, gx_397, gx_398, gx_399, gx_400, gx_401, gx_402, gx_403, gn_368, gn_369, gn_370, gn_371, gn_372, gn_373, gn_374, gn_375, gn_376, gn_377, gn_378, gn_379, gn_380, gn_381, gn_382, gn_383, gn_384, gn_385, gn_386, gn_387, gn_388, gn_389, gn_390, gn_391, gn_392, gn_393, gn_394, gn_395, gn_396, gn_397, gn_398, gn_399, gn_400, gn_401, gn_402, gn_403, m]
    rw [if_pos (show (1 : Int) ≠ 0 by decide)]
    refine congrArg (Option.bind (pfX12_steps pd_SH 5000 G 367)) (funext fun F4 => ?_)
    rw [if_neg (show ¬ (4 : Int) = 0 by decide)]
    rw [if_neg (show ¬ (4 : Int) = 1 by decide)]
    rw [if_neg (show ¬ (4 : Int) = 2 by decide)]
    rw [if_neg (show ¬ (4 : Int) = 3 by decide)]
/-- a fault in front: the line has no room -/
theorem j_full (h : J b F G) {c r : Option (Int × pd_F)} (hc : ∀ F', pfX6_fail pd_SH 5000 F 2 5 = some (0, F') → c = some (0, F')) (hr : ∀ G', pfX12_must pd_SH 5000 G 367 0 5 = some (0, G') → r = some (0, G')) : jL b F G c r := by
  obtain ⟨F', G', a1, a2, a3, a4, a5⟩ := j_fail h (k := 5) (by decide)
  rw [hc F' a1, hr G' a2]
  exact jL.x a4.w ((wR.rf G).z a5) a3
theorem K.lo {B F' B' : pd_F} (hK : K b F B) (ff : ∀ a, b < a → a < b + 100 → F' a = F a) (fb : ∀ j, j ≠ 13 → F' b j = F b j) (ra : ∀ a, a ≠ 373 → a ≠ 388 → a ≠ 389 → a ≠ 390 → B' a = B a) (ho : Ko b F' B') : K b F' B' := by
  obtain ⟨k1, k2, k3, k4, k5, k6⟩ := hK
  have n := k6.2.1
  have r : ∀ a, (a ≤ 372 ∨ (374 ≤ a ∧ a ≤ 387) ∨ 391 ≤ a) → B' a = B a := fun a x => ra a (by omega) (by omega) (by omega) (by omega)
  exact ⟨k1.fr (fb 9 (by decide)) (fb 14 (by decide)) (fun a x y => ff a (by omega) (by omega)) (by rw [r _ (by decide)]) (r _ (by decide)) (r _ (by decide)) (r _ (by decide)) (r _ (by decide)),
    k2.fr (fb 10 (by decide)) (fb 11 (by decide)) (ff _ (by omega) (by omega)) (fun a x y => ff a (by omega) (by omega)) (by rw [r _ (by decide)]; exact Int.le_refl _) (by rw [r _ (by decide)]) (by rw [r _ (by decide)]) (r _ (by decide)) (r _ (by decide)) (r _ (by decide)) (r _ (by decide)),
    k3.fr (fb 12 (by decide)) (fun a x y => ff a (by omega) (by omega)) (by rw [r _ (by decide)]; exact Int.le_refl _) (by rw [r _ (by decide)]) (r _ (by decide)) (r _ (by decide)) (r _ (by decide)) (r _ (by decide)),
    ho, k5.fr (ff _ (by omega) (by omega)) (r _ (by decide)) (r _ (by decide)),
    k6.fr ⟨fb 9 (by decide), fb 10 (by decide), fb 11 (by decide)⟩ ⟨by rw [r _ (by decide)], by rw [r _ (by decide)], by rw [r _ (by decide)]⟩ (fun p x y => ⟨by rw [ff _ (by omega) (by omega)], by rw [r _ (by decide)]⟩) (fun p x y => ⟨by rw [ff _ (by omega) (by omega)], by rw [r _ (by decide)]⟩) (fun p x y => ⟨by rw [ff _ (by omega) (by omega)], by rw [r _ (by decide)]⟩)⟩
theorem K.hi {B F' B' : pd_F} (hK : K b F B) (ff : ∀ a, b < a → (a < b + 94 ∨ b + 99 < a) → a ≤ b + 107 → F' a = F a) (fb : ∀ j, j ≠ 12 → F' b j = F b j) (ra : ∀ a, a ≠ 372 → a ≠ 384 → a ≠ 385 → a ≠ 386 → a ≠ 387 → B' a = B a) (ho : Kh b F' B') : K b F' B' := by
  obtain ⟨k1, k2, k3, k4, k5, k6⟩ := hK
  have n := k6.2.1
  have r : ∀ a, (a ≤ 371 ∨ (373 ≤ a ∧ a ≤ 383) ∨ 388 ≤ a) → B' a = B a := fun a x => ra a (by omega) (by omega) (by omega) (by omega) (by omega)
  exact ⟨k1.fr (fb 9 (by decide)) (fb 14 (by decide)) (fun a x y => ff a (by omega) (by omega) (by omega)) (by rw [r _ (by decide)]) (r _ (by decide)) (r _ (by decide)) (r _ (by decide)) (r _ (by decide)),
    k2.fr (fb 10 (by decide)) (fb 11 (by decide)) (ff _ (by omega) (by omega) (by omega)) (fun a x y => ff a (by omega) (by omega) (by omega)) (by rw [r _ (by decide)]; exact Int.le_refl _) (by rw [r _ (by decide)]) (by rw [r _ (by decide)]) (r _ (by decide)) (r _ (by decide)) (r _ (by decide)) (r _ (by decide)), ho,
    k4.fr (fb 13 (by decide)) (fun a x y => ff a (by omega) (by omega) (by omega)) (by rw [r _ (by decide)]; exact Int.le_refl _) (by rw [r _ (by decide)]) (r _ (by decide)) (r _ (by decide)) (r _ (by decide)),
    k5.fr (ff _ (by omega) (by omega) (by omega)) (r _ (by decide)) (r _ (by decide)),
    k6.fr ⟨fb 9 (by decide), fb 10 (by decide), fb 11 (by decide)⟩ ⟨by rw [r _ (by decide)], by rw [r _ (by decide)], by rw [r _ (by decide)]⟩ (fun p x y => ⟨by rw [ff _ (by omega) (by omega) (by omega)], by rw [r _ (by decide)]⟩) (fun p x y => ⟨by rw [ff _ (by omega) (by omega) (by omega)], by rw [r _ (by decide)]⟩) (fun p x y => ⟨by rw [ff _ (by omega) (by omega) (by omega)], by rw [r _ (by decide)]⟩)⟩
/-- what tell leaves -/
theorem c_dated (hL : pd_Ly F) {c v0 v1 v2 v3 : Int} (hc : pd_sh pd_SH c = some (4, 1, 4)) : pfX1_setTo pd_SH 5000 F c v0 v1 v2 v3 = some (pd_up (pd_up (pd_up (pd_up F c 0 v0) c 1 v1) c 2 v2) c 3 v3) ∧ pd_Ly (pd_up (pd_up (pd_up (pd_up F c 0 v0) c 1 v1) c 2 v2) c 3 v3) := by
  refine ⟨?_, (((hL.up (pl_rc4 hc (by decide))).up (pl_rc4 hc (by decide))).up (pl_rc4 hc (by decide))).up (pl_rc4 hc (by decide))⟩
  unfold pfX1_setTo
  simp only [pl_l, pl_b, pl_iT, pl_t, pl_f, pl_ob hc]
theorem d_4 {c v0 v1 v2 v3 : Int} {H : pd_F} (e : H = pd_up (pd_up (pd_up (pd_up F c 0 v0) c 1 v1) c 2 v2) c 3 v3) : H c 0 = v0 ∧ H c 1 = v1 ∧ H c 2 = v2 ∧ H c 3 = v3 ∧ ∀ a, a ≠ c → H a = F a := by
  subst e
  refine ⟨?_, ?_, ?_, ?_, fun a x => by rw [pu_a x, pu_a x, pu_a x, pu_a x]⟩
  · rw [pu_r, if_neg (by decide), pu_r, if_neg (by decide), pu_r, if_neg (by decide), pu_r, if_pos rfl]
  · rw [pu_r, if_neg (by decide), pu_r, if_neg (by decide), pu_r, if_pos rfl]
  · rw [pu_r, if_neg (by decide), pu_r, if_pos rfl]
  · rw [pu_r, if_pos rfl]
/-- a loan told -/
theorem j_loan (h : J b F G) (hK : K b F (bn G)) (h4 : F 3 4 = 1) : jL b F G (pfX6_readLoan pd_SH 5000 F 2) (rL (pfX12_named pd_SH 5000 G 367 4)) := by
  obtain ⟨h1, h2, h3, h5, -⟩ := id h
  have b5 := aB_5 h3
  obtain ⟨s0, -, -, -, -, -, s6, -⟩ := sh_b h3
  obtain ⟨o1, o2, o3⟩ := hK.2.2.2.1
  obtain ⟨n0, n1⟩ := r_named4 h
  unfold pfX6_readLoan
  simp only [pl_l, pl_b, pl_iT, pl_t, pl_f, gx_1, gx_2, gx_3, gx_4, gx_113, gx_114, gx_115, gx_116, gx_212, gx_213, gx_224, gn_4, gn_114, gn_115, gn_116, gn_213, gn_224, lx_1_0 h1, lx_1_1 h1, lx_1_2 h1, lx_1_3 h1, lx_1_4 h1, lx_1_5 h1, lx_1_6 h1, lx_1_7 h1, lx_2_0 h1, lx_3_0 h1, lx_113_0 h1, lx_113_1 h1, lx_113_2 h1, lx_212_0 h1, lx_212_1 h1, h5, pl_ob s0]
  by_cases c : bn G 373 0 < 8
  · rw [if_pos (by rw [o1]; exact c), n1 c]
    obtain ⟨F1, G1, a1, a2, J1, z1, y1, -⟩ := h.adv (by omega)
    have M1 := hK.2.2.2.2.2.z b5.1 z1 y1
    simp only [pl_l, pl_b, pl_iT, pl_t, pl_f, a1, a2]
    rcases j_toldP J1 M1 with ⟨F2, G2, t1, t2, t3, t4, t5⟩ | ⟨p, hp, k4, t1, t2⟩
    · simp only [pl_l, pl_b, pl_iT, pl_t, pl_f, t1, t2]
      rw [pl_i (by decide), rL_0, if_neg (show ¬ (-1 : Int) ≠ -1 by decide)]
      exact jL.x (z1.tr t3).w (((wR.rf G).z y1).z t4) t5
    have q369 : bn G1 369 0 = bn G 369 0 := by rw [bn_row (y1.1 369 (by decide))]
    have q373 : G1 373 1 = bn G 373 0 := by rw [y1.1 373 (by decide), bn_373]
    rw [q369] at hp
    generalize hn : bn G 373 0 = n at c o1 o2 o3 q373
    have g1 := J1.2.1
    have h13 := J1.2.2.2.2.2.2.2
    simp only [t1, t2]
    unfold pfX12_loanLine_b31
    have m := j_must J1 (v := 1) (k := 3) (by decide)
    simp only [pl_l, pl_b, pl_iT, pl_t, pl_f, gx_367, gx_368, gx_369, gx_370, gx_371, gx_372, gx_373, gx_374, gx_375, gx_376, gx_377, gx_378, gx_379, gx_380, gx_381, gx_382, gx_383, gx_384, gx_385, gx_386, gx_387, gx_388, gx_389, gx_390, gx_391, gx_392, gx_393, gx_394, gx_395, gx_396, gx_397, gx_398, gx_399, gx_400, gx_401, gx_402, gx_403, gn_368, gn_369, gn_370, gn_371, gn_372, gn_373, gn_374, gn_375, gn_376, gn_377, gn_378, gn_379, gn_380, gn_381, gn_382, gn_383, gn_384, gn_385, gn_386, gn_387, gn_388, gn_389, gn_390, gn_391, gn_392, gn_393, gn_394, gn_395, gn_396, gn_397, gn_398, gn_399, gn_400, gn_401, gn_402, gn_403, m, lm_1 g1, lm_14 g1, lm_15 g1, lm_16 g1, lm_17 g1, lm_18 g1, lm_19 g1, lm_20 g1, lm_21 g1, lm_22 g1, lm_23 g1, lm_24 g1, lm_25 g1, lm_26 g1, lm_27 g1, lm_28 g1, lm_29 g1, lm_30 g1, lm_31 g1, lm_32 g1, lm_33 g1, lm_34 g1, lm_35 g1, lm_36 g1, lm_37 g1, lm_39 g1, lm_40 g1, lm_42 g1, lm_43 g1, lm_44 g1, lm_45 g1, lm_47 g1, lm_48 g1, lm_49 g1, lm_50 g1, lm_51 g1, h13, q373]
    rw [if_pos (show (1 : Int) ≠ 0 by decide), Int.mul_one, pl_w (x := 8) (by decide), pl_w (x := 8 + n) (by omega), pl_i (by omega), pl_i (by omega)]
    have J2 := J1.row (a := 388) (j := 8 + n) (v := p) (by decide)
    have r2 : rR (pd_up G1 388 (8 + n) p) (pd_up G 388 (8 + n) p) := (show rR G1 G from y1.1).up
    have w2 : wR G (pd_up G1 388 (8 + n) p) := ((wR.rf G).z y1).up (by decide) (by rw [show bs 388 = 8 by decide]; omega)
    obtain ⟨F2, G2, b1, b2, J3, z3, y3, -⟩ := J2.adv (by omega)
    obtain ⟨F3, G3, v, r, c1, c2, z4, y4, -, hr⟩ := j_num J3 (lo := 0) (hi := 9999999) (by decide)
    simp only [pl_l, pl_b, pl_iT, pl_t, pl_f, b1, b2, c1, c2]
    rw [if_pos (show p ≠ -1 by omega)]
    rcases hr.symm with ⟨rfl, rfl, J4⟩ | ⟨rfl, v1, v2, J4⟩
    · rw [if_pos (show (-1 : Int) = -1 by decide), if_neg (show ¬ (0 : Int) ≠ 0 by decide)]
      simp only [pl_l, pl_b, pl_iT, pl_t, pl_f]
      rw [pl_i (by decide), rL_0]
      exact jL.x ((z1.tr z3).tr z4).w ((w2.z y3).z y4) J4
    have g4 := J4.2.1
    rw [if_neg (show ¬ v = -1 by omega), if_pos (show (1 : Int) ≠ 0 by decide)]
    simp only [pl_l, pl_b, pl_iT, pl_t, pl_f, gx_367, gx_368, gx_369, gx_370, gx_371, gx_372, gx_373, gx_374, gx_375, gx_376, gx_377, gx_378, gx_379, gx_380, gx_381, gx_382, gx_383, gx_384, gx_385, gx_386, gx_387, gx_388, gx_389, gx_390, gx_391, gx_392, gx_393, gx_394, gx_395, gx_396, gx_397, gx_398, gx_399, gx_400, gx_401, gx_402, gx_403, gn_368, gn_369, gn_370, gn_371, gn_372, gn_373, gn_374, gn_375, gn_376, gn_377, gn_378, gn_379, gn_380, gn_381, gn_382, gn_383, gn_384, gn_385, gn_386, gn_387, gn_388, gn_389, gn_390, gn_391, gn_392, gn_393, gn_394, gn_395, gn_396, gn_397, gn_398, gn_399, gn_400, gn_401, gn_402, gn_403, lm_1 g4, lm_14 g4, lm_15 g4, lm_16 g4, lm_17 g4, lm_18 g4, lm_19 g4, lm_20 g4, lm_21 g4, lm_22 g4, lm_23 g4, lm_24 g4, lm_25 g4, lm_26 g4, lm_27 g4, lm_28 g4, lm_29 g4, lm_30 g4, lm_31 g4, lm_32 g4, lm_33 g4, lm_34 g4, lm_35 g4, lm_36 g4, lm_37 g4, lm_39 g4, lm_40 g4, lm_42 g4, lm_43 g4, lm_44 g4, lm_45 g4, lm_47 g4, lm_48 g4, lm_49 g4, lm_50 g4, lm_51 g4, v2]
    rw [pl_i (by omega)]
    have J5 := J4.row (a := 389) (j := 8 + n) (v := v) (by decide)
    have r5 := ((r2.z y3).z y4).up (a := 389) (i := 8 + n) (v := v)
    have w5 := ((w2.z y3).z y4).up (a := 389) (i := 8 + n) (v := v) (by decide) (by rw [show bs 389 = 8 by decide]; omega)
    obtain ⟨F4, G4, u, d1, d2, z6, y6, hd⟩ := j_pass J5 nm_due is_due
    simp only [pl_l, pl_b, pl_iT, pl_t, pl_f, d1, d2]
    rcases hd.symm with ⟨rfl, J6⟩ | ⟨rfl, J6⟩
    · rw [if_neg (show ¬ (0 : Int) ≠ 0 by decide)]
      simp only [pl_l, pl_b, pl_iT, pl_t, pl_f]
      rw [pl_i (by decide), rL_0]
      exact jL.x (((z1.tr z3).tr z4).tr z6).w (w5.z y6) J6
    rw [if_pos (show (1 : Int) ≠ 0 by decide), if_neg (show ¬ (1 : Int) = 0 by decide)]
    obtain ⟨F5, G5, d, r, e1, e2, z7, y7, -, hr⟩ := j_num J6 (lo := 0) (hi := 999) (by decide)
    simp only [pl_l, pl_b, pl_iT, pl_t, pl_f, e1, e2]
    rcases hr.symm with ⟨rfl, rfl, J7⟩ | ⟨rfl, x1, x2, J7⟩
    · rw [if_pos (show (-1 : Int) = -1 by decide), if_neg (show ¬ (0 : Int) ≠ 0 by decide)]
      simp only [pl_l, pl_b, pl_iT, pl_t, pl_f]
      rw [pl_i (by decide), rL_0]
      exact jL.x ((((z1.tr z3).tr z4).tr z6).tr z7).w ((w5.z y6).z y7) J7
    have g7 := J7.2.1
    have f7 := J7.1
    have h137 := J7.2.2.2.2.2.2.2
    rw [if_neg (show ¬ d = -1 by omega), if_pos (show (1 : Int) ≠ 0 by decide)]
    have gu : pd_Ly (pd_up G5 390 (8 + n) d) := g7.up (rc_row (by decide))
    have u13 : pd_up G5 390 (8 + n) d 367 13 = 1 := by rw [pu_a (by decide)]; exact h137
    have u373 : pd_up G5 390 (8 + n) d 373 1 = n := by
      rw [pu_a (by decide), y7.1 373 (by decide), y6.1 373 (by decide), pu_a (by decide), y4.1 373 (by decide), y3.1 373 (by decide), pu_a (by decide)]
      exact q373
    simp only [pl_l, pl_b, pl_iT, pl_t, pl_f, gx_367, gx_368, gx_369, gx_370, gx_371, gx_372, gx_373, gx_374, gx_375, gx_376, gx_377, gx_378, gx_379, gx_380, gx_381, gx_382, gx_383, gx_384, gx_385, gx_386, gx_387, gx_388, gx_389, gx_390, gx_391, gx_392, gx_393, gx_394, gx_395, gx_396, gx_397, gx_398, gx_399, gx_400, gx_401, gx_402, gx_403, gn_368, gn_369, gn_370, gn_371, gn_372, gn_373, gn_374, gn_375, gn_376, gn_377, gn_378, gn_379, gn_380, gn_381, gn_382, gn_383, gn_384, gn_385, gn_386, gn_387, gn_388, gn_389, gn_390, gn_391, gn_392, gn_393, gn_394, gn_395, gn_396, gn_397, gn_398, gn_399, gn_400, gn_401, gn_402, gn_403, lm_1 g7, lm_14 g7, lm_15 g7, lm_16 g7, lm_17 g7, lm_18 g7, lm_19 g7, lm_20 g7, lm_21 g7, lm_22 g7, lm_23 g7, lm_24 g7, lm_25 g7, lm_26 g7, lm_27 g7, lm_28 g7, lm_29 g7, lm_30 g7, lm_31 g7, lm_32 g7, lm_33 g7, lm_34 g7, lm_35 g7, lm_36 g7, lm_37 g7, lm_39 g7, lm_40 g7, lm_42 g7, lm_43 g7, lm_44 g7, lm_45 g7, lm_47 g7, lm_48 g7, lm_49 g7, lm_50 g7, lm_51 g7, x2, lm_1 gu, lm_14 gu, lm_15 gu, lm_16 gu, lm_17 gu, lm_18 gu, lm_19 gu, lm_20 gu, lm_21 gu, lm_22 gu, lm_23 gu, lm_24 gu, lm_25 gu, lm_26 gu, lm_27 gu, lm_28 gu, lm_29 gu, lm_30 gu, lm_31 gu, lm_32 gu, lm_33 gu, lm_34 gu, lm_35 gu, lm_36 gu, lm_37 gu, lm_39 gu, lm_40 gu, lm_42 gu, lm_43 gu, lm_44 gu, lm_45 gu, lm_47 gu, lm_48 gu, lm_49 gu, lm_50 gu, lm_51 gu, u13, u373]
    rw [pl_i (by omega), pl_i (by omega), pl_w (by omega)]
    simp only [pl_l, pl_b, pl_iT, pl_t, pl_f]
    rw [pl_i (by decide), rL_1]
    have J8 := (J7.row (a := 390) (j := 8 + n) (v := d) (by decide)).row (a := 373) (j := 1) (v := n + 1) (by decide)
    have r8 := (((r5.z y6).z y7).up (a := 390) (i := 8 + n) (v := d)).up (a := 373) (i := 1) (v := n + 1)
    have w8 := (((w5.z y6).z y7).up (a := 390) (i := 8 + n) (v := d) (by decide) (by rw [show bs 390 = 8 by decide]; omega)).up (a := 373) (i := 1) (v := n + 1) (by decide) (by decide)
    obtain ⟨F6, G6, u, k1, k2, z9, y9, he⟩ := j_end J8
    simp only [pl_l, pl_b, pl_iT, pl_t, pl_f, k1, k2]
    have zz := ((((z1.tr z3).tr z4).tr z6).tr z7).tr z9
    rcases he.symm with ⟨rfl, J9⟩ | ⟨rfl, J9⟩
    · rw [if_neg (show ¬ (0 : Int) ≠ 0 by decide)]
      exact jL.x zz.w (w8.z y9) J9
    have f9 := J9.1
    have e5 := J9.2.2.2.1
    have l5 : F6 b 5 = b + 6 := (ly_b f9 h3).2.2.2.2.2.1
    obtain ⟨lo, so⟩ := fy_o f9 h3 (i := n) (by omega) (by omega)
    have q13 : F6 b 13 = n := by rw [zz.1 b (by omega) (by omega)]; exact o1
    obtain ⟨tl, gl⟩ := c_dated f9 (c := b + 100 + n) (v0 := p) (v1 := v) (v2 := d) (v3 := 999) so
    rw [if_pos (show (1 : Int) ≠ 0 by decide)]
    simp only [pl_l, pl_b, pl_iT, pl_t, pl_f, gx_1, gx_2, gx_3, gx_4, gx_113, gx_114, gx_115, gx_116, gx_212, gx_213, gx_224, gn_4, gn_114, gn_115, gn_116, gn_213, gn_224, lx_1_0 f9, lx_1_1 f9, lx_1_2 f9, lx_1_3 f9, lx_1_4 f9, lx_1_5 f9, lx_1_6 f9, lx_1_7 f9, lx_2_0 f9, lx_3_0 f9, lx_113_0 f9, lx_113_1 f9, lx_113_2 f9, lx_212_0 f9, lx_212_1 f9, e5, pl_ob s0, l5, pl_ib s6, q13, lo, pl_ob so, tl]
    rw [pl_i (by omega)]
    generalize hH : pd_up (pd_up (pd_up (pd_up F6 (b + 100 + n) 0 p) (b + 100 + n) 1 v) (b + 100 + n) 2 d) (b + 100 + n) 3 999 = H at gl
    obtain ⟨q0, q1, q2, q3, q4⟩ := d_4 hH.symm
    have hb2 : H 2 1 = b := by rw [q4 2 (by omega)]; exact e5
    have hb13 : H b 13 = n := by rw [q4 b (by omega)]; exact q13
    simp only [pl_l, pl_b, pl_iT, pl_t, pl_f, hb2, pl_ob s0, hb13]
    rw [pl_w (by omega)]
    have gf : pd_Ly (pd_up H b 13 (n + 1)) := gl.up (pl_rc4 s0 (by decide))
    have ff : ∀ a, a ≠ 2 → a ≠ 3 → a ≠ b → a ≠ b + 100 + n → pd_up H b 13 (n + 1) a = F a := fun a x y z w => by rw [pu_a z, q4 a w]; exact zz.1 a x y
    have rb := (r8.z y9).bn
    rw [bn_up, bn_up, bn_up, bn_up, show bs 388 = 8 by decide, show bs 389 = 8 by decide, show bs 390 = 8 by decide, show bs 373 = 1 by decide, show 8 + n - 8 = n by omega, show (1 : Int) - 1 = 0 by decide] at rb
    have wc : wC b F (pd_up H b 13 (n + 1)) := by
      rw [← hH]
      exact ((((zz.w.up b5.1 (by omega)).up b5.1 (by omega)).up b5.1 (by omega)).up b5.1 (by omega)).up b5.1 (by omega)
    refine ⟨_, _, 1, rfl, rfl, wc, w8.z y9, Or.inl ⟨rfl, J9.c gf (fun a x => by rw [pu_a (by omega), q4 a (by omega)]), K.eqv (F := pd_up H b 13 (n + 1)) ?_ rb (fun _ _ _ => rfl), (kN_e rb).trans ?_⟩⟩
    · refine hK.lo (fun a x y => ff a (by omega) (by omega) (by omega) (by omega)) (fun j x => by rw [pu_r, if_neg x, q4 b (by omega), zz.1 b (by omega) (by omega)]) (fun a x y z w => by rw [pu_a x, pu_a w, pu_a z, pu_a y]) ⟨?_, ?_, fun l x y => ?_⟩
      · rw [pu_r, if_pos rfl, pu_r, if_pos rfl]
      · rw [pu_r, if_pos rfl]; omega
      · rw [pu_r, if_pos rfl] at y
        rw [pu_a (show (388 : Int) ≠ 373 by decide), pu_a (show (388 : Int) ≠ 390 by decide), pu_a (show (388 : Int) ≠ 389 by decide), pu_a (show (389 : Int) ≠ 373 by decide), pu_a (show (389 : Int) ≠ 390 by decide), pu_a (show (390 : Int) ≠ 373 by decide), pu_a (show (369 : Int) ≠ 373 by decide), pu_a (show (369 : Int) ≠ 390 by decide), pu_a (show (369 : Int) ≠ 389 by decide), pu_a (show (369 : Int) ≠ 388 by decide), pu_r, pu_r, pu_r, pu_a (show (389 : Int) ≠ 388 by decide), pu_a (show (390 : Int) ≠ 389 by decide), pu_a (show (390 : Int) ≠ 388 by decide)]
        by_cases e : l = n
        · subst e
          rw [if_pos rfl, if_pos rfl, if_pos rfl, pu_a (by omega)]
          exact ⟨⟨q0, q1, q2, q3⟩, hp, v1⟩
        · rw [if_neg e, if_neg e, if_neg e, ff _ (by omega) (by omega) (by omega) (by omega)]
          exact o3 l x (by omega)
    · unfold kN
      rw [pu_a (show (369 : Int) ≠ 373 by decide), pu_a (show (370 : Int) ≠ 373 by decide), pu_a (show (371 : Int) ≠ 373 by decide), pu_a (show (372 : Int) ≠ 373 by decide), pu_a (show (392 : Int) ≠ 373 by decide), pu_r, if_pos rfl]
      rw [pu_a (show (369 : Int) ≠ 390 by decide), pu_a (show (370 : Int) ≠ 390 by decide), pu_a (show (371 : Int) ≠ 390 by decide), pu_a (show (372 : Int) ≠ 390 by decide), pu_a (show (392 : Int) ≠ 390 by decide)]
      rw [pu_a (show (369 : Int) ≠ 389 by decide), pu_a (show (370 : Int) ≠ 389 by decide), pu_a (show (371 : Int) ≠ 389 by decide), pu_a (show (372 : Int) ≠ 389 by decide), pu_a (show (392 : Int) ≠ 389 by decide)]
      rw [pu_a (show (369 : Int) ≠ 388 by decide), pu_a (show (370 : Int) ≠ 388 by decide), pu_a (show (371 : Int) ≠ 388 by decide), pu_a (show (372 : Int) ≠ 388 by decide), pu_a (show (392 : Int) ≠ 388 by decide)]
      rw [hn]
      omega
  · rw [if_neg (by rw [o1]; exact c)]
    refine j_full h (fun F' e => ?_) (fun G' e => ?_)
    · simp only [pl_l, pl_b, pl_iT, pl_t, pl_f, e]
      rw [pl_i (by decide)]
    · rw [n0 (by omega) G' e, rL_0]
/-- a high told -/
theorem j_high (h : J b F G) (hK : K b F (bn G)) (h4 : F 3 4 = 1) : jL b F G (pfX6_readHigh pd_SH 5000 F 2) (rL (pfX12_named pd_SH 5000 G 367 3)) := by
  obtain ⟨h1, h2, h3, h5, -⟩ := id h
  have b5 := aB_5 h3
  obtain ⟨s0, -, -, -, -, s5, -⟩ := sh_b h3
  obtain ⟨o1, o2, o3⟩ := hK.2.2.1
  obtain ⟨n0, n1⟩ := r_named3 h
  unfold pfX6_readHigh
  simp only [pl_l, pl_b, pl_iT, pl_t, pl_f, gx_1, gx_2, gx_3, gx_4, gx_113, gx_114, gx_115, gx_116, gx_212, gx_213, gx_224, gn_4, gn_114, gn_115, gn_116, gn_213, gn_224, lx_1_0 h1, lx_1_1 h1, lx_1_2 h1, lx_1_3 h1, lx_1_4 h1, lx_1_5 h1, lx_1_6 h1, lx_1_7 h1, lx_2_0 h1, lx_3_0 h1, lx_113_0 h1, lx_113_1 h1, lx_113_2 h1, lx_212_0 h1, lx_212_1 h1, h5, pl_ob s0]
  by_cases c : bn G 372 0 < 6
  · rw [if_pos (by rw [o1]; exact c), n1 c]
    obtain ⟨F1, G1, a1, a2, J1, z1, y1, -⟩ := h.adv (by omega)
    have M1 := hK.2.2.2.2.2.z b5.1 z1 y1
    simp only [pl_l, pl_b, pl_iT, pl_t, pl_f, a1, a2]
    rcases j_toldA J1 M1 with ⟨F2, G2, t1, t2, t3, t4, t5⟩ | ⟨p, hp, k4, t1, t2⟩
    · simp only [pl_l, pl_b, pl_iT, pl_t, pl_f, t1, t2]
      rw [pl_i (by decide), rL_0, if_neg (show ¬ (-1 : Int) ≠ -1 by decide)]
      exact jL.x (z1.tr t3).w (((wR.rf G).z y1).z t4) t5
    have q371 : bn G1 371 0 = bn G 371 0 := by rw [bn_row (y1.1 371 (by decide))]
    have q372 : G1 372 1 = bn G 372 0 := by rw [y1.1 372 (by decide), bn_372]
    rw [q371] at hp
    generalize hn : bn G 372 0 = n at c o1 o2 o3 q372
    have g1 := J1.2.1
    have h13 := J1.2.2.2.2.2.2.2
    simp only [t1, t2]
    unfold pfX12_highLine_b31
    have m := j_must J1 (v := 1) (k := 3) (by decide)
    simp only [pl_l, pl_b, pl_iT, pl_t, pl_f, gx_367, gx_368, gx_369, gx_370, gx_371, gx_372, gx_373, gx_374, gx_375, gx_376, gx_377, gx_378, gx_379, gx_380, gx_381, gx_382, gx_383, gx_384, gx_385, gx_386, gx_387, gx_388, gx_389, gx_390, gx_391, gx_392, gx_393, gx_394, gx_395, gx_396, gx_397, gx_398, gx_399, gx_400, gx_401, gx_402, gx_403, gn_368, gn_369, gn_370, gn_371, gn_372, gn_373, gn_374, gn_375, gn_376, gn_377, gn_378, gn_379, gn_380, gn_381, gn_382, gn_383, gn_384, gn_385, gn_386, gn_387, gn_388, gn_389, gn_390, gn_391, gn_392, gn_393, gn_394, gn_395, gn_396, gn_397, gn_398, gn_399, gn_400, gn_401, gn_402, gn_403, m, lm_1 g1, lm_14 g1, lm_15 g1, lm_16 g1, lm_17 g1, lm_18 g1, lm_19 g1, lm_20 g1, lm_21 g1, lm_22 g1, lm_23 g1, lm_24 g1, lm_25 g1, lm_26 g1, lm_27 g1, lm_28 g1, lm_29 g1, lm_30 g1, lm_31 g1, lm_32 g1, lm_33 g1, lm_34 g1, lm_35 g1, lm_36 g1, lm_37 g1, lm_39 g1, lm_40 g1, lm_42 g1, lm_43 g1, lm_44 g1, lm_45 g1, lm_47 g1, lm_48 g1, lm_49 g1, lm_50 g1, lm_51 g1, h13, q372]
    rw [if_pos (show (1 : Int) ≠ 0 by decide), Int.mul_one, pl_w (x := 6) (by decide), pl_w (x := 6 + n) (by omega), pl_i (by omega), pl_i (by omega)]
    have J2 := J1.row (a := 384) (j := 6 + n) (v := p) (by decide)
    have r2 : rR (pd_up G1 384 (6 + n) p) (pd_up G 384 (6 + n) p) := (show rR G1 G from y1.1).up
    have w2 : wR G (pd_up G1 384 (6 + n) p) := ((wR.rf G).z y1).up (by decide) (by rw [show bs 384 = 6 by decide]; omega)
    obtain ⟨F2, G2, b1, b2, J3, z3, y3, -⟩ := J2.adv (by omega)
    obtain ⟨F3, G3, v, r, c1, c2, z4, y4, -, hr⟩ := j_num J3 (lo := 0) (hi := 9999999) (by decide)
    simp only [pl_l, pl_b, pl_iT, pl_t, pl_f, b1, b2, c1, c2]
    rw [if_pos (show p ≠ -1 by omega)]
    rcases hr.symm with ⟨rfl, rfl, J4⟩ | ⟨rfl, v1, v2, J4⟩
    · rw [if_pos (show (-1 : Int) = -1 by decide), if_neg (show ¬ (0 : Int) ≠ 0 by decide)]
      simp only [pl_l, pl_b, pl_iT, pl_t, pl_f]
      rw [pl_i (by decide), rL_0]
      exact jL.x ((z1.tr z3).tr z4).w ((w2.z y3).z y4) J4
    have g4 := J4.2.1
    rw [if_neg (show ¬ v = -1 by omega), if_pos (show (1 : Int) ≠ 0 by decide)]
    simp only [pl_l, pl_b, pl_iT, pl_t, pl_f, gx_367, gx_368, gx_369, gx_370, gx_371, gx_372, gx_373, gx_374, gx_375, gx_376, gx_377, gx_378, gx_379, gx_380, gx_381, gx_382, gx_383, gx_384, gx_385, gx_386, gx_387, gx_388, gx_389, gx_390, gx_391, gx_392, gx_393, gx_394, gx_395, gx_396, gx_397, gx_398, gx_399, gx_400, gx_401, gx_402, gx_403, gn_368, gn_369, gn_370, gn_371, gn_372, gn_373, gn_374, gn_375, gn_376, gn_377, gn_378, gn_379, gn_380, gn_381, gn_382, gn_383, gn_384, gn_385, gn_386, gn_387, gn_388, gn_389, gn_390, gn_391, gn_392, gn_393, gn_394, gn_395, gn_396, gn_397, gn_398, gn_399, gn_400, gn_401, gn_402, gn_403, lm_1 g4, lm_14 g4, lm_15 g4, lm_16 g4, lm_17 g4, lm_18 g4, lm_19 g4, lm_20 g4, lm_21 g4, lm_22 g4, lm_23 g4, lm_24 g4, lm_25 g4, lm_26 g4, lm_27 g4, lm_28 g4, lm_29 g4, lm_30 g4, lm_31 g4, lm_32 g4, lm_33 g4, lm_34 g4, lm_35 g4, lm_36 g4, lm_37 g4, lm_39 g4, lm_40 g4, lm_42 g4, lm_43 g4, lm_44 g4, lm_45 g4, lm_47 g4, lm_48 g4, lm_49 g4, lm_50 g4, lm_51 g4, v2]
    rw [pl_i (by omega)]
    have J5 := J4.row (a := 385) (j := 6 + n) (v := v) (by decide)
    have r5 := ((r2.z y3).z y4).up (a := 385) (i := 6 + n) (v := v)
    have w5 := ((w2.z y3).z y4).up (a := 385) (i := 6 + n) (v := v) (by decide) (by rw [show bs 385 = 6 by decide]; omega)
    obtain ⟨F4, G4, u, d1, d2, z6, y6, hd⟩ := j_pass J5 nm_from is_from
    simp only [pl_l, pl_b, pl_iT, pl_t, pl_f, d1, d2]
    rcases hd.symm with ⟨rfl, J6⟩ | ⟨rfl, J6⟩
    · rw [if_neg (show ¬ (0 : Int) ≠ 0 by decide)]
      simp only [pl_l, pl_b, pl_iT, pl_t, pl_f]
      rw [pl_i (by decide), rL_0]
      exact jL.x (((z1.tr z3).tr z4).tr z6).w (w5.z y6) J6
    rw [if_pos (show (1 : Int) ≠ 0 by decide), if_neg (show ¬ (1 : Int) = 0 by decide)]
    obtain ⟨F5, G5, d, r, e1, e2, z7, y7, -, hr⟩ := j_num J6 (lo := 0) (hi := 999) (by decide)
    simp only [pl_l, pl_b, pl_iT, pl_t, pl_f, e1, e2]
    rcases hr.symm with ⟨rfl, rfl, J7⟩ | ⟨rfl, x1, x2, J7⟩
    · rw [if_pos (show (-1 : Int) = -1 by decide), if_neg (show ¬ (0 : Int) ≠ 0 by decide)]
      simp only [pl_l, pl_b, pl_iT, pl_t, pl_f]
      rw [pl_i (by decide), rL_0]
      exact jL.x ((((z1.tr z3).tr z4).tr z6).tr z7).w ((w5.z y6).z y7) J7
    have g7 := J7.2.1
    rw [if_neg (show ¬ d = -1 by omega), if_pos (show (1 : Int) ≠ 0 by decide)]
    simp only [pl_l, pl_b, pl_iT, pl_t, pl_f, gx_367, gx_368, gx_369, gx_370, gx_371, gx_372, gx_373, gx_374, gx_375, gx_376, gx_377, gx_378, gx_379, gx_380, gx_381, gx_382, gx_383, gx_384, gx_385, gx_386, gx_387, gx_388, gx_389, gx_390, gx_391, gx_392, gx_393, gx_394, gx_395, gx_396, gx_397, gx_398, gx_399, gx_400, gx_401, gx_402, gx_403, gn_368, gn_369, gn_370, gn_371, gn_372, gn_373, gn_374, gn_375, gn_376, gn_377, gn_378, gn_379, gn_380, gn_381, gn_382, gn_383, gn_384, gn_385, gn_386, gn_387, gn_388, gn_389, gn_390, gn_391, gn_392, gn_393, gn_394, gn_395, gn_396, gn_397, gn_398, gn_399, gn_400, gn_401, gn_402, gn_403, lm_1 g7, lm_14 g7, lm_15 g7, lm_16 g7, lm_17 g7, lm_18 g7, lm_19 g7, lm_20 g7, lm_21 g7, lm_22 g7, lm_23 g7, lm_24 g7, lm_25 g7, lm_26 g7, lm_27 g7, lm_28 g7, lm_29 g7, lm_30 g7, lm_31 g7, lm_32 g7, lm_33 g7, lm_34 g7, lm_35 g7, lm_36 g7, lm_37 g7, lm_39 g7, lm_40 g7, lm_42 g7, lm_43 g7, lm_44 g7, lm_45 g7, lm_47 g7, lm_48 g7, lm_49 g7, lm_50 g7, lm_51 g7, x2]
    rw [pl_i (by omega)]
    have J8 := J7.row (a := 386) (j := 6 + n) (v := d) (by decide)
    have r8 := ((r5.z y6).z y7).up (a := 386) (i := 6 + n) (v := d)
    have w8 := ((w5.z y6).z y7).up (a := 386) (i := 6 + n) (v := d) (by decide) (by rw [show bs 386 = 6 by decide]; omega)
    obtain ⟨F6, G6, u, k1, k2, z9, y9, he⟩ := j_pass J8 nm_to is_to
    simp only [pl_l, pl_b, pl_iT, pl_t, pl_f, k1, k2]
    have zz := ((((z1.tr z3).tr z4).tr z6).tr z7).tr z9
    rcases he.symm with ⟨rfl, J9⟩ | ⟨rfl, J9⟩
    · rw [if_neg (show ¬ (0 : Int) ≠ 0 by decide)]
      simp only [pl_l, pl_b, pl_iT, pl_t, pl_f]
      rw [pl_i (by decide), rL_0]
      exact jL.x zz.w (w8.z y9) J9
    have g9 := J9.2.1
    rw [if_pos (show (1 : Int) ≠ 0 by decide), if_neg (show ¬ (1 : Int) = 0 by decide)]
    have q386 : G6 386 (6 + n) = d := by rw [y9.1 386 (by decide), pu_r, if_pos rfl]
    simp only [pl_l, pl_b, pl_iT, pl_t, pl_f, gx_367, gx_368, gx_369, gx_370, gx_371, gx_372, gx_373, gx_374, gx_375, gx_376, gx_377, gx_378, gx_379, gx_380, gx_381, gx_382, gx_383, gx_384, gx_385, gx_386, gx_387, gx_388, gx_389, gx_390, gx_391, gx_392, gx_393, gx_394, gx_395, gx_396, gx_397, gx_398, gx_399, gx_400, gx_401, gx_402, gx_403, gn_368, gn_369, gn_370, gn_371, gn_372, gn_373, gn_374, gn_375, gn_376, gn_377, gn_378, gn_379, gn_380, gn_381, gn_382, gn_383, gn_384, gn_385, gn_386, gn_387, gn_388, gn_389, gn_390, gn_391, gn_392, gn_393, gn_394, gn_395, gn_396, gn_397, gn_398, gn_399, gn_400, gn_401, gn_402, gn_403, lm_1 g9, lm_14 g9, lm_15 g9, lm_16 g9, lm_17 g9, lm_18 g9, lm_19 g9, lm_20 g9, lm_21 g9, lm_22 g9, lm_23 g9, lm_24 g9, lm_25 g9, lm_26 g9, lm_27 g9, lm_28 g9, lm_29 g9, lm_30 g9, lm_31 g9, lm_32 g9, lm_33 g9, lm_34 g9, lm_35 g9, lm_36 g9, lm_37 g9, lm_39 g9, lm_40 g9, lm_42 g9, lm_43 g9, lm_44 g9, lm_45 g9, lm_47 g9, lm_48 g9, lm_49 g9, lm_50 g9, lm_51 g9, q386]
    rw [pl_i (by omega)]
    obtain ⟨F7, G7, e, r, m1, m2, z10, y10, -, hr⟩ := j_num J9 (lo := d) (hi := 999) x1.1
    simp only [pl_l, pl_b, pl_iT, pl_t, pl_f, m1, m2]
    rcases hr.symm with ⟨rfl, rfl, J10⟩ | ⟨rfl, i1, i2, J10⟩
    · rw [if_pos (show (-1 : Int) = -1 by decide), if_neg (show ¬ (0 : Int) ≠ 0 by decide)]
      simp only [pl_l, pl_b, pl_iT, pl_t, pl_f]
      rw [pl_i (by decide), rL_0]
      exact jL.x (zz.tr z10).w ((w8.z y9).z y10) J10
    have g10 := J10.2.1
    have h130 := J10.2.2.2.2.2.2.2
    rw [if_neg (show ¬ e = -1 by omega), if_pos (show (1 : Int) ≠ 0 by decide)]
    have gu : pd_Ly (pd_up G7 387 (6 + n) e) := g10.up (rc_row (by decide))
    have u13 : pd_up G7 387 (6 + n) e 367 13 = 1 := by rw [pu_a (by decide)]; exact h130
    have u372 : pd_up G7 387 (6 + n) e 372 1 = n := by
      rw [pu_a (by decide), y10.1 372 (by decide), y9.1 372 (by decide), pu_a (by decide), y7.1 372 (by decide), y6.1 372 (by decide), pu_a (by decide), y4.1 372 (by decide), y3.1 372 (by decide), pu_a (by decide)]
      exact q372
    simp only [pl_l, pl_b, pl_iT, pl_t, pl_f, gx_367, gx_368, gx_369, gx_370, gx_371, gx_372, gx_373, gx_374, gx_375, gx_376, gx_377, gx_378, gx_379, gx_380, gx_381, gx_382, gx_383, gx_384, gx_385, gx_386, gx_387, gx_388, gx_389, gx_390, gx_391, gx_392, gx_393, gx_394, gx_395, gx_396, gx_397, gx_398, gx_399, gx_400, gx_401, gx_402, gx_403, gn_368, gn_369, gn_370, gn_371, gn_372, gn_373, gn_374, gn_375, gn_376, gn_377, gn_378, gn_379, gn_380, gn_381, gn_382, gn_383, gn_384, gn_385, gn_386, gn_387, gn_388, gn_389, gn_390, gn_391, gn_392, gn_393, gn_394, gn_395, gn_396, gn_397, gn_398, gn_399, gn_400, gn_401, gn_402, gn_403, lm_1 g10, lm_14 g10, lm_15 g10, lm_16 g10, lm_17 g10, lm_18 g10, lm_19 g10, lm_20 g10, lm_21 g10, lm_22 g10, lm_23 g10, lm_24 g10, lm_25 g10, lm_26 g10, lm_27 g10, lm_28 g10, lm_29 g10, lm_30 g10, lm_31 g10, lm_32 g10, lm_33 g10, lm_34 g10, lm_35 g10, lm_36 g10, lm_37 g10, lm_39 g10, lm_40 g10, lm_42 g10, lm_43 g10, lm_44 g10, lm_45 g10, lm_47 g10, lm_48 g10, lm_49 g10, lm_50 g10, lm_51 g10, i2, lm_1 gu, lm_14 gu, lm_15 gu, lm_16 gu, lm_17 gu, lm_18 gu, lm_19 gu, lm_20 gu, lm_21 gu, lm_22 gu, lm_23 gu, lm_24 gu, lm_25 gu, lm_26 gu, lm_27 gu, lm_28 gu, lm_29 gu, lm_30 gu, lm_31 gu, lm_32 gu, lm_33 gu, lm_34 gu, lm_35 gu, lm_36 gu, lm_37 gu, lm_39 gu, lm_40 gu, lm_42 gu, lm_43 gu, lm_44 gu, lm_45 gu, lm_47 gu, lm_48 gu, lm_49 gu, lm_50 gu, lm_51 gu, u13, u372]
    rw [pl_i (by omega), pl_i (by omega), pl_w (by omega)]
    simp only [pl_l, pl_b, pl_iT, pl_t, pl_f]
    rw [pl_i (by decide), rL_1]
    have J11 := (J10.row (a := 387) (j := 6 + n) (v := e) (by decide)).row (a := 372) (j := 1) (v := n + 1) (by decide)
    have r11 := (((r8.z y9).z y10).up (a := 387) (i := 6 + n) (v := e)).up (a := 372) (i := 1) (v := n + 1)
    have w11 := (((w8.z y9).z y10).up (a := 387) (i := 6 + n) (v := e) (by decide) (by rw [show bs 387 = 6 by decide]; omega)).up (a := 372) (i := 1) (v := n + 1) (by decide) (by decide)
    obtain ⟨F8, G8, u, k1, k2, z12, y12, he⟩ := j_end J11
    simp only [pl_l, pl_b, pl_iT, pl_t, pl_f, k1, k2]
    have zz := (zz.tr z10).tr z12
    rcases he.symm with ⟨rfl, J12⟩ | ⟨rfl, J12⟩
    · rw [if_neg (show ¬ (0 : Int) ≠ 0 by decide)]
      exact jL.x zz.w (w11.z y12) J12
    have f9 := J12.1
    have e5 := J12.2.2.2.1
    have l5 : F8 b 4 = b + 5 := (ly_b f9 h3).2.2.2.2.1
    obtain ⟨lo, so⟩ := fy_h f9 h3 (i := n) (by omega) (by omega)
    have q12 : F8 b 12 = n := by rw [zz.1 b (by omega) (by omega)]; exact o1
    obtain ⟨tl, gl⟩ := c_dated f9 (c := b + 94 + n) (v0 := p) (v1 := v) (v2 := d) (v3 := e) so
    rw [if_pos (show (1 : Int) ≠ 0 by decide)]
    simp only [pl_l, pl_b, pl_iT, pl_t, pl_f, gx_1, gx_2, gx_3, gx_4, gx_113, gx_114, gx_115, gx_116, gx_212, gx_213, gx_224, gn_4, gn_114, gn_115, gn_116, gn_213, gn_224, lx_1_0 f9, lx_1_1 f9, lx_1_2 f9, lx_1_3 f9, lx_1_4 f9, lx_1_5 f9, lx_1_6 f9, lx_1_7 f9, lx_2_0 f9, lx_3_0 f9, lx_113_0 f9, lx_113_1 f9, lx_113_2 f9, lx_212_0 f9, lx_212_1 f9, e5, pl_ob s0, l5, pl_ib s5, q12, lo, pl_ob so, tl]
    rw [pl_i (by omega)]
    generalize hH : pd_up (pd_up (pd_up (pd_up F8 (b + 94 + n) 0 p) (b + 94 + n) 1 v) (b + 94 + n) 2 d) (b + 94 + n) 3 e = H at gl
    obtain ⟨q0, q1, q2, q3, q4⟩ := d_4 hH.symm
    have hb2 : H 2 1 = b := by rw [q4 2 (by omega)]; exact e5
    have hb12 : H b 12 = n := by rw [q4 b (by omega)]; exact q12
    simp only [pl_l, pl_b, pl_iT, pl_t, pl_f, hb2, pl_ob s0, hb12]
    rw [pl_w (by omega)]
    have gf : pd_Ly (pd_up H b 12 (n + 1)) := gl.up (pl_rc4 s0 (by decide))
    have ff : ∀ a, a ≠ 2 → a ≠ 3 → a ≠ b → a ≠ b + 94 + n → pd_up H b 12 (n + 1) a = F a := fun a x y z w => by rw [pu_a z, q4 a w]; exact zz.1 a x y
    have rb := (r11.z y12).bn
    rw [bn_up, bn_up, bn_up, bn_up, bn_up, show bs 384 = 6 by decide, show bs 385 = 6 by decide, show bs 386 = 6 by decide, show bs 387 = 6 by decide, show bs 372 = 1 by decide, show 6 + n - 6 = n by omega, show (1 : Int) - 1 = 0 by decide] at rb
    have wc : wC b F (pd_up H b 12 (n + 1)) := by
      rw [← hH]
      exact ((((zz.w.up b5.1 (by omega)).up b5.1 (by omega)).up b5.1 (by omega)).up b5.1 (by omega)).up b5.1 (by omega)
    refine ⟨_, _, 1, rfl, rfl, wc, w11.z y12, Or.inl ⟨rfl, J12.c gf (fun a x => by rw [pu_a (by omega), q4 a (by omega)]), K.eqv (F := pd_up H b 12 (n + 1)) ?_ rb (fun _ _ _ => rfl), (kN_e rb).trans ?_⟩⟩
    · refine hK.hi (fun a x y w => ff a (by omega) (by omega) (by omega) (by omega)) (fun j x => by rw [pu_r, if_neg x, q4 b (by omega), zz.1 b (by omega) (by omega)]) (fun a x y z w q => by rw [pu_a x, pu_a q, pu_a w, pu_a z, pu_a y]) ⟨?_, ?_, fun l x y => ?_⟩
      · rw [pu_r, if_pos rfl, pu_r, if_pos rfl]
      · rw [pu_r, if_pos rfl]; omega
      · rw [pu_r, if_pos rfl] at y
        rw [pu_a (show (384 : Int) ≠ 372 by decide), pu_a (show (384 : Int) ≠ 387 by decide), pu_a (show (384 : Int) ≠ 386 by decide), pu_a (show (384 : Int) ≠ 385 by decide), pu_a (show (385 : Int) ≠ 372 by decide), pu_a (show (385 : Int) ≠ 387 by decide), pu_a (show (385 : Int) ≠ 386 by decide), pu_a (show (386 : Int) ≠ 372 by decide), pu_a (show (386 : Int) ≠ 387 by decide), pu_a (show (387 : Int) ≠ 372 by decide), pu_a (show (371 : Int) ≠ 372 by decide), pu_a (show (371 : Int) ≠ 387 by decide), pu_a (show (371 : Int) ≠ 386 by decide), pu_a (show (371 : Int) ≠ 385 by decide), pu_a (show (371 : Int) ≠ 384 by decide), pu_r, pu_r, pu_r, pu_r, pu_a (show (385 : Int) ≠ 384 by decide), pu_a (show (386 : Int) ≠ 385 by decide), pu_a (show (386 : Int) ≠ 384 by decide), pu_a (show (387 : Int) ≠ 386 by decide), pu_a (show (387 : Int) ≠ 385 by decide), pu_a (show (387 : Int) ≠ 384 by decide)]
        by_cases z : l = n
        · subst z
          rw [if_pos rfl, if_pos rfl, if_pos rfl, if_pos rfl, pu_a (by omega)]
          exact ⟨⟨q0, q1, q2, q3⟩, hp, v1, x1, by omega, i1.2⟩
        · rw [if_neg z, if_neg z, if_neg z, if_neg z, ff _ (by omega) (by omega) (by omega) (by omega)]
          exact o3 l x (by omega)
    · unfold kN
      rw [pu_a (show (369 : Int) ≠ 372 by decide), pu_a (show (370 : Int) ≠ 372 by decide), pu_a (show (371 : Int) ≠ 372 by decide), pu_a (show (373 : Int) ≠ 372 by decide), pu_a (show (392 : Int) ≠ 372 by decide), pu_r, if_pos rfl]
      rw [pu_a (show (369 : Int) ≠ 387 by decide), pu_a (show (370 : Int) ≠ 387 by decide), pu_a (show (371 : Int) ≠ 387 by decide), pu_a (show (373 : Int) ≠ 387 by decide), pu_a (show (392 : Int) ≠ 387 by decide)]
      rw [pu_a (show (369 : Int) ≠ 386 by decide), pu_a (show (370 : Int) ≠ 386 by decide), pu_a (show (371 : Int) ≠ 386 by decide), pu_a (show (373 : Int) ≠ 386 by decide), pu_a (show (392 : Int) ≠ 386 by decide)]
      rw [pu_a (show (369 : Int) ≠ 385 by decide), pu_a (show (370 : Int) ≠ 385 by decide), pu_a (show (371 : Int) ≠ 385 by decide), pu_a (show (373 : Int) ≠ 385 by decide), pu_a (show (392 : Int) ≠ 385 by decide)]
      rw [pu_a (show (369 : Int) ≠ 384 by decide), pu_a (show (370 : Int) ≠ 384 by decide), pu_a (show (371 : Int) ≠ 384 by decide), pu_a (show (373 : Int) ≠ 384 by decide), pu_a (show (392 : Int) ≠ 384 by decide)]
      rw [hn]
      omega
  · rw [if_neg (by rw [o1]; exact c)]
    refine j_full h (fun F' e => ?_) (fun G' e => ?_)
    · simp only [pl_l, pl_b, pl_iT, pl_t, pl_f, e]
      rw [pl_i (by decide)]
    · rw [n0 (by omega) G' e, rL_0]
end LH

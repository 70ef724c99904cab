/-! the reference: lists of parts -/
theorem lFl_s {pm pt pw : Int → Int} {k : Nat} {l : Int} : lFl pm pt pw (k + 1) l ↔ (lW pw l (pm l) = 0 ∨ ∃ i, 0 ≤ i ∧ i < pm l ∧ 16 ≤ pt (5 * l + i) ∧ lFl pm pt pw k (pt (5 * l + i) - 16)) := Iff.rfl
theorem r_fails {F : pd_F} (hL : pd_Ly F) {np : Int} (hnp : np ≤ 12) : ∀ (k : Nat) (l nt : Int), 0 ≤ l ∧ l < 30 → lOk np (F 381) (F 382) (F 383) l nt → (∀ t, 0 ≤ t → t < nt → lOk np (F 381) (F 382) (F 383) t t) → 0 ≤ nt → nt < k → nt ≤ 5 →
    pfX12_fails pd_SH 5000 k F 367 l = some (ci (lFl (F 381) (F 382) (F 383) k l) 1 0, F)
  | 0, l, nt, hl, h, ht, h9, hk, h5 => by omega
  | k + 1, l, nt, hl, h, ht, h9, hk, h5 => by
    unfold pfX12_fails
    have hb := lW_bd h h.1 (Int.le_refl _)
    simp (disch := omega) only [pl_l, pl_b, pl_iT, pl_t, pl_f, lm_1 hL, lm_14 hL, lm_15 hL, lm_16 hL, lm_17 hL, lm_18 hL, lm_19 hL, lm_20 hL, lm_21 hL, lm_22 hL, lm_23 hL, lm_24 hL, lm_25 hL, lm_26 hL, lm_27 hL, lm_28 hL, lm_29 hL, lm_30 hL, lm_31 hL, lm_32 hL, lm_33 hL, lm_34 hL, lm_35 hL, lm_36 hL, lm_37 hL, lm_39 hL, lm_40 hL, lm_42 hL, lm_43 hL, lm_44 hL, lm_45 hL, lm_47 hL, lm_48 hL, lm_49 hL, lm_50 hL, lm_51 hL, gx_367, gx_368, gx_369, gx_370, gx_371, gx_372, gx_373, gx_374, gx_375, gx_376, gx_377, gx_378, gx_379, gx_380, gx_381, gx_382, gx_383, gx_384, gx_385, gx_386, gx_387, gx_388, gx_389, gx_390, gx_391, gx_392, gx_393, gx_394, gx_395, gx_396, gx_397, gx_398, gx_399, gx_400, gx_401, gx_402, gx_403, gn_368, gn_369, gn_370, gn_371, gn_372, gn_373, gn_374, gn_375, gn_376, gn_377, gn_378, gn_379, gn_380, gn_381, gn_382, gn_383, gn_384, gn_385, gn_386, gn_387, gn_388, gn_389, gn_390, gn_391, gn_392, gn_393, gn_394, gn_395, gn_396, gn_397, gn_398, gn_399, gn_400, gn_401, gn_402, gn_403, r_weights hL hl ⟨h.1, h.2.1⟩ (fun i a b => (h.2.2 i a b).2)]
    by_cases c : lW (F 383) l (F 381 l) = 0
    · rw [if_neg (by omega), ci_t (lFl_s.mpr (Or.inl c))]
    · rw [if_pos c]
      have e : ci (lFl (F 381) (F 382) (F 383) (k + 1) l) (1 : Int) 0 = ci (∃ i, 0 ≤ i ∧ i < F 381 l ∧ 16 ≤ F 382 (5 * l + i) ∧ lFl (F 381) (F 382) (F 383) k (F 382 (5 * l + i) - 16)) 1 0 :=
        ci_c ⟨fun g => (lFl_s.mp g).elim (fun g => absurd g c) id, fun g => lFl_s.mpr (Or.inr g)⟩
      rw [e]
      refine pl_some (f := fun j i => pfX12_fails_b12 pd_SH 5000 (pfX12_fails pd_SH 5000 k) j F 367 l i) h.1 (fun j i a b q => ?_) (fun j i a b q => ?_) (fun j => ?_) 5000 (by have := h.2.1; omega)
      · show pfX12_fails_b12 pd_SH 5000 (pfX12_fails pd_SH 5000 k) (j + 1) F 367 l i = _
        have hp := (h.2.2 i a b).1
        have h2 := h.2.1
        have ih := r_fails hL hnp k (F 382 (5 * l + i) - 16) (F 382 (5 * l + i) - 16) (by omega) (ht _ (by omega) (by omega)) (fun t a b => ht t a (by omega)) (by omega) (by omega) (by omega)
        simp (disch := omega) only [pfX12_fails_b12, pl_l, pl_b, pl_iT, pl_t, pl_f, lm_1 hL, lm_14 hL, lm_15 hL, lm_16 hL, lm_17 hL, lm_18 hL, lm_19 hL, lm_20 hL, lm_21 hL, lm_22 hL, lm_23 hL, lm_24 hL, lm_25 hL, lm_26 hL, lm_27 hL, lm_28 hL, lm_29 hL, lm_30 hL, lm_31 hL, lm_32 hL, lm_33 hL, lm_34 hL, lm_35 hL, lm_36 hL, lm_37 hL, lm_39 hL, lm_40 hL, lm_42 hL, lm_43 hL, lm_44 hL, lm_45 hL, lm_47 hL, lm_48 hL, lm_49 hL, lm_50 hL, lm_51 hL, gx_367, gx_368, gx_369, gx_370, gx_371, gx_372, gx_373, gx_374, gx_375, gx_376, gx_377, gx_378, gx_379, gx_380, gx_381, gx_382, gx_383, gx_384, gx_385, gx_386, gx_387, gx_388, gx_389, gx_390, gx_391, gx_392, gx_393, gx_394, gx_395, gx_396, gx_397, gx_398, gx_399, gx_400, gx_401, gx_402, gx_403, gn_368, gn_369, gn_370, gn_371, gn_372, gn_373, gn_374, gn_375, gn_376, gn_377, gn_378, gn_379, gn_380, gn_381, gn_382, gn_383, gn_384, gn_385, gn_386, gn_387, gn_388, gn_389, gn_390, gn_391, gn_392, gn_393, gn_394, gn_395, gn_396, gn_397, gn_398, gn_399, gn_400, gn_401, gn_402, gn_403, pl_w, pl_i, if_pos, if_neg, ih]
        rw [ci_t q.2]
        simp
      · show pfX12_fails_b12 pd_SH 5000 (pfX12_fails pd_SH 5000 k) (j + 1) F 367 l i = _
        have hp := (h.2.2 i a b).1
        have h2 := h.2.1
        by_cases g : 16 ≤ F 382 (5 * l + i)
        · have ih := r_fails hL hnp k (F 382 (5 * l + i) - 16) (F 382 (5 * l + i) - 16) (by omega) (ht _ (by omega) (by omega)) (fun t a b => ht t a (by omega)) (by omega) (by omega) (by omega)
          simp (disch := omega) only [pfX12_fails_b12, pfX12_fails_b59, pl_l, pl_b, pl_iT, pl_t, pl_f, lm_1 hL, lm_14 hL, lm_15 hL, lm_16 hL, lm_17 hL, lm_18 hL, lm_19 hL, lm_20 hL, lm_21 hL, lm_22 hL, lm_23 hL, lm_24 hL, lm_25 hL, lm_26 hL, lm_27 hL, lm_28 hL, lm_29 hL, lm_30 hL, lm_31 hL, lm_32 hL, lm_33 hL, lm_34 hL, lm_35 hL, lm_36 hL, lm_37 hL, lm_39 hL, lm_40 hL, lm_42 hL, lm_43 hL, lm_44 hL, lm_45 hL, lm_47 hL, lm_48 hL, lm_49 hL, lm_50 hL, lm_51 hL, gx_367, gx_368, gx_369, gx_370, gx_371, gx_372, gx_373, gx_374, gx_375, gx_376, gx_377, gx_378, gx_379, gx_380, gx_381, gx_382, gx_383, gx_384, gx_385, gx_386, gx_387, gx_388, gx_389, gx_390, gx_391, gx_392, gx_393, gx_394, gx_395, gx_396, gx_397, gx_398, gx_399, gx_400, gx_401, gx_402, gx_403, gn_368, gn_369, gn_370, gn_371, gn_372, gn_373, gn_374, gn_375, gn_376, gn_377, gn_378, gn_379, gn_380, gn_381, gn_382, gn_383, gn_384, gn_385, gn_386, gn_387, gn_388, gn_389, gn_390, gn_391, gn_392, gn_393, gn_394, gn_395, gn_396, gn_397, gn_398, gn_399, gn_400, gn_401, gn_402, gn_403, pl_w, pl_i, if_pos, if_neg, ih]
          rw [ci_f (fun z => q ⟨g, z⟩)]
          simp
        · simp (disch := omega) only [pfX12_fails_b12, pfX12_fails_b59, pl_l, pl_b, pl_iT, pl_t, pl_f, lm_1 hL, lm_14 hL, lm_15 hL, lm_16 hL, lm_17 hL, lm_18 hL, lm_19 hL, lm_20 hL, lm_21 hL, lm_22 hL, lm_23 hL, lm_24 hL, lm_25 hL, lm_26 hL, lm_27 hL, lm_28 hL, lm_29 hL, lm_30 hL, lm_31 hL, lm_32 hL, lm_33 hL, lm_34 hL, lm_35 hL, lm_36 hL, lm_37 hL, lm_39 hL, lm_40 hL, lm_42 hL, lm_43 hL, lm_44 hL, lm_45 hL, lm_47 hL, lm_48 hL, lm_49 hL, lm_50 hL, lm_51 hL, gx_367, gx_368, gx_369, gx_370, gx_371, gx_372, gx_373, gx_374, gx_375, gx_376, gx_377, gx_378, gx_379, gx_380, gx_381, gx_382, gx_383, gx_384, gx_385, gx_386, gx_387, gx_388, gx_389, gx_390, gx_391, gx_392, gx_393, gx_394, gx_395, gx_396, gx_397, gx_398, gx_399, gx_400, gx_401, gx_402, gx_403, gn_368, gn_369, gn_370, gn_371, gn_372, gn_373, gn_374, gn_375, gn_376, gn_377, gn_378, gn_379, gn_380, gn_381, gn_382, gn_383, gn_384, gn_385, gn_386, gn_387, gn_388, gn_389, gn_390, gn_391, gn_392, gn_393, gn_394, gn_395, gn_396, gn_397, gn_398, gn_399, gn_400, gn_401, gn_402, gn_403, pl_w, pl_i, if_pos, if_neg]
      · show pfX12_fails_b12 pd_SH 5000 (pfX12_fails pd_SH 5000 k) (j + 1) F 367 l _ = _
        simp (disch := omega) only [pfX12_fails_b12, pl_l, pl_b, pl_iT, pl_t, pl_f, lm_1 hL, lm_14 hL, lm_15 hL, lm_16 hL, lm_17 hL, lm_18 hL, lm_19 hL, lm_20 hL, lm_21 hL, lm_22 hL, lm_23 hL, lm_24 hL, lm_25 hL, lm_26 hL, lm_27 hL, lm_28 hL, lm_29 hL, lm_30 hL, lm_31 hL, lm_32 hL, lm_33 hL, lm_34 hL, lm_35 hL, lm_36 hL, lm_37 hL, lm_39 hL, lm_40 hL, lm_42 hL, lm_43 hL, lm_44 hL, lm_45 hL, lm_47 hL, lm_48 hL, lm_49 hL, lm_50 hL, lm_51 hL, gx_367, gx_368, gx_369, gx_370, gx_371, gx_372, gx_373, gx_374, gx_375, gx_376, gx_377, gx_378, gx_379, gx_380, gx_381, gx_382, gx_383, gx_384, gx_385, gx_386, gx_387, gx_388, gx_389, gx_390, gx_391, gx_392, gx_393, gx_394, gx_395, gx_396, gx_397, gx_398, gx_399, gx_400, gx_401, gx_402, gx_403, gn_368, gn_369, gn_370, gn_371, gn_372, gn_373, gn_374, gn_375, gn_376, gn_377, gn_378, gn_379, gn_380, gn_381, gn_382, gn_383, gn_384, gn_385, gn_386, gn_387, gn_388, gn_389, gn_390, gn_391, gn_392, gn_393, gn_394, gn_395, gn_396, gn_397, gn_398, gn_399, gn_400, gn_401, gn_402, gn_403, pl_w, pl_i, if_pos, if_neg]
theorem lWy_bd {np : Int} {pm pt pw : Int → Int} (hnp : np ≤ 12) : ∀ (k : Nat) (l nt p : Int), lOk np pm pt pw l nt → (∀ t, 0 ≤ t → t < nt → lOk np pm pt pw t t) → 0 ≤ lWy pm pt k l p ∧ lWy pm pt k l p ≤ ((5 ^ k : Nat) : Int)
  | 0, l, nt, p, h, ht => by show (0 : Int) ≤ 0 ∧ (0 : Int) ≤ 1; omega
  | k + 1, l, nt, p, h, ht => by
    have hq : 5 ^ 0 ≤ 5 ^ k := Nat.pow_le_pow_right (by decide) (Nat.zero_le k)
    have e5 : 5 ^ (k + 1) = 5 ^ k * 5 := Nat.pow_succ 5 k
    have b := Sm_bd (f := fun i => if pt (5 * l + i) = p then 1 else if 16 ≤ pt (5 * l + i) then lWy pm pt k (pt (5 * l + i) - 16) p else 0) (lo := 0) (hi := ((5 ^ k : Nat) : Int)) h.1 (fun i a b => by
      have hp := (h.2.2 i a b).1
      split
      · omega
      · split
        · exact lWy_bd hnp k _ _ p (ht _ (by omega) (by omega)) (fun t a b => ht t a (by omega))
        · omega)
    have c := Int.mul_le_mul_of_nonneg_left (c := ((5 ^ k : Nat) : Int)) h.2.1 (by omega)
    show 0 ≤ Sm _ _ ∧ Sm _ _ ≤ _
    rw [e5]
    omega
theorem r_waysOf {F : pd_F} (hL : pd_Ly F) {np p : Int} (hnp : np ≤ 12) : ∀ (k : Nat) (l nt : Int), k ≤ 8 → 0 ≤ l ∧ l < 30 → lOk np (F 381) (F 382) (F 383) l nt → (∀ t, 0 ≤ t → t < nt → lOk np (F 381) (F 382) (F 383) t t) → 0 ≤ nt → nt < k → nt ≤ 5 →
    pfX12_waysOf pd_SH 5000 k F 367 l p = some (lWy (F 381) (F 382) k l p, F)
  | 0, l, nt, h8, hl, h, ht, h9, hk, h5 => by omega
  | k + 1, l, nt, h8, hl, h, ht, h9, hk, h5 => by
    unfold pfX12_waysOf
    simp only [pl_l, pl_b, pl_iT, pl_t, pl_f]
    have h2 := h.2.1
    have h78 : 5 ^ k ≤ 5 ^ 7 := Nat.pow_le_pow_right (by decide) (by omega)
    refine pl_for (f := fun j (q : Int) i => pfX12_waysOf_b5 pd_SH 5000 (pfX12_waysOf pd_SH 5000 k) j F 367 l p q i)
      (P := fun i q => q = Sm (fun i => if F 382 (5 * l + i) = p then 1 else if 16 ≤ F 382 (5 * l + i) then lWy (F 381) (F 382) k (F 382 (5 * l + i) - 16) p else 0) i ∧ 0 ≤ q ∧ q ≤ 78125 * i) (N := F 381 l)
      (res := fun o => o = some (lWy (F 381) (F 382) (k + 1) l p, F)) ?_ ?_ 5000 0 0 (by omega) h.1 (by omega) ⟨rfl, by omega, by omega⟩
    · intro j q i a b ⟨e, c, d⟩
      refine Or.inl ⟨q + (if F 382 (5 * l + i) = p then 1 else if 16 ≤ F 382 (5 * l + i) then lWy (F 381) (F 382) k (F 382 (5 * l + i) - 16) p else 0), ?_, ?_⟩
      · refine ⟨by rw [e, Sm_s a], ?_⟩
        have hp := (h.2.2 i a b).1
        split
        · omega
        · split
          · have z := lWy_bd (p := p) hnp k _ _ (ht (F 382 (5 * l + i) - 16) (by omega) (by omega)) (fun t a b => ht t a (by omega))
            omega
          · omega
      · show pfX12_waysOf_b5 pd_SH 5000 (pfX12_waysOf pd_SH 5000 k) (j + 1) F 367 l p q i = _
        have hp := (h.2.2 i a b).1
        by_cases g : F 382 (5 * l + i) = p
        · rw [if_pos g]
          simp (disch := omega) only [pfX12_waysOf_b5, pfX12_waysOf_b61, pl_l, pl_b, pl_iT, pl_t, pl_f, lm_1 hL, lm_14 hL, lm_15 hL, lm_16 hL, lm_17 hL, lm_18 hL, lm_19 hL, lm_20 hL, lm_21 hL, lm_22 hL, lm_23 hL, lm_24 hL, lm_25 hL, lm_26 hL, lm_27 hL, lm_28 hL, lm_29 hL, lm_30 hL, lm_31 hL, lm_32 hL, lm_33 hL, lm_34 hL, lm_35 hL, lm_36 hL, lm_37 hL, lm_39 hL, lm_40 hL, lm_42 hL, lm_43 hL, lm_44 hL, lm_45 hL, lm_47 hL, lm_48 hL, lm_49 hL, lm_50 hL, lm_51 hL, gx_367, gx_368, gx_369, gx_370, gx_371, gx_372, gx_373, gx_374, gx_375, gx_376, gx_377, gx_378, gx_379, gx_380, gx_381, gx_382, gx_383, gx_384, gx_385, gx_386, gx_387, gx_388, gx_389, gx_390, gx_391, gx_392, gx_393, gx_394, gx_395, gx_396, gx_397, gx_398, gx_399, gx_400, gx_401, gx_402, gx_403, gn_368, gn_369, gn_370, gn_371, gn_372, gn_373, gn_374, gn_375, gn_376, gn_377, gn_378, gn_379, gn_380, gn_381, gn_382, gn_383, gn_384, gn_385, gn_386, gn_387, gn_388, gn_389, gn_390, gn_391, gn_392, gn_393, gn_394, gn_395, gn_396, gn_397, gn_398, gn_399, gn_400, gn_401, gn_402, gn_403, pl_w, pl_i, if_pos, if_neg]
        · rw [if_neg g]
          by_cases g2 : 16 ≤ F 382 (5 * l + i)
          · have z := lWy_bd (p := p) hnp k _ _ (ht (F 382 (5 * l + i) - 16) (by omega) (by omega)) (fun t a b => ht t a (by omega))
            have ih := r_waysOf hL (p := p) hnp k (F 382 (5 * l + i) - 16) (F 382 (5 * l + i) - 16) (by omega) (by omega) (ht _ (by omega) (by omega)) (fun t a b => ht t a (by omega)) (by omega) (by omega) (by omega)
            rw [if_pos g2]
            simp (disch := omega) only [pfX12_waysOf_b5, pfX12_waysOf_b61, pl_l, pl_b, pl_iT, pl_t, pl_f, lm_1 hL, lm_14 hL, lm_15 hL, lm_16 hL, lm_17 hL, lm_18 hL, lm_19 hL, lm_20 hL, lm_21 hL, lm_22 hL, lm_23 hL, lm_24 hL, lm_25 hL, lm_26 hL, lm_27 hL, lm_28 hL, lm_29 hL, lm_30 hL, lm_31 hL, lm_32 hL, lm_33 hL, lm_34 hL, lm_35 hL, lm_36 hL, lm_37 hL, lm_39 hL, lm_40 hL, lm_42 hL, lm_43 hL, lm_44 hL, lm_45 hL, lm_47 hL, lm_48 hL, lm_49 hL, lm_50 hL, lm_51 hL, gx_367, gx_368, gx_369, gx_370, gx_371, gx_372, gx_373, gx_374, gx_375, gx_376, gx_377, gx_378, gx_379, gx_380, gx_381, gx_382, gx_383, gx_384, gx_385, gx_386, gx_387, gx_388, gx_389, gx_390, gx_391, gx_392, gx_393, gx_394, gx_395, gx_396, gx_397, gx_398, gx_399, gx_400, gx_401, gx_402, gx_403, gn_368, gn_369, gn_370, gn_371, gn_372, gn_373, gn_374, gn_375, gn_376, gn_377, gn_378, gn_379, gn_380, gn_381, gn_382, gn_383, gn_384, gn_385, gn_386, gn_387, gn_388, gn_389, gn_390, gn_391, gn_392, gn_393, gn_394, gn_395, gn_396, gn_397, gn_398, gn_399, gn_400, gn_401, gn_402, gn_403, pl_w, pl_i, if_pos, if_neg, ih]
          · rw [if_neg g2]
            simp (disch := omega) only [pfX12_waysOf_b5, pfX12_waysOf_b61, pl_l, pl_b, pl_iT, pl_t, pl_f, lm_1 hL, lm_14 hL, lm_15 hL, lm_16 hL, lm_17 hL, lm_18 hL, lm_19 hL, lm_20 hL, lm_21 hL, lm_22 hL, lm_23 hL, lm_24 hL, lm_25 hL, lm_26 hL, lm_27 hL, lm_28 hL, lm_29 hL, lm_30 hL, lm_31 hL, lm_32 hL, lm_33 hL, lm_34 hL, lm_35 hL, lm_36 hL, lm_37 hL, lm_39 hL, lm_40 hL, lm_42 hL, lm_43 hL, lm_44 hL, lm_45 hL, lm_47 hL, lm_48 hL, lm_49 hL, lm_50 hL, lm_51 hL, gx_367, gx_368, gx_369, gx_370, gx_371, gx_372, gx_373, gx_374, gx_375, gx_376, gx_377, gx_378, gx_379, gx_380, gx_381, gx_382, gx_383, gx_384, gx_385, gx_386, gx_387, gx_388, gx_389, gx_390, gx_391, gx_392, gx_393, gx_394, gx_395, gx_396, gx_397, gx_398, gx_399, gx_400, gx_401, gx_402, gx_403, gn_368, gn_369, gn_370, gn_371, gn_372, gn_373, gn_374, gn_375, gn_376, gn_377, gn_378, gn_379, gn_380, gn_381, gn_382, gn_383, gn_384, gn_385, gn_386, gn_387, gn_388, gn_389, gn_390, gn_391, gn_392, gn_393, gn_394, gn_395, gn_396, gn_397, gn_398, gn_399, gn_400, gn_401, gn_402, gn_403, pl_w, pl_i, if_pos, if_neg]
    · intro j q ⟨e, c, d⟩
      show pfX12_waysOf_b5 pd_SH 5000 (pfX12_waysOf pd_SH 5000 k) (j + 1) F 367 l p q _ = _
      simp (disch := omega) only [pfX12_waysOf_b5, pl_l, pl_b, pl_iT, pl_t, pl_f, lm_1 hL, lm_14 hL, lm_15 hL, lm_16 hL, lm_17 hL, lm_18 hL, lm_19 hL, lm_20 hL, lm_21 hL, lm_22 hL, lm_23 hL, lm_24 hL, lm_25 hL, lm_26 hL, lm_27 hL, lm_28 hL, lm_29 hL, lm_30 hL, lm_31 hL, lm_32 hL, lm_33 hL, lm_34 hL, lm_35 hL, lm_36 hL, lm_37 hL, lm_39 hL, lm_40 hL, lm_42 hL, lm_43 hL, lm_44 hL, lm_45 hL, lm_47 hL, lm_48 hL, lm_49 hL, lm_50 hL, lm_51 hL, gx_367, gx_368, gx_369, gx_370, gx_371, gx_372, gx_373, gx_374, gx_375, gx_376, gx_377, gx_378, gx_379, gx_380, gx_381, gx_382, gx_383, gx_384, gx_385, gx_386, gx_387, gx_388, gx_389, gx_390, gx_391, gx_392, gx_393, gx_394, gx_395, gx_396, gx_397, gx_398, gx_399, gx_400, gx_401, gx_402, gx_403, gn_368, gn_369, gn_370, gn_371, gn_372, gn_373, gn_374, gn_375, gn_376, gn_377, gn_378, gn_379, gn_380, gn_381, gn_382, gn_383, gn_384, gn_385, gn_386, gn_387, gn_388, gn_389, gn_390, gn_391, gn_392, gn_393, gn_394, gn_395, gn_396, gn_397, gn_398, gn_399, gn_400, gn_401, gn_402, gn_403, pl_w, pl_i, if_pos, if_neg]
      rw [e]; rfl
theorem lDp_bd {np : Int} {pm pt pw : Int → Int} (hnp : np ≤ 12) : ∀ (k : Nat) (l nt : Int), lOk np pm pt pw l nt → (∀ t, 0 ≤ t → t < nt → lOk np pm pt pw t t) → 1 ≤ lDp pm pt k l ∧ lDp pm pt k l ≤ (k : Int) + 1
  | 0, l, nt, h, ht => by show (1 : Int) ≤ 1 ∧ (1 : Int) ≤ 0 + 1; omega
  | k + 1, l, nt, h, ht => by
    have key : ∀ n : Nat, (n : Int) ≤ pm l → 1 ≤ Mx (fun i => if pt (5 * l + i) < 16 then 1 else 1 + lDp pm pt k (pt (5 * l + i) - 16)) n ∧ Mx (fun i => if pt (5 * l + i) < 16 then 1 else 1 + lDp pm pt k (pt (5 * l + i) - 16)) n ≤ (k : Int) + 2 := by
      intro n
      induction n with
      | zero => intro _; show (1 : Int) ≤ 1 ∧ (1 : Int) ≤ _; omega
      | succ n ih =>
        intro hn
        have b := ih (by omega)
        have e : ((n + 1 : Nat) : Int) = (n : Int) + 1 := by omega
        rw [e, Mx_s (by omega)]
        have hp := (h.2.2 n (by omega) (by omega)).1
        split
        · omega
        · have z := lDp_bd hnp k _ _ (ht (pt (5 * l + n) - 16) (by omega) (by omega)) (fun t a b => ht t a (by omega))
          omega
    have h1 := h.1
    have c := key (pm l).toNat (by omega)
    have e : (((pm l).toNat : Nat) : Int) = pm l := by omega
    rw [e] at c
    show 1 ≤ Mx _ _ ∧ Mx _ _ ≤ _
    omega
theorem r_deepOf {F : pd_F} (hL : pd_Ly F) {np : Int} (hnp : np ≤ 12) : ∀ (k : Nat) (l nt : Int), k ≤ 8 → 0 ≤ l ∧ l < 30 → lOk np (F 381) (F 382) (F 383) l nt → (∀ t, 0 ≤ t → t < nt → lOk np (F 381) (F 382) (F 383) t t) → 0 ≤ nt → nt < k → nt ≤ 5 →
    pfX12_deepOf pd_SH 5000 k F 367 l = some (lDp (F 381) (F 382) k l, F)
  | 0, l, nt, h8, hl, h, ht, h9, hk, h5 => by omega
  | k + 1, l, nt, h8, hl, h, ht, h9, hk, h5 => by
    unfold pfX12_deepOf
    simp only [pl_l, pl_b, pl_iT, pl_t, pl_f]
    have h2 := h.2.1
    refine pl_for (f := fun j (q : Int) i => pfX12_deepOf_b4 pd_SH 5000 (pfX12_deepOf pd_SH 5000 k) j F 367 l q i)
      (P := fun i q => q = Mx (fun i => if F 382 (5 * l + i) < 16 then 1 else 1 + lDp (F 381) (F 382) k (F 382 (5 * l + i) - 16)) i) (N := F 381 l)
      (res := fun o => o = some (lDp (F 381) (F 382) (k + 1) l, F)) ?_ ?_ 5000 1 0 (by omega) h.1 (by omega) rfl
    · intro j q i a b e
      refine Or.inl ⟨max q (if F 382 (5 * l + i) < 16 then 1 else 1 + lDp (F 381) (F 382) k (F 382 (5 * l + i) - 16)), ?_, ?_⟩
      · rw [e, Mx_s a]
      · show pfX12_deepOf_b4 pd_SH 5000 (pfX12_deepOf pd_SH 5000 k) (j + 1) F 367 l q i = _
        have hp := (h.2.2 i a b).1
        by_cases g2 : F 382 (5 * l + i) < 16
        · rw [if_pos g2]
          by_cases g3 : 1 ≤ q
          · rw [show max q 1 = q by omega]
            simp (disch := omega) only [pfX12_deepOf_b4, pfX12_deepOf_b48, pfX12_deepOf_b62, pl_l, pl_b, pl_iT, pl_t, pl_f, lm_1 hL, lm_14 hL, lm_15 hL, lm_16 hL, lm_17 hL, lm_18 hL, lm_19 hL, lm_20 hL, lm_21 hL, lm_22 hL, lm_23 hL, lm_24 hL, lm_25 hL, lm_26 hL, lm_27 hL, lm_28 hL, lm_29 hL, lm_30 hL, lm_31 hL, lm_32 hL, lm_33 hL, lm_34 hL, lm_35 hL, lm_36 hL, lm_37 hL, lm_39 hL, lm_40 hL, lm_42 hL, lm_43 hL, lm_44 hL, lm_45 hL, lm_47 hL, lm_48 hL, lm_49 hL, lm_50 hL, lm_51 hL, gx_367, gx_368, gx_369, gx_370, gx_371, gx_372, gx_373, gx_374, gx_375, gx_376, gx_377, gx_378, gx_379, gx_380, gx_381, gx_382, gx_383, gx_384, gx_385, gx_386, gx_387, gx_388, gx_389, gx_390, gx_391, gx_392, gx_393, gx_394, gx_395, gx_396, gx_397, gx_398, gx_399, gx_400, gx_401, gx_402, gx_403, gn_368, gn_369, gn_370, gn_371, gn_372, gn_373, gn_374, gn_375, gn_376, gn_377, gn_378, gn_379, gn_380, gn_381, gn_382, gn_383, gn_384, gn_385, gn_386, gn_387, gn_388, gn_389, gn_390, gn_391, gn_392, gn_393, gn_394, gn_395, gn_396, gn_397, gn_398, gn_399, gn_400, gn_401, gn_402, gn_403, pl_w, pl_i, if_pos, if_neg]
          · rw [show max q 1 = 1 by omega]
            simp (disch := omega) only [pfX12_deepOf_b4, pfX12_deepOf_b48, pfX12_deepOf_b62, pl_l, pl_b, pl_iT, pl_t, pl_f, lm_1 hL, lm_14 hL, lm_15 hL, lm_16 hL, lm_17 hL, lm_18 hL, lm_19 hL, lm_20 hL, lm_21 hL, lm_22 hL, lm_23 hL, lm_24 hL, lm_25 hL, lm_26 hL, lm_27 hL, lm_28 hL, lm_29 hL, lm_30 hL, lm_31 hL, lm_32 hL, lm_33 hL, lm_34 hL, lm_35 hL, lm_36 hL, lm_37 hL, lm_39 hL, lm_40 hL, lm_42 hL, lm_43 hL, lm_44 hL, lm_45 hL, lm_47 hL, lm_48 hL, lm_49 hL, lm_50 hL, lm_51 hL, gx_367, gx_368, gx_369, gx_370, gx_371, gx_372, gx_373, gx_374, gx_375, gx_376, gx_377, gx_378, gx_379, gx_380, gx_381, gx_382, gx_383, gx_384, gx_385, gx_386, gx_387, gx_388, gx_389, gx_390, gx_391, gx_392, gx_393, gx_394, gx_395, gx_396, gx_397, gx_398, gx_399, gx_400, gx_401, gx_402, gx_403, gn_368, gn_369, gn_370, gn_371, gn_372, gn_373, gn_374, gn_375, gn_376, gn_377, gn_378, gn_379, gn_380, gn_381, gn_382, gn_383, gn_384, gn_385, gn_386, gn_387, gn_388, gn_389, gn_390, gn_391, gn_392, gn_393, gn_394, gn_395, gn_396, gn_397, gn_398, gn_399, gn_400, gn_401, gn_402, gn_403, pl_w, pl_i, if_pos, if_neg]
        · have z := lDp_bd hnp k _ _ (ht (F 382 (5 * l + i) - 16) (by omega) (by omega)) (fun t a b => ht t a (by omega))
          have ih := r_deepOf hL hnp k (F 382 (5 * l + i) - 16) (F 382 (5 * l + i) - 16) (by omega) (by omega) (ht _ (by omega) (by omega)) (fun t a b => ht t a (by omega)) (by omega) (by omega) (by omega)
          rw [if_neg g2]
          generalize lDp (F 381) (F 382) k (F 382 (5 * l + i) - 16) = y at ih z ⊢
          by_cases g3 : 1 + y ≤ q
          · rw [show max q (1 + y) = q by omega]
            simp (disch := omega) only [pfX12_deepOf_b4, pfX12_deepOf_b48, pfX12_deepOf_b62, pl_l, pl_b, pl_iT, pl_t, pl_f, lm_1 hL, lm_14 hL, lm_15 hL, lm_16 hL, lm_17 hL, lm_18 hL, lm_19 hL, lm_20 hL, lm_21 hL, lm_22 hL, lm_23 hL, lm_24 hL, lm_25 hL, lm_26 hL, lm_27 hL, lm_28 hL, lm_29 hL, lm_30 hL, lm_31 hL, lm_32 hL, lm_33 hL, lm_34 hL, lm_35 hL, lm_36 hL, lm_37 hL, lm_39 hL, lm_40 hL, lm_42 hL, lm_43 hL, lm_44 hL, lm_45 hL, lm_47 hL, lm_48 hL, lm_49 hL, lm_50 hL, lm_51 hL, gx_367, gx_368, gx_369, gx_370, gx_371, gx_372, gx_373, gx_374, gx_375, gx_376, gx_377, gx_378, gx_379, gx_380, gx_381, gx_382, gx_383, gx_384, gx_385, gx_386, gx_387, gx_388, gx_389, gx_390, gx_391, gx_392, gx_393, gx_394, gx_395, gx_396, gx_397, gx_398, gx_399, gx_400, gx_401, gx_402, gx_403, gn_368, gn_369, gn_370, gn_371, gn_372, gn_373, gn_374, gn_375, gn_376, gn_377, gn_378, gn_379, gn_380, gn_381, gn_382, gn_383, gn_384, gn_385, gn_386, gn_387, gn_388, gn_389, gn_390, gn_391, gn_392, gn_393, gn_394, gn_395, gn_396, gn_397, gn_398, gn_399, gn_400, gn_401, gn_402, gn_403, pl_w, pl_i, if_pos, if_neg, ih]
          · rw [show max q (1 + y) = 1 + y by omega]
            simp (disch := omega) only [pfX12_deepOf_b4, pfX12_deepOf_b48, pfX12_deepOf_b62, pl_l, pl_b, pl_iT, pl_t, pl_f, lm_1 hL, lm_14 hL, lm_15 hL, lm_16 hL, lm_17 hL, lm_18 hL, lm_19 hL, lm_20 hL, lm_21 hL, lm_22 hL, lm_23 hL, lm_24 hL, lm_25 hL, lm_26 hL, lm_27 hL, lm_28 hL, lm_29 hL, lm_30 hL, lm_31 hL, lm_32 hL, lm_33 hL, lm_34 hL, lm_35 hL, lm_36 hL, lm_37 hL, lm_39 hL, lm_40 hL, lm_42 hL, lm_43 hL, lm_44 hL, lm_45 hL, lm_47 hL, lm_48 hL, lm_49 hL, lm_50 hL, lm_51 hL, gx_367, gx_368, gx_369, gx_370, gx_371, gx_372, gx_373, gx_374, gx_375, gx_376, gx_377, gx_378, gx_379, gx_380, gx_381, gx_382, gx_383, gx_384, gx_385, gx_386, gx_387, gx_388, gx_389, gx_390, gx_391, gx_392, gx_393, gx_394, gx_395, gx_396, gx_397, gx_398, gx_399, gx_400, gx_401, gx_402, gx_403, gn_368, gn_369, gn_370, gn_371, gn_372, gn_373, gn_374, gn_375, gn_376, gn_377, gn_378, gn_379, gn_380, gn_381, gn_382, gn_383, gn_384, gn_385, gn_386, gn_387, gn_388, gn_389, gn_390, gn_391, gn_392, gn_393, gn_394, gn_395, gn_396, gn_397, gn_398, gn_399, gn_400, gn_401, gn_402, gn_403, pl_w, pl_i, if_pos, if_neg, ih]
    · intro j q e
      show pfX12_deepOf_b4 pd_SH 5000 (pfX12_deepOf pd_SH 5000 k) (j + 1) F 367 l q _ = _
      simp (disch := omega) only [pfX12_deepOf_b4, pl_l, pl_b, pl_iT, pl_t, pl_f, lm_1 hL, lm_14 hL, lm_15 hL, lm_16 hL, lm_17 hL, lm_18 hL, lm_19 hL, lm_20 hL, lm_21 hL, lm_22 hL, lm_23 hL, lm_24 hL, lm_25 hL, lm_26 hL, lm_27 hL, lm_28 hL, lm_29 hL, lm_30 hL, lm_31 hL, lm_32 hL, lm_33 hL, lm_34 hL, lm_35 hL, lm_36 hL, lm_37 hL, lm_39 hL, lm_40 hL, lm_42 hL, lm_43 hL, lm_44 hL, lm_45 hL, lm_47 hL, lm_48 hL, lm_49 hL, lm_50 hL, lm_51 hL, gx_367, gx_368, gx_369, gx_370, gx_371, gx_372, gx_373, gx_374, gx_375, gx_376, gx_377, gx_378, gx_379, gx_380, gx_381, gx_382, gx_383, gx_384, gx_385, gx_386, gx_387, gx_388, gx_389, gx_390, gx_391, gx_392, gx_393, gx_394, gx_395, gx_396, gx_397, gx_398, gx_399, gx_400, gx_401, gx_402, gx_403, gn_368, gn_369, gn_370, gn_371, gn_372, gn_373, gn_374, gn_375, gn_376, gn_377, gn_378, gn_379, gn_380, gn_381, gn_382, gn_383, gn_384, gn_385, gn_386, gn_387, gn_388, gn_389, gn_390, gn_391, gn_392, gn_393, gn_394, gn_395, gn_396, gn_397, gn_398, gn_399, gn_400, gn_401, gn_402, gn_403, pl_w, pl_i, if_pos, if_neg]
      rw [e]; rfl

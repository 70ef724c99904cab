/-! the reference: what a list gives -/
theorem r_gives {np : Int} (hnp : np ≤ 12) : ∀ (k : Nat) (F : pd_F) (l nt a : Int), pd_Ly F → k ≤ 8 → 0 ≤ l ∧ l < 30 → lOk np (F 381) (F 382) (F 383) l nt → (∀ t, 0 ≤ t → t < nt → lOk np (F 381) (F 382) (F 383) t t) → 0 ≤ nt → nt < k → nt ≤ 5 →
    ¬ lFl (F 381) (F 382) (F 383) k l → 0 ≤ a ∧ a ≤ 9999999 → (∀ p, 0 ≤ p → p < 12 → 0 ≤ F 397 p ∧ F 397 p + a ≤ 1000000000000) →
    ∃ F', pfX12_gives pd_SH 5000 k F 367 l a = some F' ∧ pd_Ly F' ∧ (∀ b, b ≠ 397 → F' b = F b) ∧ ∀ p, 0 ≤ p → p < 12 → F' 397 p = F 397 p + lGv (F 381) (F 382) (F 383) k l a p
  | 0, F, l, nt, a, hL, h8, hl, h, ht, h9, hk, h5, hf, ha, hg => by omega
  | k + 1, F, l, nt, a, hL, h8, hl, h, ht, h9, hk, h5, hf, ha, hg => by
    unfold pfX12_gives
    have hw : lW (F 383) l (F 381 l) ≠ 0 := fun e => hf (Or.inl e)
    have h2 := h.2.1
    have hb := lW_bd h h.1 (Int.le_refl _)
    have hsum := fun p => lGs_bd (pm := F 381) (pt := F 382) (pw := F 383) hnp k l nt a p h ht (by omega) hf ha.1
    simp (disch := omega) only [pl_l, pl_b, pl_iT, pl_t, pl_f, lm_1 hL, lm_14 hL, lm_15 hL, lm_16 hL, lm_17 hL, lm_18 hL, lm_19 hL, lm_20 hL, lm_21 hL, lm_22 hL, lm_23 hL, lm_24 hL, lm_25 hL, lm_26 hL, lm_27 hL, lm_28 hL, lm_29 hL, lm_30 hL, lm_31 hL, lm_32 hL, lm_33 hL, lm_34 hL, lm_35 hL, lm_36 hL, lm_37 hL, lm_39 hL, lm_40 hL, lm_42 hL, lm_43 hL, lm_44 hL, lm_45 hL, lm_47 hL, lm_48 hL, lm_49 hL, lm_50 hL, lm_51 hL, gx_367, gx_368, gx_369, gx_370, gx_371, gx_372, gx_373, gx_374, gx_375, gx_376, gx_377, gx_378, gx_379, gx_380, gx_381, gx_382, gx_383, gx_384, gx_385, gx_386, gx_387, gx_388, gx_389, gx_390, gx_391, gx_392, gx_393, gx_394, gx_395, gx_396, gx_397, gx_398, gx_399, gx_400, gx_401, gx_402, gx_403, gn_368, gn_369, gn_370, gn_371, gn_372, gn_373, gn_374, gn_375, gn_376, gn_377, gn_378, gn_379, gn_380, gn_381, gn_382, gn_383, gn_384, gn_385, gn_386, gn_387, gn_388, gn_389, gn_390, gn_391, gn_392, gn_393, gn_394, gn_395, gn_396, gn_397, gn_398, gn_399, gn_400, gn_401, gn_402, gn_403, r_weights hL hl ⟨h.1, h.2.1⟩ (fun i a b => (h.2.2 i a b).2)]
    generalize hW : lW (F 383) l (F 381 l) = W at hw hb
    refine pl_for (f := fun j (q : pd_F × Int × Int) i => pfX12_gives_b16 pd_SH 5000 (pfX12_gives pd_SH 5000 k) j q.1 367 l a W q.2.1 q.2.2 i)
      (P := fun i q => pd_Ly q.1 ∧ (∀ b, b ≠ 397 → q.1 b = F b) ∧ q.2.1 = lW (F 383) l i ∧ q.2.2 = lUp (F 383) l W a i ∧ ∀ p, 0 ≤ p → p < 12 → q.1 397 p = F 397 p + Sm (lGt (F 381) (F 382) (F 383) k l a p) i) (N := F 381 l)
      (res := fun o => ∃ F', o = some F' ∧ pd_Ly F' ∧ (∀ b, b ≠ 397 → F' b = F b) ∧ ∀ p, 0 ≤ p → p < 12 → F' 397 p = F 397 p + lGv (F 381) (F 382) (F 383) (k + 1) l a p) ?_ ?_ 5000 (F, 0, 0) 0 (by omega) h.1 (by omega)
      ⟨hL, fun _ _ => rfl, rfl, by rw [lUp_0], fun p _ _ => by show F 397 p = _; rw [Sm_0]; omega⟩
    · intro j ⟨G, s, u⟩ i a0 b0 ⟨q1, q2, q3, q4, q5⟩
      simp only at q1 q2 q3 q4 q5
      left
      have hp := h.2.2 i a0 b0
      have e1 : G 381 = F 381 := q2 381 (by decide)
      have e2 : G 382 = F 382 := q2 382 (by decide)
      have e3 : G 383 = F 383 := q2 383 (by decide)
      have hs1 : lW (F 383) l (i + 1) = s + F 383 (5 * l + i) := by rw [q3]; unfold lW; rw [Sm_s a0]
      have hb1 := lW_bd h (j := i + 1) (by omega) (by omega)
      have hm0 : 0 ≤ a * lW (F 383) l (i + 1) := Int.mul_nonneg ha.1 hb1.1
      have hm1 : a * lW (F 383) l (i + 1) ≤ 9999999 * 495 := Int.mul_le_mul ha.2 (by omega) hb1.1 (by decide)
      have hu := lUp_mono h ha.1 (by rw [hW]; exact hw) a0 (show i ≤ i + 1 by omega) (by omega)
      have hu0 := lUp_bd h ha.1 (by rw [hW]; exact hw) a0 (by omega)
      have hu1 := lUp_bd h ha.1 (by rw [hW]; exact hw) (show 0 ≤ i + 1 by omega) (by omega)
      rw [hW] at hu hu0 hu1
      have hd : lUp (F 383) l W a (i + 1) = Int.tdiv (a * lW (F 383) l (i + 1)) W := rfl
      have hpart : ∀ p, 0 ≤ Sm (lGt (F 381) (F 382) (F 383) k l a p) i ∧ Sm (lGt (F 381) (F 382) (F 383) k l a p) i ≤ lUp (F 383) l W a i := fun p => by
        have z := hsum p i.toNat (by omega)
        rw [show ((i.toNat : Nat) : Int) = i by omega, hW] at z
        exact z
      generalize hT : lUp (F 383) l W a (i + 1) = T at hu hu1 hd
      by_cases g : F 382 (5 * l + i) < 16
      · refine ⟨(pd_up G 397 (F 382 (5 * l + i)) (G 397 (F 382 (5 * l + i)) + (T - u)), lW (F 383) l (i + 1), T), ⟨?_, ?_, rfl, rfl, ?_⟩, ?_⟩
        · exact q1.up (pl_rc0 sx_397 (by decide))
        · intro b hb'; show pd_up _ _ _ _ b = _; rw [pu_a hb']; exact q2 b hb'
        · intro p c d
          show pd_up _ _ _ _ 397 p = _
          have ht : lGt (F 381) (F 382) (F 383) k l a p i = if F 382 (5 * l + i) = p then T - u else 0 := by
            unfold lGt
            rw [if_neg (show ¬ 16 ≤ F 382 (5 * l + i) by omega), hW, hT, ← q4]
          rw [pu_r, Sm_s a0, ht]
          by_cases c2 : p = F 382 (5 * l + i)
          · rw [if_pos c2, if_pos c2.symm, ← c2, q5 p c d]; omega
          · rw [if_neg c2, if_neg (fun e => c2 e.symm), q5 p c d]; omega
        · show pfX12_gives_b16 pd_SH 5000 (pfX12_gives pd_SH 5000 k) (j + 1) G 367 l a W s u i = pfX12_gives_b16 pd_SH 5000 (pfX12_gives pd_SH 5000 k) j _ 367 l a W _ _ (i + 1)
          have hr := q5 (F 382 (5 * l + i)) (by omega) (by omega)
          have hr2 := hg (F 382 (5 * l + i)) (by omega) (by omega)
          have hr3 := hpart (F 382 (5 * l + i))
          rw [hs1] at hd hm0 hm1 ⊢
          simp (disch := omega) only [pfX12_gives_b16, pfX12_gives_b106, pl_l, pl_b, pl_iT, pl_t, pl_f, lm_1 q1, lm_14 q1, lm_15 q1, lm_16 q1, lm_17 q1, lm_18 q1, lm_19 q1, lm_20 q1, lm_21 q1, lm_22 q1, lm_23 q1, lm_24 q1, lm_25 q1, lm_26 q1, lm_27 q1, lm_28 q1, lm_29 q1, lm_30 q1, lm_31 q1, lm_32 q1, lm_33 q1, lm_34 q1, lm_35 q1, lm_36 q1, lm_37 q1, lm_39 q1, lm_40 q1, lm_42 q1, lm_43 q1, lm_44 q1, lm_45 q1, lm_47 q1, lm_48 q1, lm_49 q1, lm_50 q1, lm_51 q1, gx_367, gx_368, gx_369, gx_370, gx_371, gx_372, gx_373, gx_374, gx_375, gx_376, gx_377, gx_378, gx_379, gx_380, gx_381, gx_382, gx_383, gx_384, gx_385, gx_386, gx_387, gx_388, gx_389, gx_390, gx_391, gx_392, gx_393, gx_394, gx_395, gx_396, gx_397, gx_398, gx_399, gx_400, gx_401, gx_402, gx_403, gn_368, gn_369, gn_370, gn_371, gn_372, gn_373, gn_374, gn_375, gn_376, gn_377, gn_378, gn_379, gn_380, gn_381, gn_382, gn_383, gn_384, gn_385, gn_386, gn_387, gn_388, gn_389, gn_390, gn_391, gn_392, gn_393, gn_394, gn_395, gn_396, gn_397, gn_398, gn_399, gn_400, gn_401, gn_402, gn_403, e1, e2, e3, pl_w, pl_W, pl_i, if_pos, if_neg, ← hd]
      · have hfk : ¬ lFl (F 381) (F 382) (F 383) k (F 382 (5 * l + i) - 16) := fun e => hf (Or.inr ⟨i, a0, b0, by omega, e⟩)
        have ih := r_gives hnp k G (F 382 (5 * l + i) - 16) (F 382 (5 * l + i) - 16) (T - u) q1 (by omega) (by omega) (by rw [e1, e2, e3]; exact ht _ (by omega) (by omega)) (by rw [e1, e2, e3]; exact fun t a b => ht t a (by omega)) (by omega) (by omega) (by omega)
          (by rw [e1, e2, e3]; exact hfk) (by omega) (fun p c d => by
            have := q5 p c d; have := hg p c d; have := hpart p; omega)
        obtain ⟨G', i1, i2, i3, i4⟩ := ih
        rw [e1, e2, e3] at i4
        refine ⟨(G', lW (F 383) l (i + 1), T), ⟨i2, fun b hb' => (i3 b hb').trans (q2 b hb'), rfl, rfl, ?_⟩, ?_⟩
        · intro p c d
          show G' 397 p = _
          rw [i4 p c d, q5 p c d, Sm_s a0]
          have : lGt (F 381) (F 382) (F 383) k l a p i = lGv (F 381) (F 382) (F 383) k (F 382 (5 * l + i) - 16) (T - u) p := by
            unfold lGt
            rw [if_pos (show 16 ≤ F 382 (5 * l + i) by omega), hW, hT, ← q4]
          rw [this]; omega
        · show pfX12_gives_b16 pd_SH 5000 (pfX12_gives pd_SH 5000 k) (j + 1) G 367 l a W s u i = pfX12_gives_b16 pd_SH 5000 (pfX12_gives pd_SH 5000 k) j _ 367 l a W _ _ (i + 1)
          rw [hs1] at hd hm0 hm1 ⊢
          simp (disch := omega) only [pfX12_gives_b16, pfX12_gives_b106, pl_l, pl_b, pl_iT, pl_t, pl_f, lm_1 q1, lm_14 q1, lm_15 q1, lm_16 q1, lm_17 q1, lm_18 q1, lm_19 q1, lm_20 q1, lm_21 q1, lm_22 q1, lm_23 q1, lm_24 q1, lm_25 q1, lm_26 q1, lm_27 q1, lm_28 q1, lm_29 q1, lm_30 q1, lm_31 q1, lm_32 q1, lm_33 q1, lm_34 q1, lm_35 q1, lm_36 q1, lm_37 q1, lm_39 q1, lm_40 q1, lm_42 q1, lm_43 q1, lm_44 q1, lm_45 q1, lm_47 q1, lm_48 q1, lm_49 q1, lm_50 q1, lm_51 q1, gx_367, gx_368, gx_369, gx_370, gx_371, gx_372, gx_373, gx_374, gx_375, gx_376, gx_377, gx_378, gx_379, gx_380, gx_381, gx_382, gx_383, gx_384, gx_385, gx_386, gx_387, gx_388, gx_389, gx_390, gx_391, gx_392, gx_393, gx_394, gx_395, gx_396, gx_397, gx_398, gx_399, gx_400, gx_401, gx_402, gx_403, gn_368, gn_369, gn_370, gn_371, gn_372, gn_373, gn_374, gn_375, gn_376, gn_377, gn_378, gn_379, gn_380, gn_381, gn_382, gn_383, gn_384, gn_385, gn_386, gn_387, gn_388, gn_389, gn_390, gn_391, gn_392, gn_393, gn_394, gn_395, gn_396, gn_397, gn_398, gn_399, gn_400, gn_401, gn_402, gn_403, e1, e2, e3, pl_w, pl_W, pl_i, if_pos, if_neg, ← hd, i1]
    · intro j ⟨G, s, u⟩ ⟨q1, q2, q3, q4, q5⟩
      simp only at q1 q2 q3 q4 q5
      refine ⟨G, ?_, q1, q2, fun p c d => ?_⟩
      · show pfX12_gives_b16 pd_SH 5000 (pfX12_gives pd_SH 5000 k) (j + 1) G 367 l a W s u _ = _
        have e1 : G 381 = F 381 := q2 381 (by decide)
        simp (disch := omega) only [pfX12_gives_b16, pl_l, pl_b, pl_iT, pl_t, pl_f, lm_1 q1, lm_14 q1, lm_15 q1, lm_16 q1, lm_17 q1, lm_18 q1, lm_19 q1, lm_20 q1, lm_21 q1, lm_22 q1, lm_23 q1, lm_24 q1, lm_25 q1, lm_26 q1, lm_27 q1, lm_28 q1, lm_29 q1, lm_30 q1, lm_31 q1, lm_32 q1, lm_33 q1, lm_34 q1, lm_35 q1, lm_36 q1, lm_37 q1, lm_39 q1, lm_40 q1, lm_42 q1, lm_43 q1, lm_44 q1, lm_45 q1, lm_47 q1, lm_48 q1, lm_49 q1, lm_50 q1, lm_51 q1, gx_367, gx_368, gx_369, gx_370, gx_371, gx_372, gx_373, gx_374, gx_375, gx_376, gx_377, gx_378, gx_379, gx_380, gx_381, gx_382, gx_383, gx_384, gx_385, gx_386, gx_387, gx_388, gx_389, gx_390, gx_391, gx_392, gx_393, gx_394, gx_395, gx_396, gx_397, gx_398, gx_399, gx_400, gx_401, gx_402, gx_403, gn_368, gn_369, gn_370, gn_371, gn_372, gn_373, gn_374, gn_375, gn_376, gn_377, gn_378, gn_379, gn_380, gn_381, gn_382, gn_383, gn_384, gn_385, gn_386, gn_387, gn_388, gn_389, gn_390, gn_391, gn_392, gn_393, gn_394, gn_395, gn_396, gn_397, gn_398, gn_399, gn_400, gn_401, gn_402, gn_403, e1, pl_w, pl_W, pl_i, if_pos, if_neg]
      · rw [q5 p c d, lGv_s]

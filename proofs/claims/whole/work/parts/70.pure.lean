/-! the reference: the views, on -/
theorem vF.up1 {F G : pd_F} (h : vF F G) {v : Int} : vF F (pd_up G 367 46 v) := ⟨fun b x y => by rw [pu_a x]; exact h.1 b x y, fun j x => by rw [pu_r, if_neg x]; exact h.2 j x⟩
theorem vF.row {F G H : pd_F} (h : vF F G) {a : Int} (ha : 397 ≤ a ∧ a ≤ 403) (g : ∀ b, b ≠ a → H b = G b) : vF F H := ⟨fun b x y => (g b (by omega)).trans (h.1 b x y), fun j x => by rw [g 367 (by omega)]; exact h.2 j x⟩
section Views
variable {F : pd_F}
theorem r_listOf {G : pd_F} {a : Int} (h : 0 ≤ a ∧ a < 1000) : pfX12_listOf pd_SH 5000 G a = some (5 + a, G) := by
  unfold pfX12_listOf
  rw [pl_w (by omega)]
theorem r_fails8 (hb : bOk F) {G : pd_F} (g1 : pd_Ly G) (e1 : G 381 = F 381) (e2 : G 382 = F 382) (e3 : G 383 = F 383) {a : Int} (h0 : 0 ≤ a) (h1 : a < F 371 0) : pfX12_fails pd_SH 5000 8 G 367 (5 + a) = some (ci (lFl (F 381) (F 382) (F 383) 8 (5 + a)) 1 0, G) := by
  obtain ⟨⟨b0, b1, b2, b3, b4, b5, b6, b7⟩, -⟩ := id hb
  have := r_fails g1 (np := F 369 0) b1 8 (5 + a) (F 370 0) (by omega) (by rw [e1, e2, e3]; exact b7 a h0 h1) (by rw [e1, e2, e3]; exact b6) b2 (by omega) b3
  rw [e1, e2, e3] at this
  exact this
theorem r_gives8 (hb : bOk F) {G : pd_F} (g1 : pd_Ly G) (e1 : G 381 = F 381) (e2 : G 382 = F 382) (e3 : G 383 = F 383) {a v : Int} (h0 : 0 ≤ a) (h1 : a < F 371 0) (hf : ¬ lFl (F 381) (F 382) (F 383) 8 (5 + a)) (hv : 0 ≤ v ∧ v ≤ 9999999) (hg : ∀ p, 0 ≤ p → p < 12 → 0 ≤ G 397 p ∧ G 397 p ≤ 100000000000) :
    ∃ F', pfX12_gives pd_SH 5000 8 G 367 (5 + a) v = some F' ∧ pd_Ly F' ∧ (∀ b, b ≠ 397 → F' b = G b) ∧ ∀ p, 0 ≤ p → p < 12 → F' 397 p = G 397 p + lGv (F 381) (F 382) (F 383) 8 (5 + a) v p := by
  obtain ⟨⟨b0, b1, b2, b3, b4, b5, b6, b7⟩, -⟩ := id hb
  have := r_gives (np := F 369 0) b1 8 G (5 + a) (F 370 0) v g1 (by omega) (by omega) (by rw [e1, e2, e3]; exact b7 a h0 h1) (by rw [e1, e2, e3]; exact b6) b2 (by omega) b3 (by rw [e1, e2, e3]; exact hf) hv (fun p x y => by have := hg p x y; omega)
  rw [e1, e2, e3] at this
  exact this
theorem r_v158 (hb : bOk F) (hs : aOk F (F 393)) {G : pd_F} (g1 : pd_Ly G) (g2 : vF F G) (h1 : G 367 46 = sD F (F 393)) (h2 : ∀ p, 0 ≤ p → p < F 369 0 → G 398 p = sN F (F 393) p) (h3 : ∀ d, 0 ≤ d → d < 12 → G 400 d = sHas F (F 393) d) (h4 : ∀ d, 0 ≤ d → d < 12 → G 401 d = 0) (h5 : ∀ d, 0 ≤ d → d < 12 → G 402 d = 0) (h6 : ∀ d, 0 ≤ d → d < 12 → G 403 d = ci (sIn F (F 393) d) 1 0)
    (h7 : ∀ p, 0 ≤ p → p < 12 → G 397 p = 0) :
    ∃ F', pfX12_laysViews_b158 pd_SH 5000 5000 G 367 0 = some F' ∧ pd_Ly F' ∧ vF F F' ∧ vP F (F 393) F' := by
  obtain ⟨⟨b0, b1, b2, b3, b4, b5, b6, b7⟩, -, c0, c1, c2, -⟩ := id hb
  refine pl_for (f := fun j (q : pd_F) i => pfX12_laysViews_b158 pd_SH 5000 j q 367 i)
    (P := fun i q => pd_Ly q ∧ vF F q ∧ q 367 46 = sD F (F 393) ∧ (∀ p, 0 ≤ p → p < F 369 0 → q 398 p = sN F (F 393) p) ∧ (∀ d, 0 ≤ d → d < 12 → q 400 d = sHas F (F 393) d) ∧ (∀ d, 0 ≤ d → d < 12 → q 401 d = 0) ∧ (∀ d, 0 ≤ d → d < 12 → q 402 d = 0) ∧ (∀ d, 0 ≤ d → d < 12 → q 403 d = ci (sIn F (F 393) d) 1 0) ∧ ∀ p, 0 ≤ p → p < 12 → q 397 p = Sm (fun h => gT F (F 393) h p) i) (N := F 372 0)
    (res := fun o => ∃ F', o = some F' ∧ pd_Ly F' ∧ vF F F' ∧ vP F (F 393) F') ?_ ?_ 5000 G 0 (by omega) c0.1 (by omega) ⟨g1, g2, h1, h2, h3, h4, h5, h6, fun d a b => by rw [h7 d a b, Sm_0]⟩
  · intro j G i a b ⟨q1, q2, q3, q4, q5, q6, q7, q8, q9⟩
    left
    have e0 : G 372 = F 372 := q2.r (by decide)
    have e1 : G 381 = F 381 := q2.r (by decide)
    have e2 : G 382 = F 382 := q2.r (by decide)
    have e3 : G 383 = F 383 := q2.r (by decide)
    have e4 : G 393 = F 393 := q2.r (by decide)
    have e5 : G 384 = F 384 := q2.r (by decide)
    have e6 : G 385 = F 385 := q2.r (by decide)
    have e7 : G 386 = F 386 := q2.r (by decide)
    have e8 : G 387 = F 387 := q2.r (by decide)
    have c := c2 i a b
    have cs := hs.1 (F 384 i) c.1.1 c.1.2
    have hl := r_listOf (G := G) (a := F 384 i) (by omega)
    have hf := r_fails8 hb q1 e1 e2 e3 c.1.1 c.1.2
    rcases ci_o (lFl (F 381) (F 382) (F 383) 8 (5 + F 384 i)) (1 : Int) 0 with ⟨k, k'⟩ | ⟨k, k'⟩
    · refine ⟨G, ⟨q1, q2, q3, q4, q5, q6, q7, q8, fun p x y => ?_⟩, ?_⟩
      · rw [Sm_s a, q9 p x y]
        have : gT F (F 393) i p = 0 := by unfold gT gH; rw [ci_t k]; split <;> rfl
        omega
      · show pfX12_laysViews_b158 pd_SH 5000 (j + 1) G 367 i = pfX12_laysViews_b158 pd_SH 5000 j _ 367 (i + 1)
        rw [k'] at hf
        simp (disch := omega) only [pfX12_laysViews_b158, pfX12_laysViews_b257, pl_l, pl_b, pl_iT, pl_t, pl_f, lm_1 q1, lm_14 q1, lm_15 q1, lm_16 q1, lm_17 q1, lm_18 q1, lm_19 q1, lm_20 q1, lm_21 q1, lm_22 q1, lm_23 q1, lm_24 q1, lm_25 q1, lm_26 q1, lm_27 q1, lm_28 q1, lm_29 q1, lm_30 q1, lm_31 q1, lm_32 q1, lm_33 q1, lm_34 q1, lm_35 q1, lm_36 q1, lm_37 q1, lm_39 q1, lm_40 q1, lm_42 q1, lm_43 q1, lm_44 q1, lm_45 q1, lm_47 q1, lm_48 q1, lm_49 q1, lm_50 q1, lm_51 q1, gx_367, gx_368, gx_369, gx_370, gx_371, gx_372, gx_373, gx_374, gx_375, gx_376, gx_377, gx_378, gx_379, gx_380, gx_381, gx_382, gx_383, gx_384, gx_385, gx_386, gx_387, gx_388, gx_389, gx_390, gx_391, gx_392, gx_393, gx_394, gx_395, gx_396, gx_397, gx_398, gx_399, gx_400, gx_401, gx_402, gx_403, gn_368, gn_369, gn_370, gn_371, gn_372, gn_373, gn_374, gn_375, gn_376, gn_377, gn_378, gn_379, gn_380, gn_381, gn_382, gn_383, gn_384, gn_385, gn_386, gn_387, gn_388, gn_389, gn_390, gn_391, gn_392, gn_393, gn_394, gn_395, gn_396, gn_397, gn_398, gn_399, gn_400, gn_401, gn_402, gn_403, e0, e5, hl, hf, pl_w, pl_i, if_pos, if_neg]
    · rw [k'] at hf
      by_cases z : F 386 i ≤ F 393 71 ∧ F 393 71 ≤ F 387 i
      · have bd : ∀ p, 0 ≤ Sm (fun h => gT F (F 393) h p) i ∧ Sm (fun h => gT F (F 393) h p) i ≤ 9999999 * i := fun p => by
          have := Sm_bd (f := fun h => gT F (F 393) h p) (lo := 0) (hi := 9999999) a (fun l x y => gT_bd hb hs x (by omega))
          omega
        obtain ⟨G', f1, f2, f3, f4⟩ := r_gives8 hb q1 e1 e2 e3 (v := min (F 385 i) (F 393 (F 384 i))) c.1.1 c.1.2 k (by omega) (fun p x y => by rw [q9 p x y]; have := bd p; omega)
        refine ⟨G', ⟨f2, q2.row (by decide) f3, by rw [f3 _ (by decide)]; exact q3, by rw [f3 _ (by decide)]; exact q4, by rw [f3 _ (by decide)]; exact q5, by rw [f3 _ (by decide)]; exact q6, by rw [f3 _ (by decide)]; exact q7, by rw [f3 _ (by decide)]; exact q8, fun p x y => ?_⟩, ?_⟩
        · rw [f4 p x y, Sm_s a, q9 p x y]
          have : gT F (F 393) i p = lGv (F 381) (F 382) (F 383) 8 (5 + F 384 i) (min (F 385 i) (F 393 (F 384 i))) p := by unfold gT gH; rw [if_pos z, ci_f k]
          rw [this]
        · show pfX12_laysViews_b158 pd_SH 5000 (j + 1) G 367 i = pfX12_laysViews_b158 pd_SH 5000 j _ 367 (i + 1)
          by_cases w : F 385 i ≥ F 393 (F 384 i)
          · rw [show min (F 385 i) (F 393 (F 384 i)) = F 393 (F 384 i) by omega] at f1
            simp (disch := omega) only [pfX12_laysViews_b158, pfX12_laysViews_b257, pfX12_laysViews_b254, pl_l, pl_b, pl_iT, pl_t, pl_f, lm_1 q1, lm_14 q1, lm_15 q1, lm_16 q1, lm_17 q1, lm_18 q1, lm_19 q1, lm_20 q1, lm_21 q1, lm_22 q1, lm_23 q1, lm_24 q1, lm_25 q1, lm_26 q1, lm_27 q1, lm_28 q1, lm_29 q1, lm_30 q1, lm_31 q1, lm_32 q1, lm_33 q1, lm_34 q1, lm_35 q1, lm_36 q1, lm_37 q1, lm_39 q1, lm_40 q1, lm_42 q1, lm_43 q1, lm_44 q1, lm_45 q1, lm_47 q1, lm_48 q1, lm_49 q1, lm_50 q1, lm_51 q1, gx_367, gx_368, gx_369, gx_370, gx_371, gx_372, gx_373, gx_374, gx_375, gx_376, gx_377, gx_378, gx_379, gx_380, gx_381, gx_382, gx_383, gx_384, gx_385, gx_386, gx_387, gx_388, gx_389, gx_390, gx_391, gx_392, gx_393, gx_394, gx_395, gx_396, gx_397, gx_398, gx_399, gx_400, gx_401, gx_402, gx_403, gn_368, gn_369, gn_370, gn_371, gn_372, gn_373, gn_374, gn_375, gn_376, gn_377, gn_378, gn_379, gn_380, gn_381, gn_382, gn_383, gn_384, gn_385, gn_386, gn_387, gn_388, gn_389, gn_390, gn_391, gn_392, gn_393, gn_394, gn_395, gn_396, gn_397, gn_398, gn_399, gn_400, gn_401, gn_402, gn_403, e0, e4, e5, e6, e7, e8, hl, hf, r_within, pl_w, pl_i, if_pos, if_neg, f1]
          · rw [show min (F 385 i) (F 393 (F 384 i)) = F 385 i by omega] at f1
            simp (disch := omega) only [pfX12_laysViews_b158, pfX12_laysViews_b257, pfX12_laysViews_b254, pl_l, pl_b, pl_iT, pl_t, pl_f, lm_1 q1, lm_14 q1, lm_15 q1, lm_16 q1, lm_17 q1, lm_18 q1, lm_19 q1, lm_20 q1, lm_21 q1, lm_22 q1, lm_23 q1, lm_24 q1, lm_25 q1, lm_26 q1, lm_27 q1, lm_28 q1, lm_29 q1, lm_30 q1, lm_31 q1, lm_32 q1, lm_33 q1, lm_34 q1, lm_35 q1, lm_36 q1, lm_37 q1, lm_39 q1, lm_40 q1, lm_42 q1, lm_43 q1, lm_44 q1, lm_45 q1, lm_47 q1, lm_48 q1, lm_49 q1, lm_50 q1, lm_51 q1, gx_367, gx_368, gx_369, gx_370, gx_371, gx_372, gx_373, gx_374, gx_375, gx_376, gx_377, gx_378, gx_379, gx_380, gx_381, gx_382, gx_383, gx_384, gx_385, gx_386, gx_387, gx_388, gx_389, gx_390, gx_391, gx_392, gx_393, gx_394, gx_395, gx_396, gx_397, gx_398, gx_399, gx_400, gx_401, gx_402, gx_403, gn_368, gn_369, gn_370, gn_371, gn_372, gn_373, gn_374, gn_375, gn_376, gn_377, gn_378, gn_379, gn_380, gn_381, gn_382, gn_383, gn_384, gn_385, gn_386, gn_387, gn_388, gn_389, gn_390, gn_391, gn_392, gn_393, gn_394, gn_395, gn_396, gn_397, gn_398, gn_399, gn_400, gn_401, gn_402, gn_403, e0, e4, e5, e6, e7, e8, hl, hf, r_within, pl_w, pl_i, if_pos, if_neg, f1]
      · refine ⟨G, ⟨q1, q2, q3, q4, q5, q6, q7, q8, fun p x y => ?_⟩, ?_⟩
        · rw [Sm_s a, q9 p x y]
          have : gT F (F 393) i p = 0 := by unfold gT; rw [if_neg z]
          omega
        · show pfX12_laysViews_b158 pd_SH 5000 (j + 1) G 367 i = pfX12_laysViews_b158 pd_SH 5000 j _ 367 (i + 1)
          simp (disch := omega) only [pfX12_laysViews_b158, pfX12_laysViews_b257, pfX12_laysViews_b254, pl_l, pl_b, pl_iT, pl_t, pl_f, lm_1 q1, lm_14 q1, lm_15 q1, lm_16 q1, lm_17 q1, lm_18 q1, lm_19 q1, lm_20 q1, lm_21 q1, lm_22 q1, lm_23 q1, lm_24 q1, lm_25 q1, lm_26 q1, lm_27 q1, lm_28 q1, lm_29 q1, lm_30 q1, lm_31 q1, lm_32 q1, lm_33 q1, lm_34 q1, lm_35 q1, lm_36 q1, lm_37 q1, lm_39 q1, lm_40 q1, lm_42 q1, lm_43 q1, lm_44 q1, lm_45 q1, lm_47 q1, lm_48 q1, lm_49 q1, lm_50 q1, lm_51 q1, gx_367, gx_368, gx_369, gx_370, gx_371, gx_372, gx_373, gx_374, gx_375, gx_376, gx_377, gx_378, gx_379, gx_380, gx_381, gx_382, gx_383, gx_384, gx_385, gx_386, gx_387, gx_388, gx_389, gx_390, gx_391, gx_392, gx_393, gx_394, gx_395, gx_396, gx_397, gx_398, gx_399, gx_400, gx_401, gx_402, gx_403, gn_368, gn_369, gn_370, gn_371, gn_372, gn_373, gn_374, gn_375, gn_376, gn_377, gn_378, gn_379, gn_380, gn_381, gn_382, gn_383, gn_384, gn_385, gn_386, gn_387, gn_388, gn_389, gn_390, gn_391, gn_392, gn_393, gn_394, gn_395, gn_396, gn_397, gn_398, gn_399, gn_400, gn_401, gn_402, gn_403, e0, e4, e5, e6, e7, e8, hl, hf, r_within, pl_w, pl_i, if_pos, if_neg]
  · intro j G ⟨q1, q2, q3, q4, q5, q6, q7, q8, q9⟩
    have e0 : G 372 = F 372 := q2.r (by decide)
    obtain ⟨F', k1, k2⟩ := r_v265 hb hs q1 q2 q3 q4 q5 q6 q7 q8 q9
    refine ⟨F', ?_, k2⟩
    show pfX12_laysViews_b158 pd_SH 5000 (j + 1) G 367 _ = _
    simp (disch := omega) only [pfX12_laysViews_b158, pfX12_laysViews_b263, pl_l, pl_b, pl_iT, pl_t, pl_f, lm_1 q1, lm_14 q1, lm_15 q1, lm_16 q1, lm_17 q1, lm_18 q1, lm_19 q1, lm_20 q1, lm_21 q1, lm_22 q1, lm_23 q1, lm_24 q1, lm_25 q1, lm_26 q1, lm_27 q1, lm_28 q1, lm_29 q1, lm_30 q1, lm_31 q1, lm_32 q1, lm_33 q1, lm_34 q1, lm_35 q1, lm_36 q1, lm_37 q1, lm_39 q1, lm_40 q1, lm_42 q1, lm_43 q1, lm_44 q1, lm_45 q1, lm_47 q1, lm_48 q1, lm_49 q1, lm_50 q1, lm_51 q1, gx_367, gx_368, gx_369, gx_370, gx_371, gx_372, gx_373, gx_374, gx_375, gx_376, gx_377, gx_378, gx_379, gx_380, gx_381, gx_382, gx_383, gx_384, gx_385, gx_386, gx_387, gx_388, gx_389, gx_390, gx_391, gx_392, gx_393, gx_394, gx_395, gx_396, gx_397, gx_398, gx_399, gx_400, gx_401, gx_402, gx_403, gn_368, gn_369, gn_370, gn_371, gn_372, gn_373, gn_374, gn_375, gn_376, gn_377, gn_378, gn_379, gn_380, gn_381, gn_382, gn_383, gn_384, gn_385, gn_386, gn_387, gn_388, gn_389, gn_390, gn_391, gn_392, gn_393, gn_394, gn_395, gn_396, gn_397, gn_398, gn_399, gn_400, gn_401, gn_402, gn_403, e0, pl_w, pl_i, if_pos, if_neg, k1]
theorem r_v96 (hb : bOk F) (hs : aOk F (F 393)) {G : pd_F} (g1 : pd_Ly G) (g2 : vF F G) (h1 : G 367 46 = sD F (F 393)) (h2 : ∀ p, 0 ≤ p → p < F 369 0 → G 398 p = sN F (F 393) p) (h3 : ∀ d, 0 ≤ d → d < 12 → G 400 d = 0) (h4 : ∀ d, 0 ≤ d → d < 12 → G 401 d = 0) (h5 : ∀ d, 0 ≤ d → d < 12 → G 402 d = 0) (h6 : ∀ d, 0 ≤ d → d < 12 → G 403 d = 0)
    (h7 : ∀ p, 0 ≤ p → p < 12 → G 397 p = sG F (F 393) p) :
    ∃ F', pfX12_laysViews_b96 pd_SH 5000 5000 G 367 0 = some F' ∧ pd_Ly F' ∧ vF F F' ∧ vP F (F 393) F' := by
  obtain ⟨⟨b0, b1, b2, b3, b4, b5, b6, b7⟩, -, c0, c1, c2, c3, c4⟩ := id hb
  refine pl_for (f := fun j (q : pd_F) i => pfX12_laysViews_b96 pd_SH 5000 j q 367 i)
    (P := fun i q => pd_Ly q ∧ vF F q ∧ q 367 46 = sD F (F 393) ∧ (∀ p, 0 ≤ p → p < F 369 0 → q 398 p = sN F (F 393) p) ∧ (∀ d, 0 ≤ d → d < 12 → q 400 d = Sm (fun p => if sN F (F 393) p = d then sG F (F 393) p else 0) i) ∧ (∀ d, 0 ≤ d → d < 12 → q 401 d = 0) ∧ (∀ d, 0 ≤ d → d < 12 → q 402 d = 0) ∧ (∀ d, 0 ≤ d → d < 12 → q 403 d = ci (∃ p, 0 ≤ p ∧ p < i ∧ F 377 p ≠ 0 ∧ sN F (F 393) p = d) 1 0) ∧ ∀ p, 0 ≤ p → p < 12 → q 397 p = sG F (F 393) p) (N := F 369 0)
    (res := fun o => ∃ F', o = some F' ∧ pd_Ly F' ∧ vF F F' ∧ vP F (F 393) F') ?_ ?_ 5000 G 0 (by omega) b0 (by omega) ⟨g1, g2, h1, h2, fun d a b => by rw [h3 d a b, Sm_0], h4, h5, fun d a b => by rw [h6 d a b, ci_f (fun ⟨p, x, y, _⟩ => by omega)], h7⟩
  · intro j G i a b ⟨q1, q2, q3, q4, q5, q6, q7, q8, q9⟩
    left
    have e0 : G 369 = F 369 := q2.r (by decide)
    have e1 : G 377 = F 377 := q2.r (by decide)
    have n := sN_bd (D := F) (s := F 393) b0 a b
    have n2 := sD_bd (D := F) (s := F 393) b0
    have n3 := q4 i a b
    have n4 := q9 i a (by omega)
    have n5 := q5 (sN F (F 393) i) (by omega) (by omega)
    have n6 := q8 (sN F (F 393) i) (by omega) (by omega)
    have bd := Sm_if (f := sN F (F 393)) (g := sG F (F 393)) (d := sN F (F 393) i) a (fun p _ _ => sG_bd hb hs)
    have bd2 := sG_bd hb hs (p := i)
    have hi := c4 i a b
    have h01 : ci (∃ p, 0 ≤ p ∧ p < i ∧ F 377 p ≠ 0 ∧ sN F (F 393) p = sN F (F 393) i) (1 : Int) 0 = 0 ∨ ci (∃ p, 0 ≤ p ∧ p < i ∧ F 377 p ≠ 0 ∧ sN F (F 393) p = sN F (F 393) i) (1 : Int) 0 = 1 := by
      rcases ci_o (∃ p, 0 ≤ p ∧ p < i ∧ F 377 p ≠ 0 ∧ sN F (F 393) p = sN F (F 393) i) (1 : Int) 0 with k | k
      · exact Or.inr k.2
      · exact Or.inl k.2
    have ho := or01 h01 hi
    have hr : pd_or (ci (∃ p, 0 ≤ p ∧ p < i ∧ F 377 p ≠ 0 ∧ sN F (F 393) p = sN F (F 393) i) 1 0) (F 377 i) = ci (∃ p, 0 ≤ p ∧ p < i + 1 ∧ F 377 p ≠ 0 ∧ sN F (F 393) p = sN F (F 393) i) 1 0 := by
      rw [ho]
      rcases Classical.em (∃ p, 0 ≤ p ∧ p < i ∧ F 377 p ≠ 0 ∧ sN F (F 393) p = sN F (F 393) i) with k | k
      · rw [ci_t k, if_neg (by omega), ci_t]
        obtain ⟨p, x, y, z⟩ := k
        exact ⟨p, x, by omega, z⟩
      · rw [ci_f k]
        by_cases w : F 377 i = 0
        · rw [if_pos ⟨rfl, w⟩, ci_f]
          rintro ⟨p, x, y, z, u⟩
          by_cases v : p = i
          · exact z (v ▸ w)
          · exact k ⟨p, x, by omega, z, u⟩
        · rw [if_neg (fun e => w e.2), ci_t ⟨i, a, by omega, w, rfl⟩]
    have hr01 : ci (∃ p, 0 ≤ p ∧ p < i + 1 ∧ F 377 p ≠ 0 ∧ sN F (F 393) p = sN F (F 393) i) (1 : Int) 0 = 0 ∨ ci (∃ p, 0 ≤ p ∧ p < i + 1 ∧ F 377 p ≠ 0 ∧ sN F (F 393) p = sN F (F 393) i) (1 : Int) 0 = 1 := by
      rcases ci_o (∃ p, 0 ≤ p ∧ p < i + 1 ∧ F 377 p ≠ 0 ∧ sN F (F 393) p = sN F (F 393) i) (1 : Int) 0 with k | k
      · exact Or.inr k.2
      · exact Or.inl k.2
    refine ⟨pd_up (pd_up G 400 (sN F (F 393) i) (Sm (fun p => if sN F (F 393) p = sN F (F 393) i then sG F (F 393) p else 0) i + sG F (F 393) i)) 403 (sN F (F 393) i) (ci (∃ p, 0 ≤ p ∧ p < i + 1 ∧ F 377 p ≠ 0 ∧ sN F (F 393) p = sN F (F 393) i) 1 0), ⟨(q1.up (pl_rc0 sx_400 (by decide))).up (pl_rc0 sx_403 (by decide)), (q2.up (by decide)).up (by decide), by rw [pu_a (by decide), pu_a (by decide)]; exact q3, by rw [pu_a (by decide), pu_a (by decide)]; exact q4, ?_, by rw [pu_a (by decide), pu_a (by decide)]; exact q6, by rw [pu_a (by decide), pu_a (by decide)]; exact q7, ?_, by rw [pu_a (by decide), pu_a (by decide)]; exact q9⟩, ?_⟩
    · intro d x y
      rw [pu_a (by decide), pu_r, Sm_s a]
      by_cases z : d = sN F (F 393) i
      · rw [if_pos z, z, if_pos rfl]
      · rw [if_neg z, q5 d x y, if_neg (fun e => z e.symm)]; omega
    · intro d x y
      rw [pu_r]
      by_cases z : d = sN F (F 393) i
      · rw [if_pos z, z]
      · rw [if_neg z, pu_a (by decide), q8 d x y]
        refine ci_c ⟨fun ⟨p, u, v, w⟩ => ⟨p, u, by omega, w⟩, fun ⟨p, u, v, w, w2⟩ => ?_⟩
        by_cases k : p = i
        · exact absurd (k ▸ w2.symm) z
        · exact ⟨p, u, by omega, w, w2⟩
    · show pfX12_laysViews_b96 pd_SH 5000 (j + 1) G 367 i = pfX12_laysViews_b96 pd_SH 5000 j _ 367 (i + 1)
      have ly2 : pd_Ly (pd_up G 400 (sN F (F 393) i) (Sm (fun p => if sN F (F 393) p = sN F (F 393) i then sG F (F 393) p else 0) i + sG F (F 393) i)) := q1.up (pl_rc0 sx_400 (by decide))
      have p1 : pd_up G 400 (sN F (F 393) i) (Sm (fun p => if sN F (F 393) p = sN F (F 393) i then sG F (F 393) p else 0) i + sG F (F 393) i) 398 i = sN F (F 393) i := by rw [pu_a (by decide)]; exact n3
      have p2 : pd_up G 400 (sN F (F 393) i) (Sm (fun p => if sN F (F 393) p = sN F (F 393) i then sG F (F 393) p else 0) i + sG F (F 393) i) 403 (sN F (F 393) i) = ci (∃ p, 0 ≤ p ∧ p < i ∧ F 377 p ≠ 0 ∧ sN F (F 393) p = sN F (F 393) i) 1 0 := by rw [pu_a (by decide)]; exact n6
      have p3 : pd_up G 400 (sN F (F 393) i) (Sm (fun p => if sN F (F 393) p = sN F (F 393) i then sG F (F 393) p else 0) i + sG F (F 393) i) 377 = F 377 := by rw [pu_a (by decide)]; exact e1
      simp (disch := omega) only [pfX12_laysViews_b96, pl_l, pl_b, pl_iT, pl_t, pl_f, lm_1 q1, lm_14 q1, lm_15 q1, lm_16 q1, lm_17 q1, lm_18 q1, lm_19 q1, lm_20 q1, lm_21 q1, lm_22 q1, lm_23 q1, lm_24 q1, lm_25 q1, lm_26 q1, lm_27 q1, lm_28 q1, lm_29 q1, lm_30 q1, lm_31 q1, lm_32 q1, lm_33 q1, lm_34 q1, lm_35 q1, lm_36 q1, lm_37 q1, lm_39 q1, lm_40 q1, lm_42 q1, lm_43 q1, lm_44 q1, lm_45 q1, lm_47 q1, lm_48 q1, lm_49 q1, lm_50 q1, lm_51 q1, gx_367, gx_368, gx_369, gx_370, gx_371, gx_372, gx_373, gx_374, gx_375, gx_376, gx_377, gx_378, gx_379, gx_380, gx_381, gx_382, gx_383, gx_384, gx_385, gx_386, gx_387, gx_388, gx_389, gx_390, gx_391, gx_392, gx_393, gx_394, gx_395, gx_396, gx_397, gx_398, gx_399, gx_400, gx_401, gx_402, gx_403, gn_368, gn_369, gn_370, gn_371, gn_372, gn_373, gn_374, gn_375, gn_376, gn_377, gn_378, gn_379, gn_380, gn_381, gn_382, gn_383, gn_384, gn_385, gn_386, gn_387, gn_388, gn_389, gn_390, gn_391, gn_392, gn_393, gn_394, gn_395, gn_396, gn_397, gn_398, gn_399, gn_400, gn_401, gn_402, gn_403, e0, n3, n4, n5, pl_w, pl_W, pl_i, if_pos, if_neg]
      simp (disch := omega) only [pl_l, pl_b, pl_iT, pl_t, pl_f, lm_1 ly2, lm_14 ly2, lm_15 ly2, lm_16 ly2, lm_17 ly2, lm_18 ly2, lm_19 ly2, lm_20 ly2, lm_21 ly2, lm_22 ly2, lm_23 ly2, lm_24 ly2, lm_25 ly2, lm_26 ly2, lm_27 ly2, lm_28 ly2, lm_29 ly2, lm_30 ly2, lm_31 ly2, lm_32 ly2, lm_33 ly2, lm_34 ly2, lm_35 ly2, lm_36 ly2, lm_37 ly2, lm_39 ly2, lm_40 ly2, lm_42 ly2, lm_43 ly2, lm_44 ly2, lm_45 ly2, lm_47 ly2, lm_48 ly2, lm_49 ly2, lm_50 ly2, lm_51 ly2, gx_367, gx_368, gx_369, gx_370, gx_371, gx_372, gx_373, gx_374, gx_375, gx_376, gx_377, gx_378, gx_379, gx_380, gx_381, gx_382, gx_383, gx_384, gx_385, gx_386, gx_387, gx_388, gx_389, gx_390, gx_391, gx_392, gx_393, gx_394, gx_395, gx_396, gx_397, gx_398, gx_399, gx_400, gx_401, gx_402, gx_403, gn_368, gn_369, gn_370, gn_371, gn_372, gn_373, gn_374, gn_375, gn_376, gn_377, gn_378, gn_379, gn_380, gn_381, gn_382, gn_383, gn_384, gn_385, gn_386, gn_387, gn_388, gn_389, gn_390, gn_391, gn_392, gn_393, gn_394, gn_395, gn_396, gn_397, gn_398, gn_399, gn_400, gn_401, gn_402, gn_403, p1, p2, p3, hr, pl_w, pl_W, pl_i, if_pos, if_neg]
  · intro j G ⟨q1, q2, q3, q4, q5, q6, q7, q8, q9⟩
    have e0 : G 369 = F 369 := q2.r (by decide)
    obtain ⟨G1, f1, f2, f3, f4⟩ := r_sharesNothing q1
    obtain ⟨F', k1, k2⟩ := r_v158 hb hs f2 (q2.row (by decide) f3) (by rw [f3 _ (by decide)]; exact q3) (by rw [f3 _ (by decide)]; exact q4) (by rw [f3 _ (by decide)]; exact q5) (by rw [f3 _ (by decide)]; exact q6) (by rw [f3 _ (by decide)]; exact q7) (by rw [f3 _ (by decide)]; exact q8) f4
    refine ⟨F', ?_, k2⟩
    show pfX12_laysViews_b96 pd_SH 5000 (j + 1) G 367 _ = _
    simp (disch := omega) only [pfX12_laysViews_b96, pfX12_laysViews_b152, pl_l, pl_b, pl_iT, pl_t, pl_f, lm_1 q1, lm_14 q1, lm_15 q1, lm_16 q1, lm_17 q1, lm_18 q1, lm_19 q1, lm_20 q1, lm_21 q1, lm_22 q1, lm_23 q1, lm_24 q1, lm_25 q1, lm_26 q1, lm_27 q1, lm_28 q1, lm_29 q1, lm_30 q1, lm_31 q1, lm_32 q1, lm_33 q1, lm_34 q1, lm_35 q1, lm_36 q1, lm_37 q1, lm_39 q1, lm_40 q1, lm_42 q1, lm_43 q1, lm_44 q1, lm_45 q1, lm_47 q1, lm_48 q1, lm_49 q1, lm_50 q1, lm_51 q1, gx_367, gx_368, gx_369, gx_370, gx_371, gx_372, gx_373, gx_374, gx_375, gx_376, gx_377, gx_378, gx_379, gx_380, gx_381, gx_382, gx_383, gx_384, gx_385, gx_386, gx_387, gx_388, gx_389, gx_390, gx_391, gx_392, gx_393, gx_394, gx_395, gx_396, gx_397, gx_398, gx_399, gx_400, gx_401, gx_402, gx_403, gn_368, gn_369, gn_370, gn_371, gn_372, gn_373, gn_374, gn_375, gn_376, gn_377, gn_378, gn_379, gn_380, gn_381, gn_382, gn_383, gn_384, gn_385, gn_386, gn_387, gn_388, gn_389, gn_390, gn_391, gn_392, gn_393, gn_394, gn_395, gn_396, gn_397, gn_398, gn_399, gn_400, gn_401, gn_402, gn_403, e0, f1, pl_w, pl_i, if_pos, if_neg, k1]
theorem r_v52 (hb : bOk F) (hs : aOk F (F 393)) {G : pd_F} (g1 : pd_Ly G) (g2 : vF F G) (h1 : G 367 46 = sD F (F 393)) (h2 : ∀ p, 0 ≤ p → p < F 369 0 → G 398 p = sN F (F 393) p) (h3 : ∀ d, 0 ≤ d → d < 12 → G 400 d = 0) (h4 : ∀ d, 0 ≤ d → d < 12 → G 401 d = 0) (h5 : ∀ d, 0 ≤ d → d < 12 → G 402 d = 0) (h6 : ∀ d, 0 ≤ d → d < 12 → G 403 d = 0)
    (h7 : ∀ p, 0 ≤ p → p < 12 → G 397 p = 0) :
    ∃ F', pfX12_laysViews_b52 pd_SH 5000 5000 G 367 0 = some F' ∧ pd_Ly F' ∧ vF F F' ∧ vP F (F 393) F' := by
  obtain ⟨⟨b0, b1, b2, b3, b4, b5, b6, b7⟩, -, c0, c1, c2, c3, c4⟩ := id hb
  refine pl_for (f := fun j (q : pd_F) i => pfX12_laysViews_b52 pd_SH 5000 j q 367 i)
    (P := fun i q => pd_Ly q ∧ vF F q ∧ q 367 46 = sD F (F 393) ∧ (∀ p, 0 ≤ p → p < F 369 0 → q 398 p = sN F (F 393) p) ∧ (∀ d, 0 ≤ d → d < 12 → q 400 d = 0) ∧ (∀ d, 0 ≤ d → d < 12 → q 401 d = 0) ∧ (∀ d, 0 ≤ d → d < 12 → q 402 d = 0) ∧ (∀ d, 0 ≤ d → d < 12 → q 403 d = 0) ∧ ∀ p, 0 ≤ p → p < 12 → q 397 p = Sm (fun a => gA F (F 393) a p) i) (N := F 371 0)
    (res := fun o => ∃ F', o = some F' ∧ pd_Ly F' ∧ vF F F' ∧ vP F (F 393) F') ?_ ?_ 5000 G 0 (by omega) b4 (by omega) ⟨g1, g2, h1, h2, h3, h4, h5, h6, fun d a b => by rw [h7 d a b, Sm_0]⟩
  · intro j G i a b ⟨q1, q2, q3, q4, q5, q6, q7, q8, q9⟩
    left
    have e0 : G 371 = F 371 := q2.r (by decide)
    have e1 : G 381 = F 381 := q2.r (by decide)
    have e2 : G 382 = F 382 := q2.r (by decide)
    have e3 : G 383 = F 383 := q2.r (by decide)
    have e4 : G 393 = F 393 := q2.r (by decide)
    have cs := hs.1 i a b
    have hl := r_listOf (G := G) (a := i) (by omega)
    have hf := r_fails8 hb q1 e1 e2 e3 a b
    rcases ci_o (lFl (F 381) (F 382) (F 383) 8 (5 + i)) (1 : Int) 0 with ⟨k, k'⟩ | ⟨k, k'⟩
    · refine ⟨G, ⟨q1, q2, q3, q4, q5, q6, q7, q8, fun p x y => ?_⟩, ?_⟩
      · rw [Sm_s a, q9 p x y]
        have : gA F (F 393) i p = 0 := by unfold gA; rw [ci_t k]
        omega
      · show pfX12_laysViews_b52 pd_SH 5000 (j + 1) G 367 i = pfX12_laysViews_b52 pd_SH 5000 j _ 367 (i + 1)
        rw [k'] at hf
        simp (disch := omega) only [pfX12_laysViews_b52, pfX12_laysViews_b88, pl_l, pl_b, pl_iT, pl_t, pl_f, lm_1 q1, lm_14 q1, lm_15 q1, lm_16 q1, lm_17 q1, lm_18 q1, lm_19 q1, lm_20 q1, lm_21 q1, lm_22 q1, lm_23 q1, lm_24 q1, lm_25 q1, lm_26 q1, lm_27 q1, lm_28 q1, lm_29 q1, lm_30 q1, lm_31 q1, lm_32 q1, lm_33 q1, lm_34 q1, lm_35 q1, lm_36 q1, lm_37 q1, lm_39 q1, lm_40 q1, lm_42 q1, lm_43 q1, lm_44 q1, lm_45 q1, lm_47 q1, lm_48 q1, lm_49 q1, lm_50 q1, lm_51 q1, gx_367, gx_368, gx_369, gx_370, gx_371, gx_372, gx_373, gx_374, gx_375, gx_376, gx_377, gx_378, gx_379, gx_380, gx_381, gx_382, gx_383, gx_384, gx_385, gx_386, gx_387, gx_388, gx_389, gx_390, gx_391, gx_392, gx_393, gx_394, gx_395, gx_396, gx_397, gx_398, gx_399, gx_400, gx_401, gx_402, gx_403, gn_368, gn_369, gn_370, gn_371, gn_372, gn_373, gn_374, gn_375, gn_376, gn_377, gn_378, gn_379, gn_380, gn_381, gn_382, gn_383, gn_384, gn_385, gn_386, gn_387, gn_388, gn_389, gn_390, gn_391, gn_392, gn_393, gn_394, gn_395, gn_396, gn_397, gn_398, gn_399, gn_400, gn_401, gn_402, gn_403, e0, hl, hf, pl_w, pl_i, if_pos, if_neg]
    · rw [k'] at hf
      have bd : ∀ p, 0 ≤ Sm (fun h => gA F (F 393) h p) i ∧ Sm (fun h => gA F (F 393) h p) i ≤ 9999999 * i := fun p => by
        have := Sm_bd (f := fun h => gA F (F 393) h p) (lo := 0) (hi := 9999999) a (fun l x y => gA_bd hb hs x (by omega))
        omega
      obtain ⟨G', f1, f2, f3, f4⟩ := r_gives8 hb q1 e1 e2 e3 (v := F 393 i) a b k (by omega) (fun p x y => by rw [q9 p x y]; have := bd p; omega)
      refine ⟨G', ⟨f2, q2.row (by decide) f3, by rw [f3 _ (by decide)]; exact q3, by rw [f3 _ (by decide)]; exact q4, by rw [f3 _ (by decide)]; exact q5, by rw [f3 _ (by decide)]; exact q6, by rw [f3 _ (by decide)]; exact q7, by rw [f3 _ (by decide)]; exact q8, fun p x y => ?_⟩, ?_⟩
      · rw [f4 p x y, Sm_s a, q9 p x y]
        have : gA F (F 393) i p = lGv (F 381) (F 382) (F 383) 8 (5 + i) (F 393 i) p := by unfold gA; rw [ci_f k]
        rw [this]
      · show pfX12_laysViews_b52 pd_SH 5000 (j + 1) G 367 i = pfX12_laysViews_b52 pd_SH 5000 j _ 367 (i + 1)
        simp (disch := omega) only [pfX12_laysViews_b52, pfX12_laysViews_b88, pl_l, pl_b, pl_iT, pl_t, pl_f, lm_1 q1, lm_14 q1, lm_15 q1, lm_16 q1, lm_17 q1, lm_18 q1, lm_19 q1, lm_20 q1, lm_21 q1, lm_22 q1, lm_23 q1, lm_24 q1, lm_25 q1, lm_26 q1, lm_27 q1, lm_28 q1, lm_29 q1, lm_30 q1, lm_31 q1, lm_32 q1, lm_33 q1, lm_34 q1, lm_35 q1, lm_36 q1, lm_37 q1, lm_39 q1, lm_40 q1, lm_42 q1, lm_43 q1, lm_44 q1, lm_45 q1, lm_47 q1, lm_48 q1, lm_49 q1, lm_50 q1, lm_51 q1, gx_367, gx_368, gx_369, gx_370, gx_371, gx_372, gx_373, gx_374, gx_375, gx_376, gx_377, gx_378, gx_379, gx_380, gx_381, gx_382, gx_383, gx_384, gx_385, gx_386, gx_387, gx_388, gx_389, gx_390, gx_391, gx_392, gx_393, gx_394, gx_395, gx_396, gx_397, gx_398, gx_399, gx_400, gx_401, gx_402, gx_403, gn_368, gn_369, gn_370, gn_371, gn_372, gn_373, gn_374, gn_375, gn_376, gn_377, gn_378, gn_379, gn_380, gn_381, gn_382, gn_383, gn_384, gn_385, gn_386, gn_387, gn_388, gn_389, gn_390, gn_391, gn_392, gn_393, gn_394, gn_395, gn_396, gn_397, gn_398, gn_399, gn_400, gn_401, gn_402, gn_403, e0, e4, hl, hf, pl_w, pl_i, if_pos, if_neg, f1]
  · intro j G ⟨q1, q2, q3, q4, q5, q6, q7, q8, q9⟩
    have e0 : G 371 = F 371 := q2.r (by decide)
    obtain ⟨F', k1, k2⟩ := r_v96 hb hs q1 q2 q3 q4 q5 q6 q7 q8 q9
    refine ⟨F', ?_, k2⟩
    show pfX12_laysViews_b52 pd_SH 5000 (j + 1) G 367 _ = _
    simp (disch := omega) only [pfX12_laysViews_b52, pfX12_laysViews_b94, pl_l, pl_b, pl_iT, pl_t, pl_f, lm_1 q1, lm_14 q1, lm_15 q1, lm_16 q1, lm_17 q1, lm_18 q1, lm_19 q1, lm_20 q1, lm_21 q1, lm_22 q1, lm_23 q1, lm_24 q1, lm_25 q1, lm_26 q1, lm_27 q1, lm_28 q1, lm_29 q1, lm_30 q1, lm_31 q1, lm_32 q1, lm_33 q1, lm_34 q1, lm_35 q1, lm_36 q1, lm_37 q1, lm_39 q1, lm_40 q1, lm_42 q1, lm_43 q1, lm_44 q1, lm_45 q1, lm_47 q1, lm_48 q1, lm_49 q1, lm_50 q1, lm_51 q1, gx_367, gx_368, gx_369, gx_370, gx_371, gx_372, gx_373, gx_374, gx_375, gx_376, gx_377, gx_378, gx_379, gx_380, gx_381, gx_382, gx_383, gx_384, gx_385, gx_386, gx_387, gx_388, gx_389, gx_390, gx_391, gx_392, gx_393, gx_394, gx_395, gx_396, gx_397, gx_398, gx_399, gx_400, gx_401, gx_402, gx_403, gn_368, gn_369, gn_370, gn_371, gn_372, gn_373, gn_374, gn_375, gn_376, gn_377, gn_378, gn_379, gn_380, gn_381, gn_382, gn_383, gn_384, gn_385, gn_386, gn_387, gn_388, gn_389, gn_390, gn_391, gn_392, gn_393, gn_394, gn_395, gn_396, gn_397, gn_398, gn_399, gn_400, gn_401, gn_402, gn_403, e0, pl_w, pl_i, if_pos, if_neg, k1]
theorem r_laysViews (hL : pd_Ly F) (hb : bOk F) (hs : aOk F (F 393)) : ∃ F', pfX12_laysViews pd_SH 5000 F 367 = some F' ∧ pd_Ly F' ∧ vF F F' ∧ vP F (F 393) F' := by
  obtain ⟨⟨b0, b1, b2, b3, b4, b5, b6, b7⟩, d0, c0, c1, c2, c3, c4⟩ := id hb
  obtain ⟨G, f1, f2, f3, f4, f5, f6⟩ := r_laysDepositors hL (np := F 369 0) ⟨rfl, b0, b1⟩ ⟨d0, hs.2.1, hs.2.2.1⟩
  unfold pfX12_laysViews
  simp only [pl_l, pl_b, pl_iT, pl_t, pl_f, gx_367, gx_368, gx_369, gx_370, gx_371, gx_372, gx_373, gx_374, gx_375, gx_376, gx_377, gx_378, gx_379, gx_380, gx_381, gx_382, gx_383, gx_384, gx_385, gx_386, gx_387, gx_388, gx_389, gx_390, gx_391, gx_392, gx_393, gx_394, gx_395, gx_396, gx_397, gx_398, gx_399, gx_400, gx_401, gx_402, gx_403, gn_368, gn_369, gn_370, gn_371, gn_372, gn_373, gn_374, gn_375, gn_376, gn_377, gn_378, gn_379, gn_380, gn_381, gn_382, gn_383, gn_384, gn_385, gn_386, gn_387, gn_388, gn_389, gn_390, gn_391, gn_392, gn_393, gn_394, gn_395, gn_396, gn_397, gn_398, gn_399, gn_400, gn_401, gn_402, gn_403, f1]
  refine pl_for (f := fun j (q : pd_F) i => pfX12_laysViews_b6 pd_SH 5000 j q 367 i)
    (P := fun i q => pd_Ly q ∧ vF F q ∧ q 367 46 = sD F (F 393) ∧ (∀ p, 0 ≤ p → p < F 369 0 → q 398 p = sN F (F 393) p) ∧ (∀ d, 0 ≤ d → d < i → q 400 d = 0) ∧ (∀ d, 0 ≤ d → d < i → q 401 d = 0) ∧ (∀ d, 0 ≤ d → d < i → q 402 d = 0) ∧ (∀ d, 0 ≤ d → d < i → q 403 d = 0)) (N := 12)
    (res := fun o => ∃ F', o = some F' ∧ pd_Ly F' ∧ vF F F' ∧ vP F (F 393) F') ?_ ?_ 5000 G 0 (by omega) (by omega) (by omega)
    ⟨f2, ⟨fun b x y => f3 b x (by omega) (by omega), f4⟩, f5, f6, fun d x y => by omega, fun d x y => by omega, fun d x y => by omega, fun d x y => by omega⟩
  · intro j G i a b ⟨q1, q2, q3, q4, q5, q6, q7, q8⟩
    have l1 : pd_Ly (pd_up G 400 i 0) := q1.up (pl_rc0 sx_400 (by decide))
    have l2 : pd_Ly (pd_up (pd_up G 400 i 0) 401 i 0) := l1.up (pl_rc0 sx_401 (by decide))
    have l3 : pd_Ly (pd_up (pd_up (pd_up G 400 i 0) 401 i 0) 402 i 0) := l2.up (pl_rc0 sx_402 (by decide))
    refine Or.inl ⟨pd_up (pd_up (pd_up (pd_up G 400 i 0) 401 i 0) 402 i 0) 403 i 0, ⟨l3.up (pl_rc0 sx_403 (by decide)), (((q2.up (by decide)).up (by decide)).up (by decide)).up (by decide), ?_, ?_, ?_, ?_, ?_, ?_⟩, ?_⟩
    · rw [pu_a (by decide), pu_a (by decide), pu_a (by decide), pu_a (by decide)]; exact q3
    · rw [pu_a (by decide), pu_a (by decide), pu_a (by decide), pu_a (by decide)]; exact q4
    · intro d x y
      rw [pu_a (by decide), pu_a (by decide), pu_a (by decide), pu_r]
      split
      · rfl
      · exact q5 d x (by omega)
    · intro d x y
      rw [pu_a (by decide), pu_a (by decide), pu_r]
      split
      · rfl
      · rw [pu_a (by decide)]; exact q6 d x (by omega)
    · intro d x y
      rw [pu_a (by decide), pu_r]
      split
      · rfl
      · rw [pu_a (by decide), pu_a (by decide)]; exact q7 d x (by omega)
    · intro d x y
      rw [pu_r]
      split
      · rfl
      · rw [pu_a (by decide), pu_a (by decide), pu_a (by decide)]; exact q8 d x (by omega)
    · show pfX12_laysViews_b6 pd_SH 5000 (j + 1) G 367 i = _
      simp (disch := omega) only [pfX12_laysViews_b6, pl_l, pl_b, pl_iT, pl_t, pl_f, lm_1 q1, lm_14 q1, lm_15 q1, lm_16 q1, lm_17 q1, lm_18 q1, lm_19 q1, lm_20 q1, lm_21 q1, lm_22 q1, lm_23 q1, lm_24 q1, lm_25 q1, lm_26 q1, lm_27 q1, lm_28 q1, lm_29 q1, lm_30 q1, lm_31 q1, lm_32 q1, lm_33 q1, lm_34 q1, lm_35 q1, lm_36 q1, lm_37 q1, lm_39 q1, lm_40 q1, lm_42 q1, lm_43 q1, lm_44 q1, lm_45 q1, lm_47 q1, lm_48 q1, lm_49 q1, lm_50 q1, lm_51 q1, lm_1 l1, lm_14 l1, lm_15 l1, lm_16 l1, lm_17 l1, lm_18 l1, lm_19 l1, lm_20 l1, lm_21 l1, lm_22 l1, lm_23 l1, lm_24 l1, lm_25 l1, lm_26 l1, lm_27 l1, lm_28 l1, lm_29 l1, lm_30 l1, lm_31 l1, lm_32 l1, lm_33 l1, lm_34 l1, lm_35 l1, lm_36 l1, lm_37 l1, lm_39 l1, lm_40 l1, lm_42 l1, lm_43 l1, lm_44 l1, lm_45 l1, lm_47 l1, lm_48 l1, lm_49 l1, lm_50 l1, lm_51 l1, lm_1 l2, lm_14 l2, lm_15 l2, lm_16 l2, lm_17 l2, lm_18 l2, lm_19 l2, lm_20 l2, lm_21 l2, lm_22 l2, lm_23 l2, lm_24 l2, lm_25 l2, lm_26 l2, lm_27 l2, lm_28 l2, lm_29 l2, lm_30 l2, lm_31 l2, lm_32 l2, lm_33 l2, lm_34 l2, lm_35 l2, lm_36 l2, lm_37 l2, lm_39 l2, lm_40 l2, lm_42 l2, lm_43 l2, lm_44 l2, lm_45 l2, lm_47 l2, lm_48 l2, lm_49 l2, lm_50 l2, lm_51 l2, lm_1 l3, lm_14 l3, lm_15 l3, lm_16 l3, lm_17 l3, lm_18 l3, lm_19 l3, lm_20 l3, lm_21 l3, lm_22 l3, lm_23 l3, lm_24 l3, lm_25 l3, lm_26 l3, lm_27 l3, lm_28 l3, lm_29 l3, lm_30 l3, lm_31 l3, lm_32 l3, lm_33 l3, lm_34 l3, lm_35 l3, lm_36 l3, lm_37 l3, lm_39 l3, lm_40 l3, lm_42 l3, lm_43 l3, lm_44 l3, lm_45 l3, lm_47 l3, lm_48 l3, lm_49 l3, lm_50 l3, lm_51 l3, gx_367, gx_368, gx_369, gx_370, gx_371, gx_372, gx_373, gx_374, gx_375, gx_376, gx_377, gx_378, gx_379, gx_380, gx_381, gx_382, gx_383, gx_384, gx_385, gx_386, gx_387, gx_388, gx_389, gx_390, gx_391, gx_392, gx_393, gx_394, gx_395, gx_396, gx_397, gx_398, gx_399, gx_400, gx_401, gx_402, gx_403, gn_368, gn_369, gn_370, gn_371, gn_372, gn_373, gn_374, gn_375, gn_376, gn_377, gn_378, gn_379, gn_380, gn_381, gn_382, gn_383, gn_384, gn_385, gn_386, gn_387, gn_388, gn_389, gn_390, gn_391, gn_392, gn_393, gn_394, gn_395, gn_396, gn_397, gn_398, gn_399, gn_400, gn_401, gn_402, gn_403, pl_w, pl_i, if_pos, if_neg]
  · intro j G ⟨q1, q2, q3, q4, q5, q6, q7, q8⟩
    obtain ⟨G1, k1, k2, k3, k4⟩ := r_sharesNothing q1
    obtain ⟨F', k5, k6⟩ := r_v52 hb hs k2 (q2.row (by decide) k3) (by rw [k3 _ (by decide)]; exact q3) (by rw [k3 _ (by decide)]; exact q4) (by rw [k3 _ (by decide)]; exact q5) (by rw [k3 _ (by decide)]; exact q6) (by rw [k3 _ (by decide)]; exact q7) (by rw [k3 _ (by decide)]; exact q8) k4
    refine ⟨F', ?_, k6⟩
    show pfX12_laysViews_b6 pd_SH 5000 (j + 1) G 367 _ = _
    simp (disch := omega) only [pfX12_laysViews_b6, pfX12_laysViews_b46, pl_l, pl_b, pl_iT, pl_t, pl_f, lm_1 q1, lm_14 q1, lm_15 q1, lm_16 q1, lm_17 q1, lm_18 q1, lm_19 q1, lm_20 q1, lm_21 q1, lm_22 q1, lm_23 q1, lm_24 q1, lm_25 q1, lm_26 q1, lm_27 q1, lm_28 q1, lm_29 q1, lm_30 q1, lm_31 q1, lm_32 q1, lm_33 q1, lm_34 q1, lm_35 q1, lm_36 q1, lm_37 q1, lm_39 q1, lm_40 q1, lm_42 q1, lm_43 q1, lm_44 q1, lm_45 q1, lm_47 q1, lm_48 q1, lm_49 q1, lm_50 q1, lm_51 q1, gx_367, gx_368, gx_369, gx_370, gx_371, gx_372, gx_373, gx_374, gx_375, gx_376, gx_377, gx_378, gx_379, gx_380, gx_381, gx_382, gx_383, gx_384, gx_385, gx_386, gx_387, gx_388, gx_389, gx_390, gx_391, gx_392, gx_393, gx_394, gx_395, gx_396, gx_397, gx_398, gx_399, gx_400, gx_401, gx_402, gx_403, gn_368, gn_369, gn_370, gn_371, gn_372, gn_373, gn_374, gn_375, gn_376, gn_377, gn_378, gn_379, gn_380, gn_381, gn_382, gn_383, gn_384, gn_385, gn_386, gn_387, gn_388, gn_389, gn_390, gn_391, gn_392, gn_393, gn_394, gn_395, gn_396, gn_397, gn_398, gn_399, gn_400, gn_401, gn_402, gn_403, pl_w, pl_i, if_pos, if_neg, k1, k5]
end Views

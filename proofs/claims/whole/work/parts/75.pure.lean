/-! the reference's acts -/
/-- what keeps does: the row of acts is laid behind the rows to be undone, sixteen at most -/
def kF (F G : pd_F) : Prop := (∀ b, b ≠ 367 → b ≠ 394 → G b = F b) ∧ (∀ j, j ≠ 41 → G 367 j = F 367 j) ∧ G 367 41 = (if F 367 41 = 16 then 16 else F 367 41 + 1) ∧
  ∀ j i, 0 ≤ j → j < G 367 41 → 0 ≤ i → i < 111 → G 394 (111 * j + i) = if j = G 367 41 - 1 then F 393 i else F 394 (111 * (j + (if F 367 41 = 16 then 1 else 0)) + i)
theorem r_keeps {F : pd_F} (hL : pd_Ly F) (hu : 0 ≤ F 367 41 ∧ F 367 41 ≤ 16) : ∃ F', pfX12_keeps pd_SH 5000 F 367 = some F' ∧ pd_Ly F' ∧ kF F F' := by
  -- the copy of the row behind u rows
  have l51 : ∀ (G : pd_F) (u : Int), pd_Ly G → 0 ≤ u → u < 16 → G 367 41 = u → ∃ F', pfX12_keeps_b51 pd_SH 5000 5000 G 367 0 = some F' ∧ pd_Ly F' ∧ (∀ b, b ≠ 367 → b ≠ 394 → F' b = G b) ∧ (∀ j, j ≠ 41 → F' 367 j = G 367 j) ∧ F' 367 41 = u + 1 ∧ (∀ i, 0 ≤ i → i < 111 → F' 394 (111 * u + i) = G 393 i) ∧ ∀ z, 0 ≤ z → z < 111 * u → F' 394 z = G 394 z := by
    intro G u g1 g2 g3 g4
    refine pl_for (f := fun k (q : pd_F) i => pfX12_keeps_b51 pd_SH 5000 k q 367 i) (P := fun i q => pd_Ly q ∧ (∀ b, b ≠ 394 → q b = G b) ∧ (∀ j, 0 ≤ j → j < i → q 394 (111 * u + j) = G 393 j) ∧ ∀ z, 0 ≤ z → z < 111 * u → q 394 z = G 394 z) (N := 111)
      (res := fun o => ∃ F', o = some F' ∧ pd_Ly F' ∧ (∀ b, b ≠ 367 → b ≠ 394 → F' b = G b) ∧ (∀ j, j ≠ 41 → F' 367 j = G 367 j) ∧ F' 367 41 = u + 1 ∧ (∀ i, 0 ≤ i → i < 111 → F' 394 (111 * u + i) = G 393 i) ∧ ∀ z, 0 ≤ z → z < 111 * u → F' 394 z = G 394 z) ?_ ?_ 5000 G 0 (by omega) (by omega) (by omega) ⟨g1, fun _ _ => rfl, fun j a b => by omega, fun _ _ _ => rfl⟩
    · intro k q i a b ⟨q1, q2, q3, q4⟩
      have e1 : q 367 41 = u := by rw [q2 367 (by decide)]; exact g4
      refine Or.inl ⟨pd_up q 394 (111 * u + i) (q 393 i), ⟨q1.up (pl_rc0 sx_394 (by decide)), fun b hb => by rw [pu_a hb]; exact q2 b hb, fun j c d => ?_, fun z c d => ?_⟩, ?_⟩
      · rw [pu_r]
        by_cases e : j = i
        · rw [if_pos (by omega), q2 393 (by decide), e]
        · rw [if_neg (by omega)]; exact q3 j c (by omega)
      · rw [pu_r, if_neg (by omega)]; exact q4 z c d
      · show pfX12_keeps_b51 pd_SH 5000 (k + 1) q 367 i = _
        simp (disch := omega) only [pfX12_keeps_b51, pl_l, pl_b, pl_iT, pl_t, pl_f, lm_1 q1, lm_14 q1, lm_15 q1, lm_16 q1, lm_17 q1, lm_18 q1, lm_19 q1, lm_20 q1, lm_21 q1, lm_22 q1, lm_23 q1, lm_24 q1, lm_25 q1, lm_26 q1, lm_27 q1, lm_28 q1, lm_29 q1, lm_30 q1, lm_31 q1, lm_32 q1, lm_33 q1, lm_34 q1, lm_35 q1, lm_36 q1, lm_37 q1, lm_39 q1, lm_40 q1, lm_42 q1, lm_43 q1, lm_44 q1, lm_45 q1, lm_47 q1, lm_48 q1, lm_49 q1, lm_50 q1, lm_51 q1, gx_367, gx_368, gx_369, gx_370, gx_371, gx_372, gx_373, gx_374, gx_375, gx_376, gx_377, gx_378, gx_379, gx_380, gx_381, gx_382, gx_383, gx_384, gx_385, gx_386, gx_387, gx_388, gx_389, gx_390, gx_391, gx_392, gx_393, gx_394, gx_395, gx_396, gx_397, gx_398, gx_399, gx_400, gx_401, gx_402, gx_403, gn_368, gn_369, gn_370, gn_371, gn_372, gn_373, gn_374, gn_375, gn_376, gn_377, gn_378, gn_379, gn_380, gn_381, gn_382, gn_383, gn_384, gn_385, gn_386, gn_387, gn_388, gn_389, gn_390, gn_391, gn_392, gn_393, gn_394, gn_395, gn_396, gn_397, gn_398, gn_399, gn_400, gn_401, gn_402, gn_403, e1, pl_w, pl_i, if_pos, if_neg]
    · intro k q ⟨q1, q2, q3, q4⟩
      have e1 : q 367 41 = u := by rw [q2 367 (by decide)]; exact g4
      refine ⟨pd_up q 367 41 (u + 1), ?_, q1.up (pl_rc4 sx_367 (by decide)), fun b h1 h2 => by rw [pu_a h1]; exact q2 b h2, fun j h => by rw [pu_r, if_neg h, q2 367 (by decide)], by rw [pu_r, if_pos rfl], fun i c d => by rw [pu_a (by decide)]; exact q3 i c d, fun z c d => by rw [pu_a (by decide)]; exact q4 z c d⟩
      show pfX12_keeps_b51 pd_SH 5000 (k + 1) q 367 _ = _
      simp (disch := omega) only [pfX12_keeps_b51, pfX12_keeps_b83, pl_l, pl_b, pl_iT, pl_t, pl_f, lm_1 q1, lm_14 q1, lm_15 q1, lm_16 q1, lm_17 q1, lm_18 q1, lm_19 q1, lm_20 q1, lm_21 q1, lm_22 q1, lm_23 q1, lm_24 q1, lm_25 q1, lm_26 q1, lm_27 q1, lm_28 q1, lm_29 q1, lm_30 q1, lm_31 q1, lm_32 q1, lm_33 q1, lm_34 q1, lm_35 q1, lm_36 q1, lm_37 q1, lm_39 q1, lm_40 q1, lm_42 q1, lm_43 q1, lm_44 q1, lm_45 q1, lm_47 q1, lm_48 q1, lm_49 q1, lm_50 q1, lm_51 q1, gx_367, gx_368, gx_369, gx_370, gx_371, gx_372, gx_373, gx_374, gx_375, gx_376, gx_377, gx_378, gx_379, gx_380, gx_381, gx_382, gx_383, gx_384, gx_385, gx_386, gx_387, gx_388, gx_389, gx_390, gx_391, gx_392, gx_393, gx_394, gx_395, gx_396, gx_397, gx_398, gx_399, gx_400, gx_401, gx_402, gx_403, gn_368, gn_369, gn_370, gn_371, gn_372, gn_373, gn_374, gn_375, gn_376, gn_377, gn_378, gn_379, gn_380, gn_381, gn_382, gn_383, gn_384, gn_385, gn_386, gn_387, gn_388, gn_389, gn_390, gn_391, gn_392, gn_393, gn_394, gn_395, gn_396, gn_397, gn_398, gn_399, gn_400, gn_401, gn_402, gn_403, e1, pl_w, pl_i, if_pos, if_neg]
  unfold pfX12_keeps
  simp only [pl_l, pl_b, pl_iT, pl_t, pl_f, gx_367, gx_368, gx_369, gx_370, gx_371, gx_372, gx_373, gx_374, gx_375, gx_376, gx_377, gx_378, gx_379, gx_380, gx_381, gx_382, gx_383, gx_384, gx_385, gx_386, gx_387, gx_388, gx_389, gx_390, gx_391, gx_392, gx_393, gx_394, gx_395, gx_396, gx_397, gx_398, gx_399, gx_400, gx_401, gx_402, gx_403, gn_368, gn_369, gn_370, gn_371, gn_372, gn_373, gn_374, gn_375, gn_376, gn_377, gn_378, gn_379, gn_380, gn_381, gn_382, gn_383, gn_384, gn_385, gn_386, gn_387, gn_388, gn_389, gn_390, gn_391, gn_392, gn_393, gn_394, gn_395, gn_396, gn_397, gn_398, gn_399, gn_400, gn_401, gn_402, gn_403]
  by_cases h16 : F 367 41 = 16
  · rw [if_neg (fun h => h h16)]
    refine pl_for (f := fun k (q : pd_F) i => pfX12_keeps_b11 pd_SH 5000 k q 367 i) (P := fun i q => pd_Ly q ∧ (∀ b, b ≠ 394 → q b = F b) ∧ ∀ z, 0 ≤ z → q 394 z = if z < i then F 394 (z + 111) else F 394 z) (N := 1665)
      (res := fun o => ∃ F', o = some F' ∧ pd_Ly F' ∧ kF F F') ?_ ?_ 5000 F 0 (by omega) (by omega) (by omega) ⟨hL, fun _ _ => rfl, fun z a => by rw [if_neg (by omega)]⟩
    · intro k q i a b ⟨q1, q2, q3⟩
      have e1 := q3 (i + 111) (by omega)
      rw [if_neg (by omega)] at e1
      refine Or.inl ⟨pd_up q 394 i (F 394 (i + 111)), ⟨q1.up (pl_rc0 sx_394 (by decide)), fun b hb => by rw [pu_a hb]; exact q2 b hb, fun z c => ?_⟩, ?_⟩
      · rw [pu_r]
        by_cases e : z = i
        · rw [if_pos e, if_pos (by omega), e]
        · rw [if_neg e, q3 z c]
          by_cases e2 : z < i
          · rw [if_pos e2, if_pos (by omega)]
          · rw [if_neg e2, if_neg (by omega)]
      · show pfX12_keeps_b11 pd_SH 5000 (k + 1) q 367 i = _
        simp (disch := omega) only [pfX12_keeps_b11, pl_l, pl_b, pl_iT, pl_t, pl_f, lm_1 q1, lm_14 q1, lm_15 q1, lm_16 q1, lm_17 q1, lm_18 q1, lm_19 q1, lm_20 q1, lm_21 q1, lm_22 q1, lm_23 q1, lm_24 q1, lm_25 q1, lm_26 q1, lm_27 q1, lm_28 q1, lm_29 q1, lm_30 q1, lm_31 q1, lm_32 q1, lm_33 q1, lm_34 q1, lm_35 q1, lm_36 q1, lm_37 q1, lm_39 q1, lm_40 q1, lm_42 q1, lm_43 q1, lm_44 q1, lm_45 q1, lm_47 q1, lm_48 q1, lm_49 q1, lm_50 q1, lm_51 q1, gx_367, gx_368, gx_369, gx_370, gx_371, gx_372, gx_373, gx_374, gx_375, gx_376, gx_377, gx_378, gx_379, gx_380, gx_381, gx_382, gx_383, gx_384, gx_385, gx_386, gx_387, gx_388, gx_389, gx_390, gx_391, gx_392, gx_393, gx_394, gx_395, gx_396, gx_397, gx_398, gx_399, gx_400, gx_401, gx_402, gx_403, gn_368, gn_369, gn_370, gn_371, gn_372, gn_373, gn_374, gn_375, gn_376, gn_377, gn_378, gn_379, gn_380, gn_381, gn_382, gn_383, gn_384, gn_385, gn_386, gn_387, gn_388, gn_389, gn_390, gn_391, gn_392, gn_393, gn_394, gn_395, gn_396, gn_397, gn_398, gn_399, gn_400, gn_401, gn_402, gn_403, e1, pl_w, pl_i, if_pos, if_neg]
    · intro k q ⟨q1, q2, q3⟩
      have e1 : q 367 41 = 16 := by rw [q2 367 (by decide)]; exact h16
      obtain ⟨F', f1, f2, f3, f4, f5, f6, f7⟩ := l51 (pd_up q 367 41 15) 15 (q1.up (pl_rc4 sx_367 (by decide))) (by omega) (by omega) (by rw [pu_r, if_pos rfl])
      refine ⟨F', ?_, f2, fun b h1 h2 => by rw [f3 b h1 h2, pu_a h1, q2 b h2], fun j h => by rw [f4 j h, pu_r, if_neg h, q2 367 (by decide)], by rw [f5, if_pos h16]; rfl, fun j i a b c d => ?_⟩
      · show pfX12_keeps_b11 pd_SH 5000 (k + 1) q 367 _ = _
        simp (disch := omega) only [pfX12_keeps_b11, pfX12_keeps_b39, pfX12_keeps_b49, pl_l, pl_b, pl_iT, pl_t, pl_f, lm_1 q1, lm_14 q1, lm_15 q1, lm_16 q1, lm_17 q1, lm_18 q1, lm_19 q1, lm_20 q1, lm_21 q1, lm_22 q1, lm_23 q1, lm_24 q1, lm_25 q1, lm_26 q1, lm_27 q1, lm_28 q1, lm_29 q1, lm_30 q1, lm_31 q1, lm_32 q1, lm_33 q1, lm_34 q1, lm_35 q1, lm_36 q1, lm_37 q1, lm_39 q1, lm_40 q1, lm_42 q1, lm_43 q1, lm_44 q1, lm_45 q1, lm_47 q1, lm_48 q1, lm_49 q1, lm_50 q1, lm_51 q1, gx_367, gx_368, gx_369, gx_370, gx_371, gx_372, gx_373, gx_374, gx_375, gx_376, gx_377, gx_378, gx_379, gx_380, gx_381, gx_382, gx_383, gx_384, gx_385, gx_386, gx_387, gx_388, gx_389, gx_390, gx_391, gx_392, gx_393, gx_394, gx_395, gx_396, gx_397, gx_398, gx_399, gx_400, gx_401, gx_402, gx_403, gn_368, gn_369, gn_370, gn_371, gn_372, gn_373, gn_374, gn_375, gn_376, gn_377, gn_378, gn_379, gn_380, gn_381, gn_382, gn_383, gn_384, gn_385, gn_386, gn_387, gn_388, gn_389, gn_390, gn_391, gn_392, gn_393, gn_394, gn_395, gn_396, gn_397, gn_398, gn_399, gn_400, gn_401, gn_402, gn_403, e1, pl_w, pl_i, if_pos, if_neg]
        exact f1
      · rw [f5] at b
        rw [f5, if_pos h16]
        by_cases e : j = 15
        · rw [if_pos (by omega), e, f6 i c d, pu_a (by decide), q2 393 (by decide)]
        · rw [if_neg (by omega), f7 _ (by omega) (by omega), pu_a (by decide), q3 _ (by omega), if_pos (by omega)]
          congr 1
          omega
  · rw [if_pos h16]
    obtain ⟨F', f1, f2, f3, f4, f5, f6, f7⟩ := l51 F (F 367 41) hL hu.1 (by omega) rfl
    refine ⟨F', f1, f2, f3, f4, by rw [f5, if_neg h16], fun j i a b c d => ?_⟩
    rw [f5] at b
    rw [f5, if_neg h16]
    by_cases e : j = F 367 41
    · rw [if_pos (by omega), e, f6 i c d]
    · rw [if_neg (by omega), f7 _ (by omega) (by omega)]
      congr 1
      omega
section RC
variable {D : pd_F} {s : Int → Int} {F : pd_F}
theorem kF.S {G : pd_F} (h : rS D s F) (g : pd_Ly G) (k : kF F G) : rS D s G :=
  ⟨g, fun b x y => (k.1 b (by omega) (by omega)).trans (h.2.1 b x y), (k.1 393 (by decide) (by decide)).trans h.2.2.1, h.2.2.2⟩
/-- what an act leaves: the row s' of acts told anew, the one ahead of it kept -/
def cF (F : pd_F) (s' : Int → Int) (G : pd_F) : Prop := G 393 = s' ∧ (∀ b, b ≠ 367 → b ≠ 393 → b ≠ 394 → (b < 397 ∨ 403 < b) → G b = F b) ∧ (∀ j, j ≠ 0 → j ≠ 41 → j ≠ 46 → G 367 j = F 367 j) ∧ G 367 41 = (if F 367 41 = 16 then 16 else F 367 41 + 1) ∧
  ∀ j i, 0 ≤ j → j < G 367 41 → 0 ≤ i → i < 111 → G 394 (111 * j + i) = if j = G 367 41 - 1 then F 393 i else F 394 (111 * (j + (if F 367 41 = 16 then 1 else 0)) + i)
theorem kF.c {G H : pd_F} (k : kF (pd_up F 367 0 0) G) {s' : Int → Int} (h1 : H 393 = s') (h2 : ∀ b, b ≠ 367 → b ≠ 393 → (b < 397 ∨ 403 < b) → H b = G b) (h3 : ∀ j, j ≠ 0 → j ≠ 46 → H 367 j = G 367 j) : cF F s' H := by
  obtain ⟨k1, k2, k3, k4⟩ := k
  have e0 : pd_up F 367 0 0 367 41 = F 367 41 := by rw [pu_r, if_neg (by decide)]
  rw [e0] at k3
  refine ⟨h1, fun b a c d e => ?_, fun j a c d => ?_, ?_, fun j i a b c d => ?_⟩
  · rw [h2 b a c e, k1 b a d, pu_a a]
  · rw [h3 j a d, k2 j c, pu_r, if_neg a]
  · rw [h3 41 (by decide) (by decide)]; exact k3
  · have e1 := h3 41 (by decide) (by decide)
    rw [e1] at b ⊢
    have := k4 j i a b c d
    rw [e0, pu_a (by decide), pu_a (by decide)] at this
    rw [h2 394 (by decide) (by decide) (by decide)]
    exact this
theorem q_balance (h : rS D s F) (hu : 0 ≤ F 367 41 ∧ F 367 41 ≤ 16) {a v : Int} : (¬ ((0 ≤ a ∧ a < D 371 0) ∧ 0 ≤ v ∧ v ≤ 9999999) ∧ ∃ F', pfX12_balance pd_SH 5000 F 367 a v = some (-1, F') ∧ pd_Ly F' ∧ qF F F') ∨
    (((0 ≤ a ∧ a < D 371 0) ∧ 0 ≤ v ∧ v ≤ 9999999) ∧ ∃ F', pfX12_balance pd_SH 5000 F 367 a v = some (s a, F') ∧ pd_Ly F' ∧ cF F (ru s a v) F') := by
  have h' := h.th 0
  have n2 := h'.na
  unfold pfX12_balance
  simp only [pl_l, pl_b, pl_iT, pl_t, pl_f, gx_367, gx_368, gx_369, gx_370, gx_371, gx_372, gx_373, gx_374, gx_375, gx_376, gx_377, gx_378, gx_379, gx_380, gx_381, gx_382, gx_383, gx_384, gx_385, gx_386, gx_387, gx_388, gx_389, gx_390, gx_391, gx_392, gx_393, gx_394, gx_395, gx_396, gx_397, gx_398, gx_399, gx_400, gx_401, gx_402, gx_403, gn_368, gn_369, gn_370, gn_371, gn_372, gn_373, gn_374, gn_375, gn_376, gn_377, gn_378, gn_379, gn_380, gn_381, gn_382, gn_383, gn_384, gn_385, gn_386, gn_387, gn_388, gn_389, gn_390, gn_391, gn_392, gn_393, gn_394, gn_395, gn_396, gn_397, gn_398, gn_399, gn_400, gn_401, gn_402, gn_403, r_isAccount h'.1 n2, r_within]
  rw [h'.2.1 371 (by decide) (by decide)] at n2 ⊢
  by_cases k : 0 ≤ a ∧ a < D 371 0
  · rw [if_pos k, if_neg (by decide)]
    by_cases k2 : 0 ≤ v ∧ v ≤ 9999999
    · rw [if_pos k2, if_pos (by decide)]
      right
      refine ⟨⟨k, k2⟩, ?_⟩
      obtain ⟨G, f1, f2, f3⟩ := r_keeps h'.1 (by rw [pu_r, if_neg (by decide)]; exact hu)
      have hG := kF.S h' f2 f3
      rw [f1]
      simp only [pl_l, pl_b, pl_iT, pl_t, pl_f, gx_367, gx_368, gx_369, gx_370, gx_371, gx_372, gx_373, gx_374, gx_375, gx_376, gx_377, gx_378, gx_379, gx_380, gx_381, gx_382, gx_383, gx_384, gx_385, gx_386, gx_387, gx_388, gx_389, gx_390, gx_391, gx_392, gx_393, gx_394, gx_395, gx_396, gx_397, gx_398, gx_399, gx_400, gx_401, gx_402, gx_403, gn_368, gn_369, gn_370, gn_371, gn_372, gn_373, gn_374, gn_375, gn_376, gn_377, gn_378, gn_379, gn_380, gn_381, gn_382, gn_383, gn_384, gn_385, gn_386, gn_387, gn_388, gn_389, gn_390, gn_391, gn_392, gn_393, gn_394, gn_395, gn_396, gn_397, gn_398, gn_399, gn_400, gn_401, gn_402, gn_403, lm_1 f2, lm_14 f2, lm_15 f2, lm_16 f2, lm_17 f2, lm_18 f2, lm_19 f2, lm_20 f2, lm_21 f2, lm_22 f2, lm_23 f2, lm_24 f2, lm_25 f2, lm_26 f2, lm_27 f2, lm_28 f2, lm_29 f2, lm_30 f2, lm_31 f2, lm_32 f2, lm_33 f2, lm_34 f2, lm_35 f2, lm_36 f2, lm_37 f2, lm_39 f2, lm_40 f2, lm_42 f2, lm_43 f2, lm_44 f2, lm_45 f2, lm_47 f2, lm_48 f2, lm_49 f2, lm_50 f2, lm_51 f2, hG.2.2.1]
      rw [pl_i (by omega)]
      exact ⟨_, rfl, f2.up (pl_rc0 sx_393 (by decide)), kF.c f3 (by rw [pu_row, hG.2.2.1]) (fun b _ x _ => pu_a x) (fun j _ _ => by rw [pu_a (by decide)])⟩
    · rw [if_neg k2, if_neg (by decide)]
      exact Or.inl ⟨fun z => k2 z.2, _, rfl, h'.1, qF.th F 0⟩
  · rw [if_neg k, if_pos rfl]
    exact Or.inl ⟨fun z => k z.1, _, rfl, h'.1, qF.th F 0⟩
def tMx (w : Int) : Int := if w = 0 then 999 else 9999999
theorem q_tell (h : rS D s F) (hu : 0 ≤ F 367 41 ∧ F 367 41 ≤ 16) {w v : Int} : (¬ (F 367 12 ≠ 0 ∧ (0 ≤ w ∧ w ≤ 2) ∧ 0 ≤ v ∧ v ≤ tMx w) ∧ ∃ F', pfX12_tell pd_SH 5000 F 367 w v = some (-1, F') ∧ pd_Ly F' ∧ qF F F') ∨
    ((F 367 12 ≠ 0 ∧ (0 ≤ w ∧ w ≤ 2) ∧ 0 ≤ v ∧ v ≤ tMx w) ∧ ∃ F', pfX12_tell pd_SH 5000 F 367 w v = some (s (71 + w), F') ∧ pd_Ly F' ∧ cF F (ru s (71 + w) v) F') := by
  have h' := h.th 0
  unfold pfX12_tell
  simp only [pl_l, pl_b, pl_iT, pl_t, pl_f, gx_367, gx_368, gx_369, gx_370, gx_371, gx_372, gx_373, gx_374, gx_375, gx_376, gx_377, gx_378, gx_379, gx_380, gx_381, gx_382, gx_383, gx_384, gx_385, gx_386, gx_387, gx_388, gx_389, gx_390, gx_391, gx_392, gx_393, gx_394, gx_395, gx_396, gx_397, gx_398, gx_399, gx_400, gx_401, gx_402, gx_403, gn_368, gn_369, gn_370, gn_371, gn_372, gn_373, gn_374, gn_375, gn_376, gn_377, gn_378, gn_379, gn_380, gn_381, gn_382, gn_383, gn_384, gn_385, gn_386, gn_387, gn_388, gn_389, gn_390, gn_391, gn_392, gn_393, gn_394, gn_395, gn_396, gn_397, gn_398, gn_399, gn_400, gn_401, gn_402, gn_403, r_within, pu_r, if_neg (show (12 : Int) ≠ 0 by decide)]
  by_cases k0 : F 367 12 = 0
  · rw [if_pos k0]
    exact Or.inl ⟨fun z => z.1 k0, _, rfl, h'.1, qF.th F 0⟩
  rw [if_neg k0]
  by_cases k : 0 ≤ w ∧ w ≤ 2
  · rw [if_pos k, if_neg (by decide)]
    have key : ∀ M : Int, M = tMx w → (¬ (F 367 12 ≠ 0 ∧ (0 ≤ w ∧ w ≤ 2) ∧ 0 ≤ v ∧ v ≤ tMx w) ∧ ∃ F', pfX12_tell_b40 pd_SH 5000 (pd_up F 367 0 0) 367 w v M 0 v = some (-1, F') ∧ pd_Ly F' ∧ qF F F') ∨
      ((F 367 12 ≠ 0 ∧ (0 ≤ w ∧ w ≤ 2) ∧ 0 ≤ v ∧ v ≤ tMx w) ∧ ∃ F', pfX12_tell_b40 pd_SH 5000 (pd_up F 367 0 0) 367 w v M 0 v = some (s (71 + w), F') ∧ pd_Ly F' ∧ cF F (ru s (71 + w) v) F') := by
      intro M hM
      rw [← hM]
      unfold pfX12_tell_b40
      simp only [pl_l, pl_b, pl_iT, pl_t, pl_f, gx_367, gx_368, gx_369, gx_370, gx_371, gx_372, gx_373, gx_374, gx_375, gx_376, gx_377, gx_378, gx_379, gx_380, gx_381, gx_382, gx_383, gx_384, gx_385, gx_386, gx_387, gx_388, gx_389, gx_390, gx_391, gx_392, gx_393, gx_394, gx_395, gx_396, gx_397, gx_398, gx_399, gx_400, gx_401, gx_402, gx_403, gn_368, gn_369, gn_370, gn_371, gn_372, gn_373, gn_374, gn_375, gn_376, gn_377, gn_378, gn_379, gn_380, gn_381, gn_382, gn_383, gn_384, gn_385, gn_386, gn_387, gn_388, gn_389, gn_390, gn_391, gn_392, gn_393, gn_394, gn_395, gn_396, gn_397, gn_398, gn_399, gn_400, gn_401, gn_402, gn_403, r_within]
      by_cases k2 : 0 ≤ v ∧ v ≤ M
      · rw [if_pos k2, if_pos (by decide)]
        right
        refine ⟨⟨k0, k, k2⟩, ?_⟩
        obtain ⟨G, f1, f2, f3⟩ := r_keeps h'.1 (by rw [pu_r, if_neg (by decide)]; exact hu)
        have hG := kF.S h' f2 f3
        rw [f1]
        simp only [pl_l, pl_b, pl_iT, pl_t, pl_f, gx_367, gx_368, gx_369, gx_370, gx_371, gx_372, gx_373, gx_374, gx_375, gx_376, gx_377, gx_378, gx_379, gx_380, gx_381, gx_382, gx_383, gx_384, gx_385, gx_386, gx_387, gx_388, gx_389, gx_390, gx_391, gx_392, gx_393, gx_394, gx_395, gx_396, gx_397, gx_398, gx_399, gx_400, gx_401, gx_402, gx_403, gn_368, gn_369, gn_370, gn_371, gn_372, gn_373, gn_374, gn_375, gn_376, gn_377, gn_378, gn_379, gn_380, gn_381, gn_382, gn_383, gn_384, gn_385, gn_386, gn_387, gn_388, gn_389, gn_390, gn_391, gn_392, gn_393, gn_394, gn_395, gn_396, gn_397, gn_398, gn_399, gn_400, gn_401, gn_402, gn_403, lm_1 f2, lm_14 f2, lm_15 f2, lm_16 f2, lm_17 f2, lm_18 f2, lm_19 f2, lm_20 f2, lm_21 f2, lm_22 f2, lm_23 f2, lm_24 f2, lm_25 f2, lm_26 f2, lm_27 f2, lm_28 f2, lm_29 f2, lm_30 f2, lm_31 f2, lm_32 f2, lm_33 f2, lm_34 f2, lm_35 f2, lm_36 f2, lm_37 f2, lm_39 f2, lm_40 f2, lm_42 f2, lm_43 f2, lm_44 f2, lm_45 f2, lm_47 f2, lm_48 f2, lm_49 f2, lm_50 f2, lm_51 f2, hG.2.2.1]
        rw [pl_w (by omega), pl_i (by omega)]
        exact ⟨_, rfl, f2.up (pl_rc0 sx_393 (by decide)), kF.c f3 (by rw [pu_row, hG.2.2.1]) (fun b _ x _ => pu_a x) (fun j _ _ => by rw [pu_a (by decide)])⟩
      · rw [if_neg k2, if_neg (by decide)]
        exact Or.inl ⟨fun z => k2 z.2.2, _, rfl, h'.1, qF.th F 0⟩
    by_cases w0 : w = 0
    · rw [if_neg (show ¬ w ≠ 0 from fun z => z w0)]; exact key 999 (by unfold tMx; rw [if_pos w0])
    · rw [if_pos (show w ≠ 0 from w0)]; exact key 9999999 (by unfold tMx; rw [if_neg w0])
  · rw [if_neg k, if_pos rfl]
    exact Or.inl ⟨fun z => k z.2.1, _, rfl, h'.1, qF.th F 0⟩
theorem q_undo (hL : pd_Ly F) (hu : 0 ≤ F 367 41 ∧ F 367 41 ≤ 16) : (F 367 41 = 0 ∧ ∃ F', pfX12_undo pd_SH 5000 F 367 = some (-1, F') ∧ pd_Ly F' ∧ qF F F') ∨
    (F 367 41 ≠ 0 ∧ ∃ F', pfX12_undo pd_SH 5000 F 367 = some (F 367 41 - 1, F') ∧ pd_Ly F' ∧ (∀ b, b ≠ 367 → b ≠ 393 → F' b = F b) ∧ (∀ j, j ≠ 0 → j ≠ 41 → F' 367 j = F 367 j) ∧ F' 367 41 = F 367 41 - 1 ∧ ∀ i, 0 ≤ i → i < 111 → F' 393 i = F 394 (111 * (F 367 41 - 1) + i)) := by
  have g1 : pd_Ly (pd_up F 367 0 0) := hL.up (pl_rc4 sx_367 (by decide))
  unfold pfX12_undo
  simp only [pl_l, pl_b, pl_iT, pl_t, pl_f, gx_367, gx_368, gx_369, gx_370, gx_371, gx_372, gx_373, gx_374, gx_375, gx_376, gx_377, gx_378, gx_379, gx_380, gx_381, gx_382, gx_383, gx_384, gx_385, gx_386, gx_387, gx_388, gx_389, gx_390, gx_391, gx_392, gx_393, gx_394, gx_395, gx_396, gx_397, gx_398, gx_399, gx_400, gx_401, gx_402, gx_403, gn_368, gn_369, gn_370, gn_371, gn_372, gn_373, gn_374, gn_375, gn_376, gn_377, gn_378, gn_379, gn_380, gn_381, gn_382, gn_383, gn_384, gn_385, gn_386, gn_387, gn_388, gn_389, gn_390, gn_391, gn_392, gn_393, gn_394, gn_395, gn_396, gn_397, gn_398, gn_399, gn_400, gn_401, gn_402, gn_403, pu_r, if_neg (show (41 : Int) ≠ 0 by decide)]
  by_cases k0 : F 367 41 = 0
  · rw [if_neg (fun z => z k0)]
    exact Or.inl ⟨k0, _, rfl, g1, qF.th F 0⟩
  rw [if_pos k0, pl_w (by omega)]
  right
  refine ⟨k0, ?_⟩
  generalize hu' : F 367 41 - 1 = u
  refine pl_for (f := fun k (q : pd_F) i => pfX12_undo_b26 pd_SH 5000 k q 367 i) (P := fun i q => pd_Ly q ∧ (∀ b, b ≠ 367 → b ≠ 393 → q b = F b) ∧ (∀ j, j ≠ 0 → j ≠ 41 → q 367 j = F 367 j) ∧ q 367 41 = u ∧ ∀ j, 0 ≤ j → j < i → q 393 j = F 394 (111 * u + j)) (N := 111)
    (res := fun o => ∃ F', o = some (u, F') ∧ pd_Ly F' ∧ (∀ b, b ≠ 367 → b ≠ 393 → F' b = F b) ∧ (∀ j, j ≠ 0 → j ≠ 41 → F' 367 j = F 367 j) ∧ F' 367 41 = u ∧ ∀ i, 0 ≤ i → i < 111 → F' 393 i = F 394 (111 * u + i)) ?_ ?_ 5000 (pd_up (pd_up F 367 0 0) 367 41 u) 0 (by omega) (by omega) (by omega)
    ⟨g1.up (pl_rc4 sx_367 (by decide)), fun b x y => by rw [pu_a x, pu_a x], fun j x y => by rw [pu_r, if_neg y, pu_r, if_neg x], by rw [pu_r, if_pos rfl], fun j a b => by omega⟩
  · intro k q i a b ⟨q1, q2, q3, q4, q5⟩
    refine Or.inl ⟨pd_up q 393 i (q 394 (111 * u + i)), ⟨q1.up (pl_rc0 sx_393 (by decide)), fun b x y => by rw [pu_a y]; exact q2 b x y, fun j x y => by rw [pu_a (by decide)]; exact q3 j x y, by rw [pu_a (by decide)]; exact q4, fun j c d => ?_⟩, ?_⟩
    · rw [pu_r]
      by_cases e : j = i
      · rw [if_pos e, q2 394 (by decide) (by decide), e]
      · rw [if_neg e]; exact q5 j c (by omega)
    · show pfX12_undo_b26 pd_SH 5000 (k + 1) q 367 i = _
      simp (disch := omega) only [pfX12_undo_b26, pl_l, pl_b, pl_iT, pl_t, pl_f, lm_1 q1, lm_14 q1, lm_15 q1, lm_16 q1, lm_17 q1, lm_18 q1, lm_19 q1, lm_20 q1, lm_21 q1, lm_22 q1, lm_23 q1, lm_24 q1, lm_25 q1, lm_26 q1, lm_27 q1, lm_28 q1, lm_29 q1, lm_30 q1, lm_31 q1, lm_32 q1, lm_33 q1, lm_34 q1, lm_35 q1, lm_36 q1, lm_37 q1, lm_39 q1, lm_40 q1, lm_42 q1, lm_43 q1, lm_44 q1, lm_45 q1, lm_47 q1, lm_48 q1, lm_49 q1, lm_50 q1, lm_51 q1, gx_367, gx_368, gx_369, gx_370, gx_371, gx_372, gx_373, gx_374, gx_375, gx_376, gx_377, gx_378, gx_379, gx_380, gx_381, gx_382, gx_383, gx_384, gx_385, gx_386, gx_387, gx_388, gx_389, gx_390, gx_391, gx_392, gx_393, gx_394, gx_395, gx_396, gx_397, gx_398, gx_399, gx_400, gx_401, gx_402, gx_403, gn_368, gn_369, gn_370, gn_371, gn_372, gn_373, gn_374, gn_375, gn_376, gn_377, gn_378, gn_379, gn_380, gn_381, gn_382, gn_383, gn_384, gn_385, gn_386, gn_387, gn_388, gn_389, gn_390, gn_391, gn_392, gn_393, gn_394, gn_395, gn_396, gn_397, gn_398, gn_399, gn_400, gn_401, gn_402, gn_403, q4, pl_w, pl_i, if_pos, if_neg]
  · intro k q ⟨q1, q2, q3, q4, q5⟩
    refine ⟨q, ?_, q1, q2, q3, q4, q5⟩
    show pfX12_undo_b26 pd_SH 5000 (k + 1) q 367 _ = _
    simp (disch := omega) only [pfX12_undo_b26, pl_l, pl_b, pl_iT, pl_t, pl_f, gx_367, gx_368, gx_369, gx_370, gx_371, gx_372, gx_373, gx_374, gx_375, gx_376, gx_377, gx_378, gx_379, gx_380, gx_381, gx_382, gx_383, gx_384, gx_385, gx_386, gx_387, gx_388, gx_389, gx_390, gx_391, gx_392, gx_393, gx_394, gx_395, gx_396, gx_397, gx_398, gx_399, gx_400, gx_401, gx_402, gx_403, gn_368, gn_369, gn_370, gn_371, gn_372, gn_373, gn_374, gn_375, gn_376, gn_377, gn_378, gn_379, gn_380, gn_381, gn_382, gn_383, gn_384, gn_385, gn_386, gn_387, gn_388, gn_389, gn_390, gn_391, gn_392, gn_393, gn_394, gn_395, gn_396, gn_397, gn_398, gn_399, gn_400, gn_401, gn_402, gn_403, q4, pl_w, pl_i, if_pos, if_neg]
theorem q_keep (hL : pd_Ly F) {k back : Int} : (¬ (F 367 12 ≠ 0 ∧ (0 ≤ k ∧ k ≤ 2) ∧ (back ≠ 0 → F 396 k ≠ 0)) ∧ ∃ F', pfX12_keep pd_SH 5000 F 367 k back = some (0, F') ∧ pd_Ly F' ∧ qF F F') ∨
    ((F 367 12 ≠ 0 ∧ (0 ≤ k ∧ k ≤ 2) ∧ back = 0) ∧ ∃ F', pfX12_keep pd_SH 5000 F 367 k back = some (1, F') ∧ pd_Ly F' ∧ (∀ b, b ≠ 367 → b ≠ 395 → b ≠ 396 → F' b = F b) ∧ (∀ j, j ≠ 0 → F' 367 j = F 367 j) ∧ F' 396 = ru (F 396) k 1 ∧ ∀ j i, 0 ≤ j → j ≤ 2 → 0 ≤ i → i < 111 → F' 395 (111 * j + i) = if j = k then F 393 i else F 395 (111 * j + i)) ∨
    ((F 367 12 ≠ 0 ∧ (0 ≤ k ∧ k ≤ 2) ∧ back ≠ 0 ∧ F 396 k ≠ 0) ∧ ∃ F', pfX12_keep pd_SH 5000 F 367 k back = some (1, F') ∧ pd_Ly F' ∧ (∀ b, b ≠ 367 → b ≠ 393 → F' b = F b) ∧ (∀ j, j ≠ 0 → j ≠ 41 → F' 367 j = F 367 j) ∧ F' 367 41 = 0 ∧ ∀ i, 0 ≤ i → i < 111 → F' 393 i = F 395 (111 * k + i)) := by
  have g1 : pd_Ly (pd_up F 367 0 0) := hL.up (pl_rc4 sx_367 (by decide))
  unfold pfX12_keep
  simp only [pl_l, pl_b, pl_iT, pl_t, pl_f, gx_367, gx_368, gx_369, gx_370, gx_371, gx_372, gx_373, gx_374, gx_375, gx_376, gx_377, gx_378, gx_379, gx_380, gx_381, gx_382, gx_383, gx_384, gx_385, gx_386, gx_387, gx_388, gx_389, gx_390, gx_391, gx_392, gx_393, gx_394, gx_395, gx_396, gx_397, gx_398, gx_399, gx_400, gx_401, gx_402, gx_403, gn_368, gn_369, gn_370, gn_371, gn_372, gn_373, gn_374, gn_375, gn_376, gn_377, gn_378, gn_379, gn_380, gn_381, gn_382, gn_383, gn_384, gn_385, gn_386, gn_387, gn_388, gn_389, gn_390, gn_391, gn_392, gn_393, gn_394, gn_395, gn_396, gn_397, gn_398, gn_399, gn_400, gn_401, gn_402, gn_403, lm_1 g1, lm_14 g1, lm_15 g1, lm_16 g1, lm_17 g1, lm_18 g1, lm_19 g1, lm_20 g1, lm_21 g1, lm_22 g1, lm_23 g1, lm_24 g1, lm_25 g1, lm_26 g1, lm_27 g1, lm_28 g1, lm_29 g1, lm_30 g1, lm_31 g1, lm_32 g1, lm_33 g1, lm_34 g1, lm_35 g1, lm_36 g1, lm_37 g1, lm_39 g1, lm_40 g1, lm_42 g1, lm_43 g1, lm_44 g1, lm_45 g1, lm_47 g1, lm_48 g1, lm_49 g1, lm_50 g1, lm_51 g1, r_within, pu_r, if_neg (show (12 : Int) ≠ 0 by decide), pu_a (F := F) (a := 367) (i := 0) (v := 0) (show (396 : Int) ≠ 367 by decide)]
  by_cases k0 : F 367 12 = 0
  · rw [if_pos k0]
    exact Or.inl ⟨fun z => z.1 k0, _, rfl, g1, qF.th F 0⟩
  rw [if_neg k0]
  rcases Classical.em (¬ (0 ≤ k ∧ k ≤ 2)) with k1 | k1
  · rw [if_neg k1, if_pos rfl]
    exact Or.inl ⟨fun z => k1 z.2.1, _, rfl, g1, qF.th F 0⟩
  have k1 := Classical.not_not.mp k1
  rw [if_pos k1, if_neg (by decide)]
  by_cases b0 : back = 0
  · rw [if_pos b0]
    refine Or.inr (Or.inl ⟨⟨k0, k1, b0⟩, ?_⟩)
    unfold pfX12_keep_b39
    rw [if_pos b0]
    refine pl_for (f := fun j (q : pd_F) i => pfX12_keep_b83 pd_SH 5000 j q 367 k i) (P := fun i q => pd_Ly q ∧ (∀ b, b ≠ 367 → b ≠ 395 → q b = F b) ∧ (∀ j, j ≠ 0 → q 367 j = F 367 j) ∧ ∀ j m, 0 ≤ j → j ≤ 2 → 0 ≤ m → m < 111 → q 395 (111 * j + m) = if j = k ∧ m < i then F 393 m else F 395 (111 * j + m)) (N := 111)
      (res := fun o => ∃ F', o = some (1, F') ∧ pd_Ly F' ∧ (∀ b, b ≠ 367 → b ≠ 395 → b ≠ 396 → F' b = F b) ∧ (∀ j, j ≠ 0 → F' 367 j = F 367 j) ∧ F' 396 = ru (F 396) k 1 ∧ ∀ j i, 0 ≤ j → j ≤ 2 → 0 ≤ i → i < 111 → F' 395 (111 * j + i) = if j = k then F 393 i else F 395 (111 * j + i)) ?_ ?_ 5000 (pd_up F 367 0 0) 0 (by omega) (by omega) (by omega)
      ⟨g1, fun b x y => pu_a x, fun j x => by rw [pu_r, if_neg x], fun j m a b c d => by rw [if_neg (by omega), pu_a (by decide)]⟩
    · intro j q i a b ⟨q1, q2, q3, q4⟩
      refine Or.inl ⟨pd_up q 395 (111 * k + i) (q 393 i), ⟨q1.up (pl_rc0 sx_395 (by decide)), fun b x y => by rw [pu_a y]; exact q2 b x y, fun j x => by rw [pu_a (by decide)]; exact q3 j x, fun j m a b c d => ?_⟩, ?_⟩
      · rw [pu_r]
        by_cases e : j = k ∧ m = i
        · rw [if_pos (by rw [e.1, e.2]), if_pos (by omega), q2 393 (by decide) (by decide), e.2]
        · rw [if_neg (by omega), q4 j m a b c d]
          by_cases e2 : j = k ∧ m < i
          · rw [if_pos e2, if_pos (by omega)]
          · rw [if_neg e2, if_neg (by omega)]
      · show pfX12_keep_b83 pd_SH 5000 (j + 1) q 367 k i = _
        simp (disch := omega) only [pfX12_keep_b83, pl_l, pl_b, pl_iT, pl_t, pl_f, lm_1 q1, lm_14 q1, lm_15 q1, lm_16 q1, lm_17 q1, lm_18 q1, lm_19 q1, lm_20 q1, lm_21 q1, lm_22 q1, lm_23 q1, lm_24 q1, lm_25 q1, lm_26 q1, lm_27 q1, lm_28 q1, lm_29 q1, lm_30 q1, lm_31 q1, lm_32 q1, lm_33 q1, lm_34 q1, lm_35 q1, lm_36 q1, lm_37 q1, lm_39 q1, lm_40 q1, lm_42 q1, lm_43 q1, lm_44 q1, lm_45 q1, lm_47 q1, lm_48 q1, lm_49 q1, lm_50 q1, lm_51 q1, gx_367, gx_368, gx_369, gx_370, gx_371, gx_372, gx_373, gx_374, gx_375, gx_376, gx_377, gx_378, gx_379, gx_380, gx_381, gx_382, gx_383, gx_384, gx_385, gx_386, gx_387, gx_388, gx_389, gx_390, gx_391, gx_392, gx_393, gx_394, gx_395, gx_396, gx_397, gx_398, gx_399, gx_400, gx_401, gx_402, gx_403, gn_368, gn_369, gn_370, gn_371, gn_372, gn_373, gn_374, gn_375, gn_376, gn_377, gn_378, gn_379, gn_380, gn_381, gn_382, gn_383, gn_384, gn_385, gn_386, gn_387, gn_388, gn_389, gn_390, gn_391, gn_392, gn_393, gn_394, gn_395, gn_396, gn_397, gn_398, gn_399, gn_400, gn_401, gn_402, gn_403, pl_w, pl_i, if_pos, if_neg]
    · intro j q ⟨q1, q2, q3, q4⟩
      refine ⟨pd_up q 396 k 1, ?_, q1.up (pl_rc0 sx_396 (by decide)), fun b x y z => by rw [pu_a z]; exact q2 b x y, fun j x => by rw [pu_a (by decide)]; exact q3 j x, by rw [pu_row, q2 396 (by decide) (by decide)], fun j m a b c d => ?_⟩
      · show pfX12_keep_b83 pd_SH 5000 (j + 1) q 367 k _ = _
        simp (disch := omega) only [pfX12_keep_b83, pfX12_keep_b112, pl_l, pl_b, pl_iT, pl_t, pl_f, lm_1 q1, lm_14 q1, lm_15 q1, lm_16 q1, lm_17 q1, lm_18 q1, lm_19 q1, lm_20 q1, lm_21 q1, lm_22 q1, lm_23 q1, lm_24 q1, lm_25 q1, lm_26 q1, lm_27 q1, lm_28 q1, lm_29 q1, lm_30 q1, lm_31 q1, lm_32 q1, lm_33 q1, lm_34 q1, lm_35 q1, lm_36 q1, lm_37 q1, lm_39 q1, lm_40 q1, lm_42 q1, lm_43 q1, lm_44 q1, lm_45 q1, lm_47 q1, lm_48 q1, lm_49 q1, lm_50 q1, lm_51 q1, gx_367, gx_368, gx_369, gx_370, gx_371, gx_372, gx_373, gx_374, gx_375, gx_376, gx_377, gx_378, gx_379, gx_380, gx_381, gx_382, gx_383, gx_384, gx_385, gx_386, gx_387, gx_388, gx_389, gx_390, gx_391, gx_392, gx_393, gx_394, gx_395, gx_396, gx_397, gx_398, gx_399, gx_400, gx_401, gx_402, gx_403, gn_368, gn_369, gn_370, gn_371, gn_372, gn_373, gn_374, gn_375, gn_376, gn_377, gn_378, gn_379, gn_380, gn_381, gn_382, gn_383, gn_384, gn_385, gn_386, gn_387, gn_388, gn_389, gn_390, gn_391, gn_392, gn_393, gn_394, gn_395, gn_396, gn_397, gn_398, gn_399, gn_400, gn_401, gn_402, gn_403, pl_w, pl_i, if_pos, if_neg]
      · rw [pu_a (by decide), q4 j m a b c d]
        by_cases e2 : j = k
        · rw [if_pos e2, if_pos ⟨e2, d⟩]
        · rw [if_neg e2, if_neg (fun z => e2 z.1)]
  · rw [if_neg b0, pl_i (by omega)]
    by_cases b1 : F 396 k = 0
    · rw [if_neg (fun z => z b1)]
      exact Or.inl ⟨fun z => z.2.2 b0 b1, _, rfl, g1, qF.th F 0⟩
    rw [if_pos b1]
    refine Or.inr (Or.inr ⟨⟨k0, k1, b0, b1⟩, ?_⟩)
    unfold pfX12_keep_b39
    rw [if_neg b0]
    refine pl_for (f := fun j (q : pd_F) i => pfX12_keep_b45 pd_SH 5000 j q 367 k i) (P := fun i q => pd_Ly q ∧ (∀ b, b ≠ 367 → b ≠ 393 → q b = F b) ∧ (∀ j, j ≠ 0 → q 367 j = F 367 j) ∧ ∀ j, 0 ≤ j → j < i → q 393 j = F 395 (111 * k + j)) (N := 111)
      (res := fun o => ∃ F', o = some (1, F') ∧ pd_Ly F' ∧ (∀ b, b ≠ 367 → b ≠ 393 → F' b = F b) ∧ (∀ j, j ≠ 0 → j ≠ 41 → F' 367 j = F 367 j) ∧ F' 367 41 = 0 ∧ ∀ i, 0 ≤ i → i < 111 → F' 393 i = F 395 (111 * k + i)) ?_ ?_ 5000 (pd_up F 367 0 0) 0 (by omega) (by omega) (by omega)
      ⟨g1, fun b x y => pu_a x, fun j x => by rw [pu_r, if_neg x], fun j a b => by omega⟩
    · intro j q i a b ⟨q1, q2, q3, q4⟩
      refine Or.inl ⟨pd_up q 393 i (q 395 (111 * k + i)), ⟨q1.up (pl_rc0 sx_393 (by decide)), fun b x y => by rw [pu_a y]; exact q2 b x y, fun j x => by rw [pu_a (by decide)]; exact q3 j x, fun j c d => ?_⟩, ?_⟩
      · rw [pu_r]
        by_cases e : j = i
        · rw [if_pos e, q2 395 (by decide) (by decide), e]
        · rw [if_neg e]; exact q4 j c (by omega)
      · show pfX12_keep_b45 pd_SH 5000 (j + 1) q 367 k i = _
        simp (disch := omega) only [pfX12_keep_b45, pl_l, pl_b, pl_iT, pl_t, pl_f, lm_1 q1, lm_14 q1, lm_15 q1, lm_16 q1, lm_17 q1, lm_18 q1, lm_19 q1, lm_20 q1, lm_21 q1, lm_22 q1, lm_23 q1, lm_24 q1, lm_25 q1, lm_26 q1, lm_27 q1, lm_28 q1, lm_29 q1, lm_30 q1, lm_31 q1, lm_32 q1, lm_33 q1, lm_34 q1, lm_35 q1, lm_36 q1, lm_37 q1, lm_39 q1, lm_40 q1, lm_42 q1, lm_43 q1, lm_44 q1, lm_45 q1, lm_47 q1, lm_48 q1, lm_49 q1, lm_50 q1, lm_51 q1, gx_367, gx_368, gx_369, gx_370, gx_371, gx_372, gx_373, gx_374, gx_375, gx_376, gx_377, gx_378, gx_379, gx_380, gx_381, gx_382, gx_383, gx_384, gx_385, gx_386, gx_387, gx_388, gx_389, gx_390, gx_391, gx_392, gx_393, gx_394, gx_395, gx_396, gx_397, gx_398, gx_399, gx_400, gx_401, gx_402, gx_403, gn_368, gn_369, gn_370, gn_371, gn_372, gn_373, gn_374, gn_375, gn_376, gn_377, gn_378, gn_379, gn_380, gn_381, gn_382, gn_383, gn_384, gn_385, gn_386, gn_387, gn_388, gn_389, gn_390, gn_391, gn_392, gn_393, gn_394, gn_395, gn_396, gn_397, gn_398, gn_399, gn_400, gn_401, gn_402, gn_403, pl_w, pl_i, if_pos, if_neg]
    · intro j q ⟨q1, q2, q3, q4⟩
      refine ⟨pd_up q 367 41 0, ?_, q1.up (pl_rc4 sx_367 (by decide)), fun b x y => by rw [pu_a x]; exact q2 b x y, fun j x y => by rw [pu_r, if_neg y]; exact q3 j x, by rw [pu_r, if_pos rfl], fun j c d => by rw [pu_a (by decide)]; exact q4 j c d⟩
      show pfX12_keep_b45 pd_SH 5000 (j + 1) q 367 k _ = _
      simp (disch := omega) only [pfX12_keep_b45, pl_l, pl_b, pl_iT, pl_t, pl_f, lm_1 q1, lm_14 q1, lm_15 q1, lm_16 q1, lm_17 q1, lm_18 q1, lm_19 q1, lm_20 q1, lm_21 q1, lm_22 q1, lm_23 q1, lm_24 q1, lm_25 q1, lm_26 q1, lm_27 q1, lm_28 q1, lm_29 q1, lm_30 q1, lm_31 q1, lm_32 q1, lm_33 q1, lm_34 q1, lm_35 q1, lm_36 q1, lm_37 q1, lm_39 q1, lm_40 q1, lm_42 q1, lm_43 q1, lm_44 q1, lm_45 q1, lm_47 q1, lm_48 q1, lm_49 q1, lm_50 q1, lm_51 q1, gx_367, gx_368, gx_369, gx_370, gx_371, gx_372, gx_373, gx_374, gx_375, gx_376, gx_377, gx_378, gx_379, gx_380, gx_381, gx_382, gx_383, gx_384, gx_385, gx_386, gx_387, gx_388, gx_389, gx_390, gx_391, gx_392, gx_393, gx_394, gx_395, gx_396, gx_397, gx_398, gx_399, gx_400, gx_401, gx_402, gx_403, gn_368, gn_369, gn_370, gn_371, gn_372, gn_373, gn_374, gn_375, gn_376, gn_377, gn_378, gn_379, gn_380, gn_381, gn_382, gn_383, gn_384, gn_385, gn_386, gn_387, gn_388, gn_389, gn_390, gn_391, gn_392, gn_393, gn_394, gn_395, gn_396, gn_397, gn_398, gn_399, gn_400, gn_401, gn_402, gn_403, pl_w, pl_i, if_pos, if_neg]
theorem q_join (h : rS D s F) (hu : 0 ≤ F 367 41 ∧ F 367 41 ≤ 16) {p o : Int} : (¬ (((0 ≤ p ∧ p < D 369 0) ∧ (0 ≤ o ∧ o < D 369 0) ∧ p ≠ o) ∧ s 70 ≠ 30) ∧ ∃ F', pfX12_join pd_SH 5000 F 367 p o = some (-1, F') ∧ pd_Ly F' ∧ qF F F') ∨
    ((((0 ≤ p ∧ p < D 369 0) ∧ (0 ≤ o ∧ o < D 369 0) ∧ p ≠ o) ∧ s 70 ≠ 30) ∧ ∃ F', pfX12_join pd_SH 5000 F 367 p o = some (sD D (ru (ru (ru s (10 + 2 * s 70) p) (11 + 2 * s 70) o) 70 (s 70 + 1)), F') ∧ pd_Ly F' ∧ cF F (ru (ru (ru s (10 + 2 * s 70) p) (11 + 2 * s 70) o) 70 (s 70 + 1)) F') := by
  have h' := h.th 0
  have n1 := h'.np
  have hs := h.2.2.2.2.2.1
  unfold pfX12_join
  simp only [pl_l, pl_b, pl_iT, pl_t, pl_f, gx_367, gx_368, gx_369, gx_370, gx_371, gx_372, gx_373, gx_374, gx_375, gx_376, gx_377, gx_378, gx_379, gx_380, gx_381, gx_382, gx_383, gx_384, gx_385, gx_386, gx_387, gx_388, gx_389, gx_390, gx_391, gx_392, gx_393, gx_394, gx_395, gx_396, gx_397, gx_398, gx_399, gx_400, gx_401, gx_402, gx_403, gn_368, gn_369, gn_370, gn_371, gn_372, gn_373, gn_374, gn_375, gn_376, gn_377, gn_378, gn_379, gn_380, gn_381, gn_382, gn_383, gn_384, gn_385, gn_386, gn_387, gn_388, gn_389, gn_390, gn_391, gn_392, gn_393, gn_394, gn_395, gn_396, gn_397, gn_398, gn_399, gn_400, gn_401, gn_402, gn_403, r_isTwo h'.1 n1]
  rw [h'.2.1 369 (by decide) (by decide)] at n1 ⊢
  by_cases k : (0 ≤ p ∧ p < D 369 0) ∧ (0 ≤ o ∧ o < D 369 0) ∧ p ≠ o
  · rw [if_pos k, if_neg (by decide)]
    simp only [pl_l, pl_b, pl_iT, pl_t, pl_f, gx_367, gx_368, gx_369, gx_370, gx_371, gx_372, gx_373, gx_374, gx_375, gx_376, gx_377, gx_378, gx_379, gx_380, gx_381, gx_382, gx_383, gx_384, gx_385, gx_386, gx_387, gx_388, gx_389, gx_390, gx_391, gx_392, gx_393, gx_394, gx_395, gx_396, gx_397, gx_398, gx_399, gx_400, gx_401, gx_402, gx_403, gn_368, gn_369, gn_370, gn_371, gn_372, gn_373, gn_374, gn_375, gn_376, gn_377, gn_378, gn_379, gn_380, gn_381, gn_382, gn_383, gn_384, gn_385, gn_386, gn_387, gn_388, gn_389, gn_390, gn_391, gn_392, gn_393, gn_394, gn_395, gn_396, gn_397, gn_398, gn_399, gn_400, gn_401, gn_402, gn_403, lm_1 h'.1, lm_14 h'.1, lm_15 h'.1, lm_16 h'.1, lm_17 h'.1, lm_18 h'.1, lm_19 h'.1, lm_20 h'.1, lm_21 h'.1, lm_22 h'.1, lm_23 h'.1, lm_24 h'.1, lm_25 h'.1, lm_26 h'.1, lm_27 h'.1, lm_28 h'.1, lm_29 h'.1, lm_30 h'.1, lm_31 h'.1, lm_32 h'.1, lm_33 h'.1, lm_34 h'.1, lm_35 h'.1, lm_36 h'.1, lm_37 h'.1, lm_39 h'.1, lm_40 h'.1, lm_42 h'.1, lm_43 h'.1, lm_44 h'.1, lm_45 h'.1, lm_47 h'.1, lm_48 h'.1, lm_49 h'.1, lm_50 h'.1, lm_51 h'.1, h'.2.2.1]
    rw [pl_i (by omega)]
    by_cases k2 : s 70 = 30
    · rw [if_neg (fun z => z k2)]
      exact Or.inl ⟨fun z => z.2 k2, _, rfl, h'.1, qF.th F 0⟩
    rw [if_pos k2]
    right
    refine ⟨⟨k, k2⟩, ?_⟩
    obtain ⟨G, f1, f2, f3⟩ := r_keeps h'.1 (by rw [pu_r, if_neg (by decide)]; exact hu)
    have hG := kF.S h' f2 f3
    have e3 := hG.2.2.1
    have l1 : pd_Ly (pd_up G 393 (10 + 2 * s 70) p) := f2.up (pl_rc0 sx_393 (by decide))
    have l2 : pd_Ly (pd_up (pd_up G 393 (10 + 2 * s 70) p) 393 (11 + 2 * s 70) o) := l1.up (pl_rc0 sx_393 (by decide))
    have l3 : pd_Ly (pd_up (pd_up (pd_up G 393 (10 + 2 * s 70) p) 393 (11 + 2 * s 70) o) 393 70 (s 70 + 1)) := l2.up (pl_rc0 sx_393 (by decide))
    have r1 : pd_up G 393 (10 + 2 * s 70) p 393 70 = s 70 := by rw [pu_r, if_neg (by omega), e3]
    have r2 : pd_up (pd_up G 393 (10 + 2 * s 70) p) 393 (11 + 2 * s 70) o 393 70 = s 70 := by rw [pu_r, if_neg (by omega), r1]
    have rr : pd_up (pd_up (pd_up G 393 (10 + 2 * s 70) p) 393 (11 + 2 * s 70) o) 393 70 (s 70 + 1) 393 = ru (ru (ru s (10 + 2 * s 70) p) (11 + 2 * s 70) o) 70 (s 70 + 1) := by rw [pu_row, pu_row, pu_row, e3]
    have ha : aOk D (ru (ru (ru s (10 + 2 * s 70) p) (11 + 2 * s 70) o) 70 (s 70 + 1)) := by
      have a2 := (h.2.2.2.2.up h.2.2.2.1 (j := 10 + 2 * s 70) (v := p) (Or.inr (Or.inl (by omega)))).up h.2.2.2.1 (j := 11 + 2 * s 70) (v := o) (Or.inr (Or.inl (by omega)))
      have n := h.2.2.2.1.1.2.2.2.2.2.1
      refine ⟨fun a x y => ?_, ?_, ?_, ?_, ?_⟩
      · rw [ru_n (by omega)]; exact a2.1 a x y
      · rw [ru_e]; omega
      · rw [ru_n (by decide)]; exact a2.2.2.1
      · rw [ru_n (by decide)]; exact a2.2.2.2.1
      · rw [ru_n (by decide)]; exact a2.2.2.2.2
    have hH : rS D (ru (ru (ru s (10 + 2 * s 70) p) (11 + 2 * s 70) o) 70 (s 70 + 1)) (pd_up (pd_up (pd_up G 393 (10 + 2 * s 70) p) 393 (11 + 2 * s 70) o) 393 70 (s 70 + 1)) := hG.row l3 (fun b hb => by rw [pu_a hb, pu_a hb, pu_a hb]) rr ha
    obtain ⟨H, m1, m2, m3, m4, -⟩ := q_deps hH
    rw [f1]
    simp only [pl_l, pl_b, pl_iT, pl_t, pl_f, gx_367, gx_368, gx_369, gx_370, gx_371, gx_372, gx_373, gx_374, gx_375, gx_376, gx_377, gx_378, gx_379, gx_380, gx_381, gx_382, gx_383, gx_384, gx_385, gx_386, gx_387, gx_388, gx_389, gx_390, gx_391, gx_392, gx_393, gx_394, gx_395, gx_396, gx_397, gx_398, gx_399, gx_400, gx_401, gx_402, gx_403, gn_368, gn_369, gn_370, gn_371, gn_372, gn_373, gn_374, gn_375, gn_376, gn_377, gn_378, gn_379, gn_380, gn_381, gn_382, gn_383, gn_384, gn_385, gn_386, gn_387, gn_388, gn_389, gn_390, gn_391, gn_392, gn_393, gn_394, gn_395, gn_396, gn_397, gn_398, gn_399, gn_400, gn_401, gn_402, gn_403, lm_1 f2, lm_14 f2, lm_15 f2, lm_16 f2, lm_17 f2, lm_18 f2, lm_19 f2, lm_20 f2, lm_21 f2, lm_22 f2, lm_23 f2, lm_24 f2, lm_25 f2, lm_26 f2, lm_27 f2, lm_28 f2, lm_29 f2, lm_30 f2, lm_31 f2, lm_32 f2, lm_33 f2, lm_34 f2, lm_35 f2, lm_36 f2, lm_37 f2, lm_39 f2, lm_40 f2, lm_42 f2, lm_43 f2, lm_44 f2, lm_45 f2, lm_47 f2, lm_48 f2, lm_49 f2, lm_50 f2, lm_51 f2, e3]
    rw [pl_w (x := 2 * s 70) (by omega), pl_w (x := 10 + 2 * s 70) (by omega), pl_i (by omega), pl_i (by omega)]
    simp only [pl_l, pl_b, pl_iT, pl_t, pl_f, gx_367, gx_368, gx_369, gx_370, gx_371, gx_372, gx_373, gx_374, gx_375, gx_376, gx_377, gx_378, gx_379, gx_380, gx_381, gx_382, gx_383, gx_384, gx_385, gx_386, gx_387, gx_388, gx_389, gx_390, gx_391, gx_392, gx_393, gx_394, gx_395, gx_396, gx_397, gx_398, gx_399, gx_400, gx_401, gx_402, gx_403, gn_368, gn_369, gn_370, gn_371, gn_372, gn_373, gn_374, gn_375, gn_376, gn_377, gn_378, gn_379, gn_380, gn_381, gn_382, gn_383, gn_384, gn_385, gn_386, gn_387, gn_388, gn_389, gn_390, gn_391, gn_392, gn_393, gn_394, gn_395, gn_396, gn_397, gn_398, gn_399, gn_400, gn_401, gn_402, gn_403, lm_1 l1, lm_14 l1, lm_15 l1, lm_16 l1, lm_17 l1, lm_18 l1, lm_19 l1, lm_20 l1, lm_21 l1, lm_22 l1, lm_23 l1, lm_24 l1, lm_25 l1, lm_26 l1, lm_27 l1, lm_28 l1, lm_29 l1, lm_30 l1, lm_31 l1, lm_32 l1, lm_33 l1, lm_34 l1, lm_35 l1, lm_36 l1, lm_37 l1, lm_39 l1, lm_40 l1, lm_42 l1, lm_43 l1, lm_44 l1, lm_45 l1, lm_47 l1, lm_48 l1, lm_49 l1, lm_50 l1, lm_51 l1, r1]
    rw [pl_w (x := 2 * s 70) (by omega), pl_w (x := 10 + 2 * s 70) (by omega), show 10 + 2 * s 70 + 1 = 11 + 2 * s 70 by omega, pl_w (x := 11 + 2 * s 70) (by omega), pl_i (by omega), pl_i (by omega)]
    simp only [pl_l, pl_b, pl_iT, pl_t, pl_f, gx_367, gx_368, gx_369, gx_370, gx_371, gx_372, gx_373, gx_374, gx_375, gx_376, gx_377, gx_378, gx_379, gx_380, gx_381, gx_382, gx_383, gx_384, gx_385, gx_386, gx_387, gx_388, gx_389, gx_390, gx_391, gx_392, gx_393, gx_394, gx_395, gx_396, gx_397, gx_398, gx_399, gx_400, gx_401, gx_402, gx_403, gn_368, gn_369, gn_370, gn_371, gn_372, gn_373, gn_374, gn_375, gn_376, gn_377, gn_378, gn_379, gn_380, gn_381, gn_382, gn_383, gn_384, gn_385, gn_386, gn_387, gn_388, gn_389, gn_390, gn_391, gn_392, gn_393, gn_394, gn_395, gn_396, gn_397, gn_398, gn_399, gn_400, gn_401, gn_402, gn_403, lm_1 l2, lm_14 l2, lm_15 l2, lm_16 l2, lm_17 l2, lm_18 l2, lm_19 l2, lm_20 l2, lm_21 l2, lm_22 l2, lm_23 l2, lm_24 l2, lm_25 l2, lm_26 l2, lm_27 l2, lm_28 l2, lm_29 l2, lm_30 l2, lm_31 l2, lm_32 l2, lm_33 l2, lm_34 l2, lm_35 l2, lm_36 l2, lm_37 l2, lm_39 l2, lm_40 l2, lm_42 l2, lm_43 l2, lm_44 l2, lm_45 l2, lm_47 l2, lm_48 l2, lm_49 l2, lm_50 l2, lm_51 l2, r2]
    rw [pl_w (x := s 70 + 1) (by omega), pl_i (by omega), m1]
    simp only [pl_l, pl_b, pl_iT, pl_t, pl_f, gx_367, gx_368, gx_369, gx_370, gx_371, gx_372, gx_373, gx_374, gx_375, gx_376, gx_377, gx_378, gx_379, gx_380, gx_381, gx_382, gx_383, gx_384, gx_385, gx_386, gx_387, gx_388, gx_389, gx_390, gx_391, gx_392, gx_393, gx_394, gx_395, gx_396, gx_397, gx_398, gx_399, gx_400, gx_401, gx_402, gx_403, gn_368, gn_369, gn_370, gn_371, gn_372, gn_373, gn_374, gn_375, gn_376, gn_377, gn_378, gn_379, gn_380, gn_381, gn_382, gn_383, gn_384, gn_385, gn_386, gn_387, gn_388, gn_389, gn_390, gn_391, gn_392, gn_393, gn_394, gn_395, gn_396, gn_397, gn_398, gn_399, gn_400, gn_401, gn_402, gn_403, m4]
    refine ⟨H, rfl, m2.1, kF.c f3 m2.2.2.1 (fun b x y z => ?_) (fun j x y => ?_)⟩
    · rw [m3.1 b x z, pu_a y, pu_a y, pu_a y]
    · rw [m3.2 j y, pu_a (by decide), pu_a (by decide), pu_a (by decide)]
  · rw [if_neg k, if_pos rfl]
    exact Or.inl ⟨fun z => k z.1, _, rfl, h'.1, qF.th F 0⟩
end RC

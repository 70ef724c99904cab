/-! persons told: the line -/
/-- what reading marks leaves -/
def mC (c : Int) (F F' : pd_F) : Prop := (∀ a, a ≠ 2 → a ≠ 3 → a ≠ c → a ≠ c + 1 → F' a = F a) ∧ (∀ j, j ≠ 1 → F' c j = F c j) ∧ (∀ j, j ≠ 2 → F' 2 j = F 2 j) ∧ ∀ j, (j < 3 ∨ 8 < j) → F' 3 j = F 3 j
def mRw (x : Int) (G G' : pd_F) : Prop := (∀ a, a ≠ 367 → a ≠ 375 → a ≠ 376 → G' a = G a) ∧ (∀ j, (j < 4 ∨ 11 < j) → j ≠ 38 → G' 367 j = G 367 j) ∧ (∀ j, j ≠ x → G' 375 j = G 375 j) ∧ ∀ j, j < 3 * x → G' 376 j = G 376 j
theorem zC.m {c : Int} {F F' : pd_F} (hc : 5 ≤ c) (z : zC F F') : mC c F F' := ⟨fun a x y _ _ => z.1 a x y, fun j _ => by rw [z.1 c (by omega) (by omega)], z.2.1, z.2.2⟩
theorem zR.m {x : Int} {G G' : pd_F} (z : zR G G') : mRw x G G' := ⟨fun a y _ _ => z.1 a y, z.2, fun j _ => by rw [z.1 375 (by decide)], fun j _ => by rw [z.1 376 (by decide)]⟩
theorem mC.tr {c : Int} {F1 F2 F3 : pd_F} (h : mC c F1 F2) (g : mC c F2 F3) : mC c F1 F3 := ⟨fun a x y z w => (g.1 a x y z w).trans (h.1 a x y z w), fun j x => (g.2.1 j x).trans (h.2.1 j x), fun j x => (g.2.2.1 j x).trans (h.2.2.1 j x), fun j x => (g.2.2.2 j x).trans (h.2.2.2 j x)⟩
theorem mRw.tr {x : Int} {F1 F2 F3 : pd_F} (h : mRw x F1 F2) (g : mRw x F2 F3) : mRw x F1 F3 := ⟨fun a y z w => (g.1 a y z w).trans (h.1 a y z w), fun j y z => (g.2.1 j y z).trans (h.2.1 j y z), fun j y => (g.2.2.1 j y).trans (h.2.2.1 j y), fun j y => (g.2.2.2 j y).trans (h.2.2.2 j y)⟩
section PM
variable {b c x : Int}
theorem c_hasMark {F : pd_F} (hL : pd_Ly F) (hc : pd_sh pd_SH c = some (4, 5, 5)) (hc1 : pd_sh pd_SH (c + 1) = some (0, 0, 3)) (l0 : F c 0 = c + 1) (hm : 0 ≤ F c 1 ∧ F c 1 ≤ 3) {v : Int} : pfX5_hasMark pd_SH 5000 F c v = some (ci (∃ i, 0 ≤ i ∧ i < F c 1 ∧ F (c + 1) i = v) 1 0, F) := by
  unfold pfX5_hasMark
  refine pl_some (f := fun j i => pfX5_hasMark_b2 pd_SH 5000 j F c v i) hm.1 (fun k i a d q => ?_) (fun k i a d q => ?_) (fun k => ?_) 5000 (by omega)
  · show pfX5_hasMark_b2 pd_SH 5000 (k + 1) F c v i = _
    simp only [pfX5_hasMark_b2, pl_l, pl_b, pl_iT, pl_t, pl_f, pl_ob hc, l0, pl_ib hc1]
    rw [if_neg (by omega), pl_i (by omega), if_neg (fun z => z q)]
  · show pfX5_hasMark_b2 pd_SH 5000 (k + 1) F c v i = _
    simp only [pfX5_hasMark_b2, pl_l, pl_b, pl_iT, pl_t, pl_f, pl_ob hc, l0, pl_ib hc1]
    rw [if_neg (by omega), pl_i (by omega), if_pos q, pl_w (by omega)]
  · show pfX5_hasMark_b2 pd_SH 5000 (k + 1) F c v _ = _
    simp only [pfX5_hasMark_b2, pl_l, pl_b, pl_iT, pl_t, pl_f, pl_ob hc]
    rw [if_pos (by omega)]
theorem j_marks (hc : pd_sh pd_SH c = some (4, 5, 5)) (hc1 : pd_sh pd_SH (c + 1) = some (0, 0, 3)) (hcl : ∀ H : pd_F, pd_Ly H → H c 0 = c + 1) (c5 : 5 ≤ c) (hx : 12 ≤ x ∧ x < 24) : ∀ (k d k' : Nat) (F G : pd_F) (m : Int), m + d = 3 → d < k → d < k' → J b F G → F c 1 = m → G 375 x = m → 0 ≤ m → (∀ i, 0 ≤ i → i < m → F (c + 1) i = G 376 (3 * x + i)) →
    ∃ F' G' v, pfX6_readMarks_b2 pd_SH 5000 k F 2 c m = some (v, F') ∧ mC c F F' ∧ mRw x G G' ∧ ((v = 1 ∧ J b F' G' ∧ pfX12_personLine_b51 pd_SH 5000 k' G 367 x = pfX12_personLine_b165 pd_SH 5000 G' 367 x ∧ F' c 1 = G' 375 x ∧ (0 ≤ F' c 1 ∧ F' c 1 ≤ 3) ∧ ∀ i, 0 ≤ i → i < F' c 1 → F' (c + 1) i = G' 376 (3 * x + i)) ∨ (v = 0 ∧ pfX12_personLine_b51 pd_SH 5000 k' G 367 x = some (0, G') ∧ jF F' G'))
  | 0, d, _, F, G, m, _, hk, _, _, _, _, _, _ => by omega
  | k + 1, d, 0, F, G, m, _, _, hk, _, _, _, _, _ => by omega
  | k + 1, d, k' + 1, F, G, m, hd, hk, hk', h, hm, gm, m0, hi => by
    obtain ⟨h1, h2, h3, h5, h6, h7, h8, h9⟩ := id h
    by_cases k2 : F 3 4 = 2
    · have n2 : G 367 6 = 2 := by rw [← h7.1]; exact k2
      obtain ⟨v1, v2, v3⟩ := h7.2.2.2.2.1 k2
      have e1 := c_hasMark h1 hc hc1 (hcl F h1) (by rw [hm]; omega) (v := F 3 7)
      have e2 := r_hasMark h2 (p := x) (m := F 3 7) (by omega) (by rw [gm]; omega)
      rw [hm] at e1
      rw [gm] at e2
      have eq : (∃ i, 0 ≤ i ∧ i < m ∧ G 376 (3 * x + i) = F 3 7) ↔ ∃ i, 0 ≤ i ∧ i < m ∧ F (c + 1) i = F 3 7 :=
        ⟨fun ⟨i, u, v, w⟩ => ⟨i, u, v, (hi i u v).trans w⟩, fun ⟨i, u, v, w⟩ => ⟨i, u, v, (hi i u v).symm.trans w⟩⟩
      rw [ci_c eq] at e2
      have cU : pfX6_readMarks_b2 pd_SH 5000 (k + 1) F 2 c m = if ci (∃ i, 0 ≤ i ∧ i < m ∧ F (c + 1) i = F 3 7) (1 : Int) 0 = 0 then (if m ≥ 3 then pfX6_readMarks_b56 pd_SH 5000 (pfX6_readMarks_b2 pd_SH 5000 k) F 2 c m 0 9999 1 2 else pfX6_readMarks_b56 pd_SH 5000 (pfX6_readMarks_b2 pd_SH 5000 k) F 2 c m 1 9999 1 2) else pfX6_readMarks_b32 pd_SH 5000 F 2 := by
        rw [pfX6_readMarks_b2]
        simp only [pl_l, pl_b, pl_iT, pl_t, pl_f, gx_1, gx_2, gx_3, gx_4, gx_113, gx_114, gx_115, gx_116, gx_212, gx_213, gx_224, gn_4, gn_114, gn_115, gn_116, gn_213, gn_224, lx_1_0 h1, lx_1_1 h1, lx_1_2 h1, lx_1_3 h1, lx_1_4 h1, lx_1_5 h1, lx_1_6 h1, lx_1_7 h1, lx_2_0 h1, lx_3_0 h1, lx_113_0 h1, lx_113_1 h1, lx_113_2 h1, lx_212_0 h1, lx_212_1 h1, pl_ob hc, e1, hm]
        rw [if_neg (show ¬ m > 3 by omega), if_neg (show ¬ F 3 4 ≠ 2 from fun e => e k2)]
      have rU : pfX12_personLine_b51 pd_SH 5000 (k' + 1) G 367 x = if ci (∃ i, 0 ≤ i ∧ i < m ∧ F (c + 1) i = F 3 7) (1 : Int) 0 ≠ 0 then pfX12_personLine_b77 pd_SH 5000 (pfX12_personLine_b51 pd_SH 5000 k') G 367 x 0 367 else pfX12_personLine_b77 pd_SH 5000 (pfX12_personLine_b51 pd_SH 5000 k') G 367 x 1 367 := by
        rw [pfX12_personLine_b51]
        simp only [pl_l, pl_b, pl_iT, pl_t, pl_f, gx_367, gx_368, gx_369, gx_370, gx_371, gx_372, gx_373, gx_374, gx_375, gx_376, gx_377, gx_378, gx_379, gx_380, gx_381, gx_382, gx_383, gx_384, gx_385, gx_386, gx_387, gx_388, gx_389, gx_390, gx_391, gx_392, gx_393, gx_394, gx_395, gx_396, gx_397, gx_398, gx_399, gx_400, gx_401, gx_402, gx_403, gn_368, gn_369, gn_370, gn_371, gn_372, gn_373, gn_374, gn_375, gn_376, gn_377, gn_378, gn_379, gn_380, gn_381, gn_382, gn_383, gn_384, gn_385, gn_386, gn_387, gn_388, gn_389, gn_390, gn_391, gn_392, gn_393, gn_394, gn_395, gn_396, gn_397, gn_398, gn_399, gn_400, gn_401, gn_402, gn_403, ← v1, e2]
        rw [if_neg (show ¬ G 367 6 ≠ 2 from fun e => e n2)]
      rw [cU, rU]
      rcases Classical.em (∃ i, 0 ≤ i ∧ i < m ∧ F (c + 1) i = F 3 7) with hh | hh
      · rw [ci_t hh, if_neg (show ¬ (1 : Int) = 0 by decide), if_pos (show (1 : Int) ≠ 0 by decide)]
        obtain ⟨F', G', a1, a2, a3, a4, a5⟩ := j_fail h (k := 2) (by decide)
        unfold pfX6_readMarks_b32 pfX12_personLine_b77
        simp only [pl_l, pl_b, pl_iT, pl_t, pl_f, gx_1, gx_2, gx_3, gx_4, gx_113, gx_114, gx_115, gx_116, gx_212, gx_213, gx_224, gn_4, gn_114, gn_115, gn_116, gn_213, gn_224, gx_367, gx_368, gx_369, gx_370, gx_371, gx_372, gx_373, gx_374, gx_375, gx_376, gx_377, gx_378, gx_379, gx_380, gx_381, gx_382, gx_383, gx_384, gx_385, gx_386, gx_387, gx_388, gx_389, gx_390, gx_391, gx_392, gx_393, gx_394, gx_395, gx_396, gx_397, gx_398, gx_399, gx_400, gx_401, gx_402, gx_403, gn_368, gn_369, gn_370, gn_371, gn_372, gn_373, gn_374, gn_375, gn_376, gn_377, gn_378, gn_379, gn_380, gn_381, gn_382, gn_383, gn_384, gn_385, gn_386, gn_387, gn_388, gn_389, gn_390, gn_391, gn_392, gn_393, gn_394, gn_395, gn_396, gn_397, gn_398, gn_399, gn_400, gn_401, gn_402, gn_403, a1, a2]
        rw [pl_i (by decide)]
        exact ⟨F', G', 0, rfl, a4.m c5, a5.m, Or.inr ⟨rfl, rfl, a3⟩⟩
      rw [ci_f hh, if_pos (show (0 : Int) = 0 from rfl), if_neg (show ¬ (0 : Int) ≠ 0 by decide)]
      have mu2 := j_must h (v := 1) (k := 2) (by decide)
      by_cases hb : 1 ≤ F 3 7 ∧ F 3 7 ≤ 9999
      · have mu4 := j_must h (v := 1) (k := 4) (by decide)
        by_cases m3 : m < 3
        · rw [if_neg (show ¬ m ≥ 3 by omega)]
          have g1 : pd_Ly (pd_up G 376 (3 * x + m) (F 3 7)) := h2.up (rc_row (by decide))
          have J1 := (h.row (a := 376) (j := 3 * x + m) (v := F 3 7) (by decide)).row (a := 375) (j := x) (v := m + 1) (by decide)
          obtain ⟨F1, G3, a1, a2, J2, z1, y1, -⟩ := J1.adv (by omega)
          have mu5 := j_must h (v := 1) (k := 5) (by decide)
          have q375 : pd_up G 376 (3 * x + m) (F 3 7) 375 x = m := by rw [pu_a (by decide)]; exact gm
          have rE : pfX12_personLine_b77 pd_SH 5000 (pfX12_personLine_b51 pd_SH 5000 k') G 367 x 1 367 = pfX12_personLine_b51 pd_SH 5000 k' G3 367 x := by
            unfold pfX12_personLine_b77
            simp only [pl_l, pl_b, pl_iT, pl_t, pl_f, gx_367, gx_368, gx_369, gx_370, gx_371, gx_372, gx_373, gx_374, gx_375, gx_376, gx_377, gx_378, gx_379, gx_380, gx_381, gx_382, gx_383, gx_384, gx_385, gx_386, gx_387, gx_388, gx_389, gx_390, gx_391, gx_392, gx_393, gx_394, gx_395, gx_396, gx_397, gx_398, gx_399, gx_400, gx_401, gx_402, gx_403, gn_368, gn_369, gn_370, gn_371, gn_372, gn_373, gn_374, gn_375, gn_376, gn_377, gn_378, gn_379, gn_380, gn_381, gn_382, gn_383, gn_384, gn_385, gn_386, gn_387, gn_388, gn_389, gn_390, gn_391, gn_392, gn_393, gn_394, gn_395, gn_396, gn_397, gn_398, gn_399, gn_400, gn_401, gn_402, gn_403, mu2, r_within, ← v1]
            rw [if_neg (show ¬ (1 : Int) = 0 by decide), if_pos hb, mu4]
            simp only [pl_l, pl_b, pl_iT, pl_t, pl_f, gx_367, gx_368, gx_369, gx_370, gx_371, gx_372, gx_373, gx_374, gx_375, gx_376, gx_377, gx_378, gx_379, gx_380, gx_381, gx_382, gx_383, gx_384, gx_385, gx_386, gx_387, gx_388, gx_389, gx_390, gx_391, gx_392, gx_393, gx_394, gx_395, gx_396, gx_397, gx_398, gx_399, gx_400, gx_401, gx_402, gx_403, gn_368, gn_369, gn_370, gn_371, gn_372, gn_373, gn_374, gn_375, gn_376, gn_377, gn_378, gn_379, gn_380, gn_381, gn_382, gn_383, gn_384, gn_385, gn_386, gn_387, gn_388, gn_389, gn_390, gn_391, gn_392, gn_393, gn_394, gn_395, gn_396, gn_397, gn_398, gn_399, gn_400, gn_401, gn_402, gn_403, lm_1 h2, lm_14 h2, lm_15 h2, lm_16 h2, lm_17 h2, lm_18 h2, lm_19 h2, lm_20 h2, lm_21 h2, lm_22 h2, lm_23 h2, lm_24 h2, lm_25 h2, lm_26 h2, lm_27 h2, lm_28 h2, lm_29 h2, lm_30 h2, lm_31 h2, lm_32 h2, lm_33 h2, lm_34 h2, lm_35 h2, lm_36 h2, lm_37 h2, lm_39 h2, lm_40 h2, lm_42 h2, lm_43 h2, lm_44 h2, lm_45 h2, lm_47 h2, lm_48 h2, lm_49 h2, lm_50 h2, lm_51 h2, gm]
            rw [if_neg (show ¬ (1 : Int) = 0 by decide), pl_i (by omega), if_neg (show ¬ m ≥ 3 by omega)]
            unfold pfX12_personLine_b120
            simp only [pl_l, pl_b, pl_iT, pl_t, pl_f, gx_367, gx_368, gx_369, gx_370, gx_371, gx_372, gx_373, gx_374, gx_375, gx_376, gx_377, gx_378, gx_379, gx_380, gx_381, gx_382, gx_383, gx_384, gx_385, gx_386, gx_387, gx_388, gx_389, gx_390, gx_391, gx_392, gx_393, gx_394, gx_395, gx_396, gx_397, gx_398, gx_399, gx_400, gx_401, gx_402, gx_403, gn_368, gn_369, gn_370, gn_371, gn_372, gn_373, gn_374, gn_375, gn_376, gn_377, gn_378, gn_379, gn_380, gn_381, gn_382, gn_383, gn_384, gn_385, gn_386, gn_387, gn_388, gn_389, gn_390, gn_391, gn_392, gn_393, gn_394, gn_395, gn_396, gn_397, gn_398, gn_399, gn_400, gn_401, gn_402, gn_403, mu5, lm_1 h2, lm_14 h2, lm_15 h2, lm_16 h2, lm_17 h2, lm_18 h2, lm_19 h2, lm_20 h2, lm_21 h2, lm_22 h2, lm_23 h2, lm_24 h2, lm_25 h2, lm_26 h2, lm_27 h2, lm_28 h2, lm_29 h2, lm_30 h2, lm_31 h2, lm_32 h2, lm_33 h2, lm_34 h2, lm_35 h2, lm_36 h2, lm_37 h2, lm_39 h2, lm_40 h2, lm_42 h2, lm_43 h2, lm_44 h2, lm_45 h2, lm_47 h2, lm_48 h2, lm_49 h2, lm_50 h2, lm_51 h2, gm, ← v1]
            rw [if_pos (show (1 : Int) ≠ 0 by decide), pl_i (by omega), pl_w (x := 3 * x) (by omega), pl_w (x := 3 * x + m) (by omega), pl_i (by omega)]
            simp only [pl_l, pl_b, pl_iT, pl_t, pl_f, gx_367, gx_368, gx_369, gx_370, gx_371, gx_372, gx_373, gx_374, gx_375, gx_376, gx_377, gx_378, gx_379, gx_380, gx_381, gx_382, gx_383, gx_384, gx_385, gx_386, gx_387, gx_388, gx_389, gx_390, gx_391, gx_392, gx_393, gx_394, gx_395, gx_396, gx_397, gx_398, gx_399, gx_400, gx_401, gx_402, gx_403, gn_368, gn_369, gn_370, gn_371, gn_372, gn_373, gn_374, gn_375, gn_376, gn_377, gn_378, gn_379, gn_380, gn_381, gn_382, gn_383, gn_384, gn_385, gn_386, gn_387, gn_388, gn_389, gn_390, gn_391, gn_392, gn_393, gn_394, gn_395, gn_396, gn_397, gn_398, gn_399, gn_400, gn_401, gn_402, gn_403, lm_1 g1, lm_14 g1, lm_15 g1, lm_16 g1, lm_17 g1, lm_18 g1, lm_19 g1, lm_20 g1, lm_21 g1, lm_22 g1, lm_23 g1, lm_24 g1, lm_25 g1, lm_26 g1, lm_27 g1, lm_28 g1, lm_29 g1, lm_30 g1, lm_31 g1, lm_32 g1, lm_33 g1, lm_34 g1, lm_35 g1, lm_36 g1, lm_37 g1, lm_39 g1, lm_40 g1, lm_42 g1, lm_43 g1, lm_44 g1, lm_45 g1, lm_47 g1, lm_48 g1, lm_49 g1, lm_50 g1, lm_51 g1, q375]
            rw [pl_i (by omega), pl_w (by omega), a2]
            simp only [pl_l, pl_b, pl_iT, pl_t, pl_f]
          have f1 := J2.1
          have fc : F1 c 1 = m := by rw [z1.1 c (by omega) (by omega)]; exact hm
          have fu : pd_Ly (pd_up F1 (c + 1) m (F 3 7)) := f1.up (pl_rc0 hc1 (by decide))
          have fu2 : pd_Ly (pd_up (pd_up F1 (c + 1) m (F 3 7)) c 1 (m + 1)) := fu.up (pl_rc4 hc (by decide))
          have fc' : pd_up F1 (c + 1) m (F 3 7) c 1 = m := by rw [pu_a (by omega)]; exact fc
          have cE : pfX6_readMarks_b56 pd_SH 5000 (pfX6_readMarks_b2 pd_SH 5000 k) F 2 c m 1 9999 1 2 = pfX6_readMarks_b2 pd_SH 5000 k (pd_up (pd_up F1 (c + 1) m (F 3 7)) c 1 (m + 1)) 2 c (m + 1) := by
            unfold pfX6_readMarks_b56 pfX6_takeNumberIn pfX5_addMark
            simp only [pl_l, pl_b, pl_iT, pl_t, pl_f, gx_1, gx_2, gx_3, gx_4, gx_113, gx_114, gx_115, gx_116, gx_212, gx_213, gx_224, gn_4, gn_114, gn_115, gn_116, gn_213, gn_224, lx_1_0 h1, lx_1_1 h1, lx_1_2 h1, lx_1_3 h1, lx_1_4 h1, lx_1_5 h1, lx_1_6 h1, lx_1_7 h1, lx_2_0 h1, lx_3_0 h1, lx_113_0 h1, lx_113_1 h1, lx_113_2 h1, lx_212_0 h1, lx_212_1 h1]
            rw [if_pos k2, if_neg (show ¬ F 3 7 < 1 by omega), if_pos hb.2, if_pos (show (1 : Int) ≠ 0 by decide), a1]
            simp only [pl_l, pl_b, pl_iT, pl_t, pl_f, pl_ob hc, hcl F1 f1, pl_ln hc1, fc, pl_ib hc1, fc']
            rw [if_pos (show F 3 7 ≠ -1 by omega), pl_i (by decide), if_neg (by omega), pl_i (by omega), pl_w (by omega)]
            simp only [pl_l, pl_b, pl_iT, pl_t, pl_f]
          rw [rE, cE]
          obtain ⟨d', rfl⟩ : ∃ d', d = d' + 1 := ⟨d - 1, by omega⟩
          have q1 : G3 375 x = m + 1 := by rw [y1.1 375 (by decide), pu_r, if_pos rfl]
          have q6 : ∀ i, G3 376 i = if i = 3 * x + m then F 3 7 else G 376 i := fun i => by rw [y1.1 376 (by decide), pu_a (by decide), pu_r]
          obtain ⟨F', G', v, i1, i2, i3, i4⟩ := j_marks hc hc1 hcl c5 hx k d' k' (pd_up (pd_up F1 (c + 1) m (F 3 7)) c 1 (m + 1)) G3 (m + 1) (by omega) (by omega) (by omega) (J2.c fu2 (fun a w => by rw [pu_a (by omega), pu_a (by omega)])) (by rw [pu_r, if_pos rfl]) q1 (by omega) (fun i u w => by
            rw [pu_a (by omega), pu_r, q6]
            by_cases e : i = m
            · rw [if_pos e, if_pos (by omega)]
            · rw [if_neg e, if_neg (by omega), z1.1 (c + 1) (by omega) (by omega)]
              exact hi i u (by omega))
          have mc1 : mC c F (pd_up (pd_up F1 (c + 1) m (F 3 7)) c 1 (m + 1)) := (z1.m c5).tr ⟨fun a x y z w => by rw [pu_a z, pu_a w], fun j x => by rw [pu_r, if_neg x, pu_a (by omega)], fun j x => by rw [pu_a (by omega), pu_a (by omega)], fun j x => by rw [pu_a (by omega), pu_a (by omega)]⟩
          have mr1 : mRw x G G3 := (show mRw x G (pd_up (pd_up G 376 (3 * x + m) (F 3 7)) 375 x (m + 1)) from ⟨fun a x y z => by rw [pu_a y, pu_a z], fun j x y => by rw [pu_a (by decide), pu_a (by decide)], fun j y => by rw [pu_r, if_neg y, pu_a (by decide)], fun j y => by rw [pu_a (by decide), pu_r, if_neg (by omega)]⟩).tr y1.m
          exact ⟨F', G', v, i1, mc1.tr i2, mr1.tr i3, i4⟩
        · rw [if_pos (show m ≥ 3 by omega)]
          obtain ⟨F', G', a1, a2, a3, a4, a5⟩ := j_fail h (k := 5) (by decide)
          have rE : pfX12_personLine_b77 pd_SH 5000 (pfX12_personLine_b51 pd_SH 5000 k') G 367 x 1 367 = some (0, G') := by
            unfold pfX12_personLine_b77
            simp only [pl_l, pl_b, pl_iT, pl_t, pl_f, gx_367, gx_368, gx_369, gx_370, gx_371, gx_372, gx_373, gx_374, gx_375, gx_376, gx_377, gx_378, gx_379, gx_380, gx_381, gx_382, gx_383, gx_384, gx_385, gx_386, gx_387, gx_388, gx_389, gx_390, gx_391, gx_392, gx_393, gx_394, gx_395, gx_396, gx_397, gx_398, gx_399, gx_400, gx_401, gx_402, gx_403, gn_368, gn_369, gn_370, gn_371, gn_372, gn_373, gn_374, gn_375, gn_376, gn_377, gn_378, gn_379, gn_380, gn_381, gn_382, gn_383, gn_384, gn_385, gn_386, gn_387, gn_388, gn_389, gn_390, gn_391, gn_392, gn_393, gn_394, gn_395, gn_396, gn_397, gn_398, gn_399, gn_400, gn_401, gn_402, gn_403, mu2, r_within, ← v1]
            rw [if_neg (show ¬ (1 : Int) = 0 by decide), if_pos hb, mu4]
            simp only [pl_l, pl_b, pl_iT, pl_t, pl_f, gx_367, gx_368, gx_369, gx_370, gx_371, gx_372, gx_373, gx_374, gx_375, gx_376, gx_377, gx_378, gx_379, gx_380, gx_381, gx_382, gx_383, gx_384, gx_385, gx_386, gx_387, gx_388, gx_389, gx_390, gx_391, gx_392, gx_393, gx_394, gx_395, gx_396, gx_397, gx_398, gx_399, gx_400, gx_401, gx_402, gx_403, gn_368, gn_369, gn_370, gn_371, gn_372, gn_373, gn_374, gn_375, gn_376, gn_377, gn_378, gn_379, gn_380, gn_381, gn_382, gn_383, gn_384, gn_385, gn_386, gn_387, gn_388, gn_389, gn_390, gn_391, gn_392, gn_393, gn_394, gn_395, gn_396, gn_397, gn_398, gn_399, gn_400, gn_401, gn_402, gn_403, lm_1 h2, lm_14 h2, lm_15 h2, lm_16 h2, lm_17 h2, lm_18 h2, lm_19 h2, lm_20 h2, lm_21 h2, lm_22 h2, lm_23 h2, lm_24 h2, lm_25 h2, lm_26 h2, lm_27 h2, lm_28 h2, lm_29 h2, lm_30 h2, lm_31 h2, lm_32 h2, lm_33 h2, lm_34 h2, lm_35 h2, lm_36 h2, lm_37 h2, lm_39 h2, lm_40 h2, lm_42 h2, lm_43 h2, lm_44 h2, lm_45 h2, lm_47 h2, lm_48 h2, lm_49 h2, lm_50 h2, lm_51 h2, gm]
            rw [if_neg (show ¬ (1 : Int) = 0 by decide), pl_i (by omega), if_pos (show m ≥ 3 by omega)]
            unfold pfX12_personLine_b120
            simp only [pl_l, pl_b, pl_iT, pl_t, pl_f, gx_367, gx_368, gx_369, gx_370, gx_371, gx_372, gx_373, gx_374, gx_375, gx_376, gx_377, gx_378, gx_379, gx_380, gx_381, gx_382, gx_383, gx_384, gx_385, gx_386, gx_387, gx_388, gx_389, gx_390, gx_391, gx_392, gx_393, gx_394, gx_395, gx_396, gx_397, gx_398, gx_399, gx_400, gx_401, gx_402, gx_403, gn_368, gn_369, gn_370, gn_371, gn_372, gn_373, gn_374, gn_375, gn_376, gn_377, gn_378, gn_379, gn_380, gn_381, gn_382, gn_383, gn_384, gn_385, gn_386, gn_387, gn_388, gn_389, gn_390, gn_391, gn_392, gn_393, gn_394, gn_395, gn_396, gn_397, gn_398, gn_399, gn_400, gn_401, gn_402, gn_403, a2]
            rw [if_neg (show ¬ (0 : Int) ≠ 0 by decide)]
          have cE : pfX6_readMarks_b56 pd_SH 5000 (pfX6_readMarks_b2 pd_SH 5000 k) F 2 c m 0 9999 1 2 = some (0, F') := by
            unfold pfX6_readMarks_b56 pfX6_takeNumberIn
            simp only [pl_l, pl_b, pl_iT, pl_t, pl_f, gx_1, gx_2, gx_3, gx_4, gx_113, gx_114, gx_115, gx_116, gx_212, gx_213, gx_224, gn_4, gn_114, gn_115, gn_116, gn_213, gn_224, lx_1_0 h1, lx_1_1 h1, lx_1_2 h1, lx_1_3 h1, lx_1_4 h1, lx_1_5 h1, lx_1_6 h1, lx_1_7 h1, lx_2_0 h1, lx_3_0 h1, lx_113_0 h1, lx_113_1 h1, lx_113_2 h1, lx_212_0 h1, lx_212_1 h1]
            rw [if_pos k2, if_neg (show ¬ F 3 7 < 1 by omega), if_pos hb.2, if_neg (show ¬ (0 : Int) ≠ 0 by decide), a1]
            simp only [pl_l, pl_b, pl_iT, pl_t, pl_f]
            rw [if_neg (show ¬ (-1 : Int) ≠ -1 by decide)]
          rw [rE, cE]
          exact ⟨F', G', 0, rfl, a4.m c5, a5.m, Or.inr ⟨rfl, rfl, a3⟩⟩
      · obtain ⟨F', G', a1, a2, a3, a4, a5⟩ := j_fail h (k := 4) (by decide)
        have rE : pfX12_personLine_b77 pd_SH 5000 (pfX12_personLine_b51 pd_SH 5000 k') G 367 x 1 367 = some (0, G') := by
          unfold pfX12_personLine_b77
          simp only [pl_l, pl_b, pl_iT, pl_t, pl_f, gx_367, gx_368, gx_369, gx_370, gx_371, gx_372, gx_373, gx_374, gx_375, gx_376, gx_377, gx_378, gx_379, gx_380, gx_381, gx_382, gx_383, gx_384, gx_385, gx_386, gx_387, gx_388, gx_389, gx_390, gx_391, gx_392, gx_393, gx_394, gx_395, gx_396, gx_397, gx_398, gx_399, gx_400, gx_401, gx_402, gx_403, gn_368, gn_369, gn_370, gn_371, gn_372, gn_373, gn_374, gn_375, gn_376, gn_377, gn_378, gn_379, gn_380, gn_381, gn_382, gn_383, gn_384, gn_385, gn_386, gn_387, gn_388, gn_389, gn_390, gn_391, gn_392, gn_393, gn_394, gn_395, gn_396, gn_397, gn_398, gn_399, gn_400, gn_401, gn_402, gn_403, mu2, r_within, ← v1]
          rw [if_neg (show ¬ (1 : Int) = 0 by decide), if_neg hb, a2]
          simp only [pl_l, pl_b, pl_iT, pl_t, pl_f]
        have cE : ∀ t, pfX6_readMarks_b56 pd_SH 5000 (pfX6_readMarks_b2 pd_SH 5000 k) F 2 c m t 9999 1 2 = some (0, F') := fun t => by
          have e41 : pfX6_takeNumberIn_b41 pd_SH 5000 F 2 = some (-1, F') := by
            unfold pfX6_takeNumberIn_b41
            simp only [pl_l, pl_b, pl_iT, pl_t, pl_f, gx_1, gx_2, gx_3, gx_4, gx_113, gx_114, gx_115, gx_116, gx_212, gx_213, gx_224, gn_4, gn_114, gn_115, gn_116, gn_213, gn_224, a1]
          have eT : pfX6_takeNumberIn pd_SH 5000 F 2 1 9999 t = some (-1, F') := by
            unfold pfX6_takeNumberIn
            simp only [pl_l, pl_b, pl_iT, pl_t, pl_f, gx_1, gx_2, gx_3, gx_4, gx_113, gx_114, gx_115, gx_116, gx_212, gx_213, gx_224, gn_4, gn_114, gn_115, gn_116, gn_213, gn_224, lx_1_0 h1, lx_1_1 h1, lx_1_2 h1, lx_1_3 h1, lx_1_4 h1, lx_1_5 h1, lx_1_6 h1, lx_1_7 h1, lx_2_0 h1, lx_3_0 h1, lx_113_0 h1, lx_113_1 h1, lx_113_2 h1, lx_212_0 h1, lx_212_1 h1]
            rw [if_pos k2]
            by_cases y : F 3 7 < 1
            · rw [if_pos y]; exact e41
            · rw [if_neg y, if_neg (by omega)]; exact e41
          unfold pfX6_readMarks_b56
          simp only [pl_l, pl_b, pl_iT, pl_t, pl_f, gx_1, gx_2, gx_3, gx_4, gx_113, gx_114, gx_115, gx_116, gx_212, gx_213, gx_224, gn_4, gn_114, gn_115, gn_116, gn_213, gn_224, eT]
          rw [if_neg (show ¬ (-1 : Int) ≠ -1 by decide)]
        rw [rE, cE 0, cE 1]
        refine ⟨F', G', 0, ?_, a4.m c5, a5.m, Or.inr ⟨rfl, rfl, a3⟩⟩
        by_cases y : m ≥ 3
        · rw [if_pos y]
        · rw [if_neg y]
    · have cU : pfX6_readMarks_b2 pd_SH 5000 (k + 1) F 2 c m = some (1, F) := by
        rw [pfX6_readMarks_b2]
        simp only [pl_l, pl_b, pl_iT, pl_t, pl_f, gx_1, gx_2, gx_3, gx_4, gx_113, gx_114, gx_115, gx_116, gx_212, gx_213, gx_224, gn_4, gn_114, gn_115, gn_116, gn_213, gn_224, lx_1_0 h1, lx_1_1 h1, lx_1_2 h1, lx_1_3 h1, lx_1_4 h1, lx_1_5 h1, lx_1_6 h1, lx_1_7 h1, lx_2_0 h1, lx_3_0 h1, lx_113_0 h1, lx_113_1 h1, lx_113_2 h1, lx_212_0 h1, lx_212_1 h1]
        rw [if_neg (show ¬ m > 3 by omega), if_pos k2]
      have rU : pfX12_personLine_b51 pd_SH 5000 (k' + 1) G 367 x = pfX12_personLine_b165 pd_SH 5000 G 367 x := by
        rw [pfX12_personLine_b51]
        simp only [pl_l, pl_b, pl_iT, pl_t, pl_f, gx_367, gx_368, gx_369, gx_370, gx_371, gx_372, gx_373, gx_374, gx_375, gx_376, gx_377, gx_378, gx_379, gx_380, gx_381, gx_382, gx_383, gx_384, gx_385, gx_386, gx_387, gx_388, gx_389, gx_390, gx_391, gx_392, gx_393, gx_394, gx_395, gx_396, gx_397, gx_398, gx_399, gx_400, gx_401, gx_402, gx_403, gn_368, gn_369, gn_370, gn_371, gn_372, gn_373, gn_374, gn_375, gn_376, gn_377, gn_378, gn_379, gn_380, gn_381, gn_382, gn_383, gn_384, gn_385, gn_386, gn_387, gn_388, gn_389, gn_390, gn_391, gn_392, gn_393, gn_394, gn_395, gn_396, gn_397, gn_398, gn_399, gn_400, gn_401, gn_402, gn_403]
        rw [if_pos (show G 367 6 ≠ 2 from fun e => k2 (by rw [h7.1]; exact e))]
      rw [cU, rU]
      exact ⟨F, G, 1, rfl, (zC.rf F).m c5, (zR.rf G).m, Or.inl ⟨rfl, h, rfl, by rw [hm, gm], by rw [hm]; omega, fun i u v => hi i u (by rw [hm] at v; exact v)⟩⟩
end PM

/-! parts told -/
theorem pcl_in {x y np nt : Int} (hn : np ≤ 12) (hx : (0 ≤ x ∧ x < np) ∨ (16 ≤ x ∧ x < 16 + nt)) (hy : (0 ≤ y ∧ y < np) ∨ (16 ≤ y ∧ y < 16 + nt)) : pcl x = pcl y ↔ x = y := by
  unfold pcl
  by_cases a : x < 16
  · rw [if_pos a]
    by_cases c : y < 16
    · rw [if_pos c]
    · rw [if_neg c]; omega
  · rw [if_neg a]
    by_cases c : y < 16
    · rw [if_pos c]; omega
    · rw [if_neg c]; omega
/-- what reading parts leaves -/
def gC (g : Int) (F F' : pd_F) : Prop := (∀ a, a ≠ 2 → a ≠ 3 → a ≠ g → a ≠ g + 1 → a ≠ g + 2 → F' a = F a) ∧ (∀ j, j ≠ 3 → F' g j = F g j) ∧ (∀ j, j ≠ 2 → F' 2 j = F 2 j) ∧ ∀ j, (j < 3 ∨ 8 < j) → F' 3 j = F 3 j
def gR (s : Int) (G G' : pd_F) : Prop := (∀ a, a ≠ 367 → a ≠ 381 → a ≠ 382 → a ≠ 383 → G' a = G a) ∧ (∀ j, (j < 4 ∨ 11 < j) → j ≠ 38 → G' 367 j = G 367 j) ∧ (∀ j, j ≠ s → G' 381 j = G 381 j) ∧ (∀ j, j < 5 * s ∨ 5 * s + 5 ≤ j → G' 382 j = G 382 j) ∧ ∀ j, j < 5 * s ∨ 5 * s + 5 ≤ j → G' 383 j = G 383 j
theorem zC.g {g : Int} {F F' : pd_F} (hg : 5 ≤ g) (z : zC F F') : gC g F F' := ⟨fun a x y _ _ _ => z.1 a x y, fun j _ => by rw [z.1 g (by omega) (by omega)], z.2.1, z.2.2⟩
theorem zR.g {s : Int} {G G' : pd_F} (z : zR G G') : gR s G G' := ⟨fun a y _ _ _ => z.1 a y, z.2, fun j _ => by rw [z.1 381 (by decide)], fun j _ => by rw [z.1 382 (by decide)], fun j _ => by rw [z.1 383 (by decide)]⟩
theorem gC.tr {g : Int} {F1 F2 F3 : pd_F} (h : gC g F1 F2) (k : gC g F2 F3) : gC g F1 F3 := ⟨fun a x y z w q => (k.1 a x y z w q).trans (h.1 a x y z w q), fun j x => (k.2.1 j x).trans (h.2.1 j x), fun j x => (k.2.2.1 j x).trans (h.2.2.1 j x), fun j x => (k.2.2.2 j x).trans (h.2.2.2 j x)⟩
theorem gR.tr {s : Int} {F1 F2 F3 : pd_F} (h : gR s F1 F2) (k : gR s F2 F3) : gR s F1 F3 := ⟨fun a y z w q => (k.1 a y z w q).trans (h.1 a y z w q), fun j y z => (k.2.1 j y z).trans (h.2.1 j y z), fun j y => (k.2.2.1 j y).trans (h.2.2.1 j y), fun j y => (k.2.2.2.1 j y).trans (h.2.2.2.1 j y), fun j y => (k.2.2.2.2 j y).trans (h.2.2.2.2 j y)⟩
/-- the list being read: m parts of it -/
def iP (g s np nt m : Int) (F G : pd_F) : Prop := F g 3 = m ∧ G 381 s = m ∧ (0 ≤ m ∧ m ≤ 5) ∧ ∀ i, 0 ≤ i → i < m → (F (g + 1) i = pcl (G 382 (5 * s + i)) ∧ F (g + 2) i = G 383 (5 * s + i)) ∧ ((0 ≤ G 382 (5 * s + i) ∧ G 382 (5 * s + i) < np) ∨ (16 ≤ G 382 (5 * s + i) ∧ G 382 (5 * s + i) < 16 + nt)) ∧ 0 ≤ G 383 (5 * s + i) ∧ G 383 (5 * s + i) ≤ 99
section PA
variable {b g s np nt : Int}
theorem c_hasPart {F : pd_F} (hL : pd_Ly F) (hc : pd_sh pd_SH g = some (4, 2, 8)) (hc1 : pd_sh pd_SH (g + 1) = some (0, 0, 5)) (l0 : F g 0 = g + 1) (hm : 0 ≤ F g 3 ∧ F g 3 ≤ 5) {v : Int} : pfX2_hasPart pd_SH 5000 F g v = some (ci (∃ i, 0 ≤ i ∧ i < F g 3 ∧ F (g + 1) i = v) 1 0, F) := by
  unfold pfX2_hasPart
  refine pl_some (f := fun j i => pfX2_hasPart_b2 pd_SH 5000 j F g v i) hm.1 (fun k i a d q => ?_) (fun k i a d q => ?_) (fun k => ?_) 5000 (by omega)
  · show pfX2_hasPart_b2 pd_SH 5000 (k + 1) F g v i = _
    simp only [pfX2_hasPart_b2, pl_l, pl_b, pl_iT, pl_t, pl_f, pl_ob hc, l0, pl_ib hc1]
    rw [if_neg (by omega), pl_i (by omega), if_neg (fun z => z q)]
  · show pfX2_hasPart_b2 pd_SH 5000 (k + 1) F g v i = _
    simp only [pfX2_hasPart_b2, pl_l, pl_b, pl_iT, pl_t, pl_f, pl_ob hc, l0, pl_ib hc1]
    rw [if_neg (by omega), pl_i (by omega), if_pos q, pl_w (by omega)]
  · show pfX2_hasPart_b2 pd_SH 5000 (k + 1) F g v _ = _
    simp only [pfX2_hasPart_b2, pl_l, pl_b, pl_iT, pl_t, pl_f, pl_ob hc]
    rw [if_pos (by omega)]
theorem r_isPart {G : pd_F} (hL : pd_Ly G) (hs : 0 ≤ s ∧ s < 30) (hm : 0 ≤ G 381 s ∧ G 381 s ≤ 5) {v : Int} : pfX12_isPart pd_SH 5000 G 367 s v = some (ci (∃ i, 0 ≤ i ∧ i < G 381 s ∧ G 382 (5 * s + i) = v) 1 0, G) := by
  unfold pfX12_isPart
  refine pl_some (f := fun j i => pfX12_isPart_b2 pd_SH 5000 j G 367 s v i) hm.1 (fun k i a d q => ?_) (fun k i a d q => ?_) (fun k => ?_) 5000 (by omega)
  · show pfX12_isPart_b2 pd_SH 5000 (k + 1) G 367 s v i = _
    simp only [pfX12_isPart_b2, pl_l, pl_b, pl_iT, pl_t, pl_f, gx_367, gx_368, gx_369, gx_370, gx_371, gx_372, gx_373, gx_374, gx_375, gx_376, gx_377, gx_378, gx_379, gx_380, gx_381, gx_382, gx_383, gx_384, gx_385, gx_386, gx_387, gx_388, gx_389, gx_390, gx_391, gx_392, gx_393, gx_394, gx_395, gx_396, gx_397, gx_398, gx_399, gx_400, gx_401, gx_402, gx_403, gn_368, gn_369, gn_370, gn_371, gn_372, gn_373, gn_374, gn_375, gn_376, gn_377, gn_378, gn_379, gn_380, gn_381, gn_382, gn_383, gn_384, gn_385, gn_386, gn_387, gn_388, gn_389, gn_390, gn_391, gn_392, gn_393, gn_394, gn_395, gn_396, gn_397, gn_398, gn_399, gn_400, gn_401, gn_402, gn_403, lm_1 hL, lm_14 hL, lm_15 hL, lm_16 hL, lm_17 hL, lm_18 hL, lm_19 hL, lm_20 hL, lm_21 hL, lm_22 hL, lm_23 hL, lm_24 hL, lm_25 hL, lm_26 hL, lm_27 hL, lm_28 hL, lm_29 hL, lm_30 hL, lm_31 hL, lm_32 hL, lm_33 hL, lm_34 hL, lm_35 hL, lm_36 hL, lm_37 hL, lm_39 hL, lm_40 hL, lm_42 hL, lm_43 hL, lm_44 hL, lm_45 hL, lm_47 hL, lm_48 hL, lm_49 hL, lm_50 hL, lm_51 hL]
    rw [pl_i (by omega), if_neg (by omega), pl_w (x := 5 * s) (by omega), pl_w (x := 5 * s + i) (by omega), pl_i (by omega), if_neg (fun z => z q)]
  · show pfX12_isPart_b2 pd_SH 5000 (k + 1) G 367 s v i = _
    simp only [pfX12_isPart_b2, pl_l, pl_b, pl_iT, pl_t, pl_f, gx_367, gx_368, gx_369, gx_370, gx_371, gx_372, gx_373, gx_374, gx_375, gx_376, gx_377, gx_378, gx_379, gx_380, gx_381, gx_382, gx_383, gx_384, gx_385, gx_386, gx_387, gx_388, gx_389, gx_390, gx_391, gx_392, gx_393, gx_394, gx_395, gx_396, gx_397, gx_398, gx_399, gx_400, gx_401, gx_402, gx_403, gn_368, gn_369, gn_370, gn_371, gn_372, gn_373, gn_374, gn_375, gn_376, gn_377, gn_378, gn_379, gn_380, gn_381, gn_382, gn_383, gn_384, gn_385, gn_386, gn_387, gn_388, gn_389, gn_390, gn_391, gn_392, gn_393, gn_394, gn_395, gn_396, gn_397, gn_398, gn_399, gn_400, gn_401, gn_402, gn_403, lm_1 hL, lm_14 hL, lm_15 hL, lm_16 hL, lm_17 hL, lm_18 hL, lm_19 hL, lm_20 hL, lm_21 hL, lm_22 hL, lm_23 hL, lm_24 hL, lm_25 hL, lm_26 hL, lm_27 hL, lm_28 hL, lm_29 hL, lm_30 hL, lm_31 hL, lm_32 hL, lm_33 hL, lm_34 hL, lm_35 hL, lm_36 hL, lm_37 hL, lm_39 hL, lm_40 hL, lm_42 hL, lm_43 hL, lm_44 hL, lm_45 hL, lm_47 hL, lm_48 hL, lm_49 hL, lm_50 hL, lm_51 hL]
    rw [pl_i (by omega), if_neg (by omega), pl_w (x := 5 * s) (by omega), pl_w (x := 5 * s + i) (by omega), pl_i (by omega), if_pos q, pl_w (by omega)]
  · show pfX12_isPart_b2 pd_SH 5000 (k + 1) G 367 s v _ = _
    simp only [pfX12_isPart_b2, pl_l, pl_b, pl_iT, pl_t, pl_f, gx_367, gx_368, gx_369, gx_370, gx_371, gx_372, gx_373, gx_374, gx_375, gx_376, gx_377, gx_378, gx_379, gx_380, gx_381, gx_382, gx_383, gx_384, gx_385, gx_386, gx_387, gx_388, gx_389, gx_390, gx_391, gx_392, gx_393, gx_394, gx_395, gx_396, gx_397, gx_398, gx_399, gx_400, gx_401, gx_402, gx_403, gn_368, gn_369, gn_370, gn_371, gn_372, gn_373, gn_374, gn_375, gn_376, gn_377, gn_378, gn_379, gn_380, gn_381, gn_382, gn_383, gn_384, gn_385, gn_386, gn_387, gn_388, gn_389, gn_390, gn_391, gn_392, gn_393, gn_394, gn_395, gn_396, gn_397, gn_398, gn_399, gn_400, gn_401, gn_402, gn_403, lm_1 hL, lm_14 hL, lm_15 hL, lm_16 hL, lm_17 hL, lm_18 hL, lm_19 hL, lm_20 hL, lm_21 hL, lm_22 hL, lm_23 hL, lm_24 hL, lm_25 hL, lm_26 hL, lm_27 hL, lm_28 hL, lm_29 hL, lm_30 hL, lm_31 hL, lm_32 hL, lm_33 hL, lm_34 hL, lm_35 hL, lm_36 hL, lm_37 hL, lm_39 hL, lm_40 hL, lm_42 hL, lm_43 hL, lm_44 hL, lm_45 hL, lm_47 hL, lm_48 hL, lm_49 hL, lm_50 hL, lm_51 hL]
    rw [pl_i (by omega), if_pos (by omega)]
theorem j_parts (hg : pd_sh pd_SH g = some (4, 2, 8)) (hg1 : pd_sh pd_SH (g + 1) = some (0, 0, 5)) (hg2 : pd_sh pd_SH (g + 2) = some (0, 0, 5)) (hgl : ∀ H : pd_F, pd_Ly H → H g 0 = g + 1 ∧ H g 1 = g + 2) {l : Int} (hgb : b + 34 + 4 * l = g) (hb : aB b) (hl : (0 ≤ l ∧ l < 5 ∧ nt ≤ l) ∨ (5 ≤ l ∧ l < 15)) {na : Int} (hla : l < 5 ∨ na ≤ l - 5) (hs : 15 ≤ s ∧ s < 30) :
    ∀ (k d k' : Nat) (F G : pd_F) (m : Int), m + d = 5 → d < k → d < k' → J b F G → jM b F (bn G) → bn G 369 0 = np → bn G 370 0 = nt → bn G 371 0 = na → iP g s np nt m F G →
    ∃ F' G' v u, pfX6_readParts_b2 pd_SH 5000 k F 2 g m = some (v, F') ∧ pfX12_partsHere_b7 pd_SH 5000 k' G 367 s = some (u, G') ∧ gC g F F' ∧ gR s G G' ∧ ((v = 1 ∧ u = 1 ∧ J b F' G' ∧ ∃ m', iP g s np nt m' F' G') ∨ (v = 0 ∧ u = 0 ∧ jF F' G') ∨ (v = 1 ∧ u = 0 ∧ ∃ G0, J b F' G0 ∧ zR G0 G' ∧ gR s G G0 ∧ pfX12_must pd_SH 5000 G0 367 0 1 = some (0, G') ∧ F' 3 4 = 1))
  | 0, d, _, F, G, m, _, hk, _, _, _, _, _, _, _ => by omega
  | k + 1, d, 0, F, G, m, _, _, hk, _, _, _, _, _, _ => by omega
  | k + 1, d, k' + 1, F, G, m, hd, hk, hk', h, hM, hnp, hnt, hna, hi => by
    obtain ⟨h1, h2, h3, h5, h6, h7, h8, h9⟩ := id h
    have b5 := aB_5 h3
    obtain ⟨s0, -⟩ := sh_b h3
    have g5 : 5 ≤ g := by omega
    obtain ⟨i1, i2, i3, i4⟩ := id hi
    obtain ⟨-, ⟨n1, n2, n3⟩, -⟩ := id hM
    rw [hnp] at n1
    rw [hnt] at n2
    obtain ⟨p, t, a, ⟨fp, ft, fa⟩, ⟨rp, rt, ra⟩, cf, -⟩ := j_find h hM
    have bp := fI_bd fp
    have bt := fI_bd ft
    have ba := fI_bd fa
    rw [hnp] at bp
    rw [hnt] at bt
    have n3' := n3
    by_cases kN : jN G
    · have k4 : F 3 4 = 1 := by rw [h7.1]; exact kN.1
      have cf := cf k4
      have mu1 := j_must h (v := 1) (k := 1) (by decide)
      -- what the name tells: w in the reference, r in the class
      obtain ⟨w, hw⟩ : ∃ w, (if 0 ≤ p then p else if 0 ≤ t then 16 + t else -1) = w := ⟨_, rfl⟩
      obtain ⟨r, hr⟩ : ∃ r, (if 0 ≤ p then p else if 0 ≤ t then 12 + t else if 0 ≤ a then 17 + a else -1) = r := ⟨_, rfl⟩
      have hwr : ((w = -1) ∧ (r = -1 ∨ 17 ≤ r)) ∨ (((0 ≤ w ∧ w < np) ∨ (16 ≤ w ∧ w < 16 + nt)) ∧ r = pcl w ∧ 0 ≤ r ∧ r < 17) := by
        by_cases z1 : 0 ≤ p
        · rw [if_pos z1] at hw hr
          subst hw hr
          refine Or.inr ⟨by omega, ?_, by omega, by omega⟩
          unfold pcl
          rw [if_pos (by omega)]
        rw [if_neg z1] at hw hr
        by_cases z2 : 0 ≤ t
        · rw [if_pos z2] at hw hr
          subst hw hr
          refine Or.inr ⟨by omega, ?_, by omega, by omega⟩
          unfold pcl
          rw [if_neg (by omega)]
          omega
        rw [if_neg z2] at hw hr
        by_cases z3 : 0 ≤ a
        · rw [if_pos z3] at hr; exact Or.inl ⟨hw.symm, Or.inr (by omega)⟩
        · rw [if_neg z3] at hr; exact Or.inl ⟨hw.symm, Or.inl hr.symm⟩
      rw [hr] at cf
      have rN : pfX12_partNamed pd_SH 5000 G 367 = some (w, G) := by
        unfold pfX12_partNamed
        simp only [pl_l, pl_b, pl_iT, pl_t, pl_f, gx_367, gx_368, gx_369, gx_370, gx_371, gx_372, gx_373, gx_374, gx_375, gx_376, gx_377, gx_378, gx_379, gx_380, gx_381, gx_382, gx_383, gx_384, gx_385, gx_386, gx_387, gx_388, gx_389, gx_390, gx_391, gx_392, gx_393, gx_394, gx_395, gx_396, gx_397, gx_398, gx_399, gx_400, gx_401, gx_402, gx_403, gn_368, gn_369, gn_370, gn_371, gn_372, gn_373, gn_374, gn_375, gn_376, gn_377, gn_378, gn_379, gn_380, gn_381, gn_382, gn_383, gn_384, gn_385, gn_386, gn_387, gn_388, gn_389, gn_390, gn_391, gn_392, gn_393, gn_394, gn_395, gn_396, gn_397, gn_398, gn_399, gn_400, gn_401, gn_402, gn_403, rp, rt]
        by_cases z1 : 0 ≤ p
        · rw [if_neg (by omega), ← hw, if_pos z1]
        rw [if_pos (by omega)]
        by_cases z2 : 0 ≤ t
        · rw [if_neg (by omega), pl_w (by omega), ← hw, if_neg z1, if_pos z2]
        · rw [if_pos (by omega), ← hw, if_neg z1, if_neg z2]
      have eH := c_hasPart h1 hg hg1 (hgl F h1).1 (by rw [i1]; exact i3) (v := r)
      rw [i1] at eH
      have cU : pfX6_readParts_b2 pd_SH 5000 (k + 1) F 2 g m = if r = -1 then pfX6_readParts_b48 pd_SH 5000 (pfX6_readParts_b2 pd_SH 5000 k) F 2 g m r else if ci (∃ i, 0 ≤ i ∧ i < m ∧ F (g + 1) i = r) (1 : Int) 0 = 0 then pfX6_readParts_b48 pd_SH 5000 (pfX6_readParts_b2 pd_SH 5000 k) F 2 g m r else pfX6_readParts_b42 pd_SH 5000 F 2 := by
        rw [pfX6_readParts_b2]
        simp only [pl_l, pl_b, pl_iT, pl_t, pl_f, gx_1, gx_2, gx_3, gx_4, gx_113, gx_114, gx_115, gx_116, gx_212, gx_213, gx_224, gn_4, gn_114, gn_115, gn_116, gn_213, gn_224, lx_1_0 h1, lx_1_1 h1, lx_1_2 h1, lx_1_3 h1, lx_1_4 h1, lx_1_5 h1, lx_1_6 h1, lx_1_7 h1, lx_2_0 h1, lx_3_0 h1, lx_113_0 h1, lx_113_1 h1, lx_113_2 h1, lx_212_0 h1, lx_212_1 h1, h.name, ci_t kN, h5, pl_ob s0, cf, pl_ob hg, eH]
        rw [if_neg (show ¬ m > 5 by omega), if_neg (show ¬ (1 : Int) = 0 by decide)]
      have eQ := r_isPart h2 (s := s) (by omega) (by rw [i2]; exact i3) (v := w)
      rw [i2] at eQ
      have rU : pfX12_partsHere_b7 pd_SH 5000 (k' + 1) G 367 s = if w < 0 then pfX12_partsHere_b48 pd_SH 5000 (pfX12_partsHere_b7 pd_SH 5000 k') G 367 s w 367 else if ci (∃ i, 0 ≤ i ∧ i < m ∧ G 382 (5 * s + i) = w) (1 : Int) 0 ≠ 0 then pfX12_partsHere_b53 pd_SH 5000 (pfX12_partsHere_b7 pd_SH 5000 k') G 367 s w 0 367 else pfX12_partsHere_b48 pd_SH 5000 (pfX12_partsHere_b7 pd_SH 5000 k') G 367 s w 367 := by
        rw [pfX12_partsHere_b7]
        simp only [pl_l, pl_b, pl_iT, pl_t, pl_f, gx_367, gx_368, gx_369, gx_370, gx_371, gx_372, gx_373, gx_374, gx_375, gx_376, gx_377, gx_378, gx_379, gx_380, gx_381, gx_382, gx_383, gx_384, gx_385, gx_386, gx_387, gx_388, gx_389, gx_390, gx_391, gx_392, gx_393, gx_394, gx_395, gx_396, gx_397, gx_398, gx_399, gx_400, gx_401, gx_402, gx_403, gn_368, gn_369, gn_370, gn_371, gn_372, gn_373, gn_374, gn_375, gn_376, gn_377, gn_378, gn_379, gn_380, gn_381, gn_382, gn_383, gn_384, gn_385, gn_386, gn_387, gn_388, gn_389, gn_390, gn_391, gn_392, gn_393, gn_394, gn_395, gn_396, gn_397, gn_398, gn_399, gn_400, gn_401, gn_402, gn_403, r_isName, ci_t kN, mu1, rN, eQ]
        rw [if_neg (show ¬ G 367 6 ≠ 1 from fun e => e kN.1), if_pos (show (1 : Int) ≠ 0 by decide)]
      have mu2 := j_must h (v := 1) (k := 2) (by decide)
      have mu3 := j_must h (v := 1) (k := 3) (by decide)
      have mu5 := j_must h (v := 1) (k := 5) (by decide)
      rw [cU, rU]
      rcases hwr with ⟨w1, r1⟩ | ⟨w1, r1, r2, r3⟩
      · -- nothing that may stand here
        obtain ⟨F', G', a1, a2, a3, a4, a5⟩ := j_fail h (k := 3) (by decide)
        have hno : ¬ ∃ i, 0 ≤ i ∧ i < m ∧ F (g + 1) i = r := fun ⟨i, x, y, z⟩ => by
          obtain ⟨⟨u1, -⟩, u2, -⟩ := i4 i x y
          rw [u1] at z
          unfold pcl at z
          split at z <;> omega
        have e59 : pfX6_readParts_b59 pd_SH 5000 F 2 = some (0, F') := by
          unfold pfX6_readParts_b59
          simp only [pl_l, pl_b, pl_iT, pl_t, pl_f, gx_1, gx_2, gx_3, gx_4, gx_113, gx_114, gx_115, gx_116, gx_212, gx_213, gx_224, gn_4, gn_114, gn_115, gn_116, gn_213, gn_224, a1]
          rw [pl_i (by decide)]
        have e48 : pfX6_readParts_b48 pd_SH 5000 (pfX6_readParts_b2 pd_SH 5000 k) F 2 g m r = some (0, F') := by
          unfold pfX6_readParts_b48
          by_cases z : r = -1
          · rw [if_pos z]; exact e59
          · rw [if_neg z, if_neg (by omega)]; exact e59
        have r48 : pfX12_partsHere_b48 pd_SH 5000 (pfX12_partsHere_b7 pd_SH 5000 k') G 367 s w 367 = some (0, G') := by
          unfold pfX12_partsHere_b48 pfX12_partsHere_b53
          simp only [pl_l, pl_b, pl_iT, pl_t, pl_f, gx_367, gx_368, gx_369, gx_370, gx_371, gx_372, gx_373, gx_374, gx_375, gx_376, gx_377, gx_378, gx_379, gx_380, gx_381, gx_382, gx_383, gx_384, gx_385, gx_386, gx_387, gx_388, gx_389, gx_390, gx_391, gx_392, gx_393, gx_394, gx_395, gx_396, gx_397, gx_398, gx_399, gx_400, gx_401, gx_402, gx_403, gn_368, gn_369, gn_370, gn_371, gn_372, gn_373, gn_374, gn_375, gn_376, gn_377, gn_378, gn_379, gn_380, gn_381, gn_382, gn_383, gn_384, gn_385, gn_386, gn_387, gn_388, gn_389, gn_390, gn_391, gn_392, gn_393, gn_394, gn_395, gn_396, gn_397, gn_398, gn_399, gn_400, gn_401, gn_402, gn_403, mu2]
          rw [if_neg (show ¬ (1 : Int) = 0 by decide), if_pos (show w < 0 by omega)]
          unfold pfX12_partsHere_b70
          simp only [pl_l, pl_b, pl_iT, pl_t, pl_f, gx_367, gx_368, gx_369, gx_370, gx_371, gx_372, gx_373, gx_374, gx_375, gx_376, gx_377, gx_378, gx_379, gx_380, gx_381, gx_382, gx_383, gx_384, gx_385, gx_386, gx_387, gx_388, gx_389, gx_390, gx_391, gx_392, gx_393, gx_394, gx_395, gx_396, gx_397, gx_398, gx_399, gx_400, gx_401, gx_402, gx_403, gn_368, gn_369, gn_370, gn_371, gn_372, gn_373, gn_374, gn_375, gn_376, gn_377, gn_378, gn_379, gn_380, gn_381, gn_382, gn_383, gn_384, gn_385, gn_386, gn_387, gn_388, gn_389, gn_390, gn_391, gn_392, gn_393, gn_394, gn_395, gn_396, gn_397, gn_398, gn_399, gn_400, gn_401, gn_402, gn_403, a2]
        rw [ci_f hno, if_pos (show w < 0 by omega), r48, e48]
        refine ⟨F', G', 0, 0, ?_, rfl, a4.g g5, a5.g, Or.inr (Or.inl ⟨rfl, rfl, a3⟩)⟩
        by_cases z : r = -1
        · rw [if_pos z]
        · rw [if_neg z, if_pos rfl]
      · rw [if_neg (show ¬ r = -1 by omega), if_neg (show ¬ w < 0 by omega)]
        have eq : (∃ i, 0 ≤ i ∧ i < m ∧ F (g + 1) i = r) ↔ ∃ i, 0 ≤ i ∧ i < m ∧ G 382 (5 * s + i) = w := by
          refine ⟨fun ⟨i, x, y, z⟩ => ⟨i, x, y, ?_⟩, fun ⟨i, x, y, z⟩ => ⟨i, x, y, ?_⟩⟩
          · rw [(i4 i x y).1.1, r1] at z
            exact (pcl_in n1.2 (i4 i x y).2.1 w1).mp z
          · rw [(i4 i x y).1.1, r1]
            exact (pcl_in n1.2 (i4 i x y).2.1 w1).mpr z
        rw [ci_c eq]
        rcases Classical.em (∃ i, 0 ≤ i ∧ i < m ∧ G 382 (5 * s + i) = w) with hh | hh
        · obtain ⟨F', G', a1, a2, a3, a4, a5⟩ := j_fail h (k := 2) (by decide)
          rw [ci_t hh, if_neg (show ¬ (1 : Int) = 0 by decide), if_pos (show (1 : Int) ≠ 0 by decide)]
          unfold pfX6_readParts_b42 pfX12_partsHere_b53
          simp only [pl_l, pl_b, pl_iT, pl_t, pl_f, gx_1, gx_2, gx_3, gx_4, gx_113, gx_114, gx_115, gx_116, gx_212, gx_213, gx_224, gn_4, gn_114, gn_115, gn_116, gn_213, gn_224, gx_367, gx_368, gx_369, gx_370, gx_371, gx_372, gx_373, gx_374, gx_375, gx_376, gx_377, gx_378, gx_379, gx_380, gx_381, gx_382, gx_383, gx_384, gx_385, gx_386, gx_387, gx_388, gx_389, gx_390, gx_391, gx_392, gx_393, gx_394, gx_395, gx_396, gx_397, gx_398, gx_399, gx_400, gx_401, gx_402, gx_403, gn_368, gn_369, gn_370, gn_371, gn_372, gn_373, gn_374, gn_375, gn_376, gn_377, gn_378, gn_379, gn_380, gn_381, gn_382, gn_383, gn_384, gn_385, gn_386, gn_387, gn_388, gn_389, gn_390, gn_391, gn_392, gn_393, gn_394, gn_395, gn_396, gn_397, gn_398, gn_399, gn_400, gn_401, gn_402, gn_403, a1, a2]
          rw [pl_i (by decide)]
          exact ⟨F', G', 0, 0, rfl, rfl, a4.g g5, a5.g, Or.inr (Or.inl ⟨rfl, rfl, a3⟩)⟩
        rw [ci_f hh, if_pos (show (0 : Int) = 0 from rfl), if_neg (show ¬ (0 : Int) ≠ 0 by decide)]
        have r48 : pfX12_partsHere_b48 pd_SH 5000 (pfX12_partsHere_b7 pd_SH 5000 k') G 367 s w 367 = if m ≥ 5 then pfX12_partsHere_b93 pd_SH 5000 (pfX12_partsHere_b7 pd_SH 5000 k') G 367 s w 0 367 else pfX12_partsHere_b93 pd_SH 5000 (pfX12_partsHere_b7 pd_SH 5000 k') G 367 s w 1 367 := by
          unfold pfX12_partsHere_b48 pfX12_partsHere_b53
          simp only [pl_l, pl_b, pl_iT, pl_t, pl_f, gx_367, gx_368, gx_369, gx_370, gx_371, gx_372, gx_373, gx_374, gx_375, gx_376, gx_377, gx_378, gx_379, gx_380, gx_381, gx_382, gx_383, gx_384, gx_385, gx_386, gx_387, gx_388, gx_389, gx_390, gx_391, gx_392, gx_393, gx_394, gx_395, gx_396, gx_397, gx_398, gx_399, gx_400, gx_401, gx_402, gx_403, gn_368, gn_369, gn_370, gn_371, gn_372, gn_373, gn_374, gn_375, gn_376, gn_377, gn_378, gn_379, gn_380, gn_381, gn_382, gn_383, gn_384, gn_385, gn_386, gn_387, gn_388, gn_389, gn_390, gn_391, gn_392, gn_393, gn_394, gn_395, gn_396, gn_397, gn_398, gn_399, gn_400, gn_401, gn_402, gn_403, mu2]
          rw [if_neg (show ¬ (1 : Int) = 0 by decide), if_neg (show ¬ w < 0 by omega)]
          unfold pfX12_partsHere_b70
          simp only [pl_l, pl_b, pl_iT, pl_t, pl_f, gx_367, gx_368, gx_369, gx_370, gx_371, gx_372, gx_373, gx_374, gx_375, gx_376, gx_377, gx_378, gx_379, gx_380, gx_381, gx_382, gx_383, gx_384, gx_385, gx_386, gx_387, gx_388, gx_389, gx_390, gx_391, gx_392, gx_393, gx_394, gx_395, gx_396, gx_397, gx_398, gx_399, gx_400, gx_401, gx_402, gx_403, gn_368, gn_369, gn_370, gn_371, gn_372, gn_373, gn_374, gn_375, gn_376, gn_377, gn_378, gn_379, gn_380, gn_381, gn_382, gn_383, gn_384, gn_385, gn_386, gn_387, gn_388, gn_389, gn_390, gn_391, gn_392, gn_393, gn_394, gn_395, gn_396, gn_397, gn_398, gn_399, gn_400, gn_401, gn_402, gn_403, mu3, lm_1 h2, lm_14 h2, lm_15 h2, lm_16 h2, lm_17 h2, lm_18 h2, lm_19 h2, lm_20 h2, lm_21 h2, lm_22 h2, lm_23 h2, lm_24 h2, lm_25 h2, lm_26 h2, lm_27 h2, lm_28 h2, lm_29 h2, lm_30 h2, lm_31 h2, lm_32 h2, lm_33 h2, lm_34 h2, lm_35 h2, lm_36 h2, lm_37 h2, lm_39 h2, lm_40 h2, lm_42 h2, lm_43 h2, lm_44 h2, lm_45 h2, lm_47 h2, lm_48 h2, lm_49 h2, lm_50 h2, lm_51 h2, i2]
          rw [if_neg (show ¬ (1 : Int) = 0 by decide), pl_i (by omega)]
        have c48 : pfX6_readParts_b48 pd_SH 5000 (pfX6_readParts_b2 pd_SH 5000 k) F 2 g m r = if m < 5 then (Option.bind (pfX9_advance pd_SH 5000 F 3) fun F15 => Option.bind (pfX6_takeNumberIn pd_SH 5000 F15 2 0 99 1) fun qr18 => if qr18.1 ≠ -1 then (Option.bind (pfX2_addPart pd_SH 5000 qr18.2 g r qr18.1) fun F19 => pfX6_readParts_b2 pd_SH 5000 k F19 2 g (pd_w (m + 1))) else some (0, qr18.2)) else pfX6_readParts_b73 pd_SH 5000 F 2 := by
          unfold pfX6_readParts_b48
          simp only [pl_l, pl_b, pl_iT, pl_t, pl_f, gx_1, gx_2, gx_3, gx_4, gx_113, gx_114, gx_115, gx_116, gx_212, gx_213, gx_224, gn_4, gn_114, gn_115, gn_116, gn_213, gn_224, lx_1_0 h1, lx_1_1 h1, lx_1_2 h1, lx_1_3 h1, lx_1_4 h1, lx_1_5 h1, lx_1_6 h1, lx_1_7 h1, lx_2_0 h1, lx_3_0 h1, lx_113_0 h1, lx_113_1 h1, lx_113_2 h1, lx_212_0 h1, lx_212_1 h1, pl_ob hg, i1]
          rw [if_neg (show ¬ r = -1 by omega), if_pos (show r < 17 by omega)]
        rw [r48, c48]
        by_cases m5 : m < 5
        · rw [if_pos m5, if_neg (show ¬ m ≥ 5 by omega)]
          obtain ⟨F1, G1, a1, a2, J1, z1, y1, -⟩ := h.adv (by omega)
          obtain ⟨F2, G2, v, u, c1, c2, z2, y2, -, hv⟩ := j_num J1 (lo := 0) (hi := 99) (by decide)
          unfold pfX12_partsHere_b93
          simp only [pl_l, pl_b, pl_iT, pl_t, pl_f, gx_367, gx_368, gx_369, gx_370, gx_371, gx_372, gx_373, gx_374, gx_375, gx_376, gx_377, gx_378, gx_379, gx_380, gx_381, gx_382, gx_383, gx_384, gx_385, gx_386, gx_387, gx_388, gx_389, gx_390, gx_391, gx_392, gx_393, gx_394, gx_395, gx_396, gx_397, gx_398, gx_399, gx_400, gx_401, gx_402, gx_403, gn_368, gn_369, gn_370, gn_371, gn_372, gn_373, gn_374, gn_375, gn_376, gn_377, gn_378, gn_379, gn_380, gn_381, gn_382, gn_383, gn_384, gn_385, gn_386, gn_387, gn_388, gn_389, gn_390, gn_391, gn_392, gn_393, gn_394, gn_395, gn_396, gn_397, gn_398, gn_399, gn_400, gn_401, gn_402, gn_403, mu5, a1, a2, c1, c2]
          rw [if_pos (show (1 : Int) ≠ 0 by decide)]
          rcases hv.symm with ⟨rfl, rfl, J2⟩ | ⟨rfl, v1, v2, J2⟩
          · rw [if_neg (show ¬ (-1 : Int) ≠ -1 by decide), if_neg (show ¬ (0 : Int) ≠ 0 by decide)]
            exact ⟨F2, G2, 0, 0, rfl, rfl, (z1.tr z2).g g5, (y1.tr y2).g, Or.inr (Or.inl ⟨rfl, rfl, J2⟩)⟩
          rw [if_pos (show v ≠ -1 by omega), if_pos (show (1 : Int) ≠ 0 by decide)]
          have f2 := J2.1
          have g2 := J2.2.1
          have q381 : G2 381 s = m := by rw [y2.1 381 (by decide), y1.1 381 (by decide)]; exact i2
          have gu1 : pd_Ly (pd_up G2 382 (5 * s + m) w) := g2.up (rc_row (by decide))
          have gu2 : pd_Ly (pd_up (pd_up G2 382 (5 * s + m) w) 383 (5 * s + m) v) := gu1.up (rc_row (by decide))
          have e11 : pd_up G2 382 (5 * s + m) w 367 11 = v := by rw [pu_a (by decide)]; exact v2
          have e381 : pd_up (pd_up G2 382 (5 * s + m) w) 383 (5 * s + m) v 381 s = m := by rw [pu_a (by decide), pu_a (by decide)]; exact q381
          simp only [pl_l, pl_b, pl_iT, pl_t, pl_f, gx_367, gx_368, gx_369, gx_370, gx_371, gx_372, gx_373, gx_374, gx_375, gx_376, gx_377, gx_378, gx_379, gx_380, gx_381, gx_382, gx_383, gx_384, gx_385, gx_386, gx_387, gx_388, gx_389, gx_390, gx_391, gx_392, gx_393, gx_394, gx_395, gx_396, gx_397, gx_398, gx_399, gx_400, gx_401, gx_402, gx_403, gn_368, gn_369, gn_370, gn_371, gn_372, gn_373, gn_374, gn_375, gn_376, gn_377, gn_378, gn_379, gn_380, gn_381, gn_382, gn_383, gn_384, gn_385, gn_386, gn_387, gn_388, gn_389, gn_390, gn_391, gn_392, gn_393, gn_394, gn_395, gn_396, gn_397, gn_398, gn_399, gn_400, gn_401, gn_402, gn_403, lm_1 g2, lm_14 g2, lm_15 g2, lm_16 g2, lm_17 g2, lm_18 g2, lm_19 g2, lm_20 g2, lm_21 g2, lm_22 g2, lm_23 g2, lm_24 g2, lm_25 g2, lm_26 g2, lm_27 g2, lm_28 g2, lm_29 g2, lm_30 g2, lm_31 g2, lm_32 g2, lm_33 g2, lm_34 g2, lm_35 g2, lm_36 g2, lm_37 g2, lm_39 g2, lm_40 g2, lm_42 g2, lm_43 g2, lm_44 g2, lm_45 g2, lm_47 g2, lm_48 g2, lm_49 g2, lm_50 g2, lm_51 g2, q381]
          rw [pl_i (by omega), pl_w (x := 5 * s) (by omega), pl_w (x := 5 * s + m) (by omega), pl_i (by omega)]
          simp only [pl_l, pl_b, pl_iT, pl_t, pl_f, gx_367, gx_368, gx_369, gx_370, gx_371, gx_372, gx_373, gx_374, gx_375, gx_376, gx_377, gx_378, gx_379, gx_380, gx_381, gx_382, gx_383, gx_384, gx_385, gx_386, gx_387, gx_388, gx_389, gx_390, gx_391, gx_392, gx_393, gx_394, gx_395, gx_396, gx_397, gx_398, gx_399, gx_400, gx_401, gx_402, gx_403, gn_368, gn_369, gn_370, gn_371, gn_372, gn_373, gn_374, gn_375, gn_376, gn_377, gn_378, gn_379, gn_380, gn_381, gn_382, gn_383, gn_384, gn_385, gn_386, gn_387, gn_388, gn_389, gn_390, gn_391, gn_392, gn_393, gn_394, gn_395, gn_396, gn_397, gn_398, gn_399, gn_400, gn_401, gn_402, gn_403, lm_1 gu1, lm_14 gu1, lm_15 gu1, lm_16 gu1, lm_17 gu1, lm_18 gu1, lm_19 gu1, lm_20 gu1, lm_21 gu1, lm_22 gu1, lm_23 gu1, lm_24 gu1, lm_25 gu1, lm_26 gu1, lm_27 gu1, lm_28 gu1, lm_29 gu1, lm_30 gu1, lm_31 gu1, lm_32 gu1, lm_33 gu1, lm_34 gu1, lm_35 gu1, lm_36 gu1, lm_37 gu1, lm_39 gu1, lm_40 gu1, lm_42 gu1, lm_43 gu1, lm_44 gu1, lm_45 gu1, lm_47 gu1, lm_48 gu1, lm_49 gu1, lm_50 gu1, lm_51 gu1, e11]
          rw [pl_i (by omega)]
          simp only [pl_l, pl_b, pl_iT, pl_t, pl_f, gx_367, gx_368, gx_369, gx_370, gx_371, gx_372, gx_373, gx_374, gx_375, gx_376, gx_377, gx_378, gx_379, gx_380, gx_381, gx_382, gx_383, gx_384, gx_385, gx_386, gx_387, gx_388, gx_389, gx_390, gx_391, gx_392, gx_393, gx_394, gx_395, gx_396, gx_397, gx_398, gx_399, gx_400, gx_401, gx_402, gx_403, gn_368, gn_369, gn_370, gn_371, gn_372, gn_373, gn_374, gn_375, gn_376, gn_377, gn_378, gn_379, gn_380, gn_381, gn_382, gn_383, gn_384, gn_385, gn_386, gn_387, gn_388, gn_389, gn_390, gn_391, gn_392, gn_393, gn_394, gn_395, gn_396, gn_397, gn_398, gn_399, gn_400, gn_401, gn_402, gn_403, lm_1 gu2, lm_14 gu2, lm_15 gu2, lm_16 gu2, lm_17 gu2, lm_18 gu2, lm_19 gu2, lm_20 gu2, lm_21 gu2, lm_22 gu2, lm_23 gu2, lm_24 gu2, lm_25 gu2, lm_26 gu2, lm_27 gu2, lm_28 gu2, lm_29 gu2, lm_30 gu2, lm_31 gu2, lm_32 gu2, lm_33 gu2, lm_34 gu2, lm_35 gu2, lm_36 gu2, lm_37 gu2, lm_39 gu2, lm_40 gu2, lm_42 gu2, lm_43 gu2, lm_44 gu2, lm_45 gu2, lm_47 gu2, lm_48 gu2, lm_49 gu2, lm_50 gu2, lm_51 gu2, e381]
          rw [pl_i (by omega), pl_w (by omega)]
          obtain ⟨Q, hQ⟩ : ∃ Q, pd_up (pd_up (pd_up G2 382 (5 * s + m) w) 383 (5 * s + m) v) 381 s (m + 1) = Q := ⟨_, rfl⟩
          rw [hQ]
          have JQ : J b F2 Q := by rw [← hQ]; exact ((J2.row (by decide)).row (by decide)).row (by decide)
          have fg3 : F2 g 3 = m := by rw [z2.1 g (by omega) (by omega), z1.1 g (by omega) (by omega)]; exact i1
          have fu1 : pd_Ly (pd_up F2 (g + 1) m r) := f2.up (pl_rc0 hg1 (by decide))
          have fu2 : pd_Ly (pd_up (pd_up F2 (g + 1) m r) (g + 2) m v) := fu1.up (pl_rc0 hg2 (by decide))
          have e3a : pd_up F2 (g + 1) m r g 3 = m := by rw [pu_a (by omega)]; exact fg3
          have e3b : pd_up (pd_up F2 (g + 1) m r) (g + 2) m v g 3 = m := by rw [pu_a (by omega)]; exact e3a
          obtain ⟨P, hP⟩ : ∃ P, pd_up (pd_up (pd_up F2 (g + 1) m r) (g + 2) m v) g 3 (m + 1) = P := ⟨_, rfl⟩
          have fP : pd_Ly P := by rw [← hP]; exact fu2.up (pl_rc4 hg (by decide))
          have eA : pfX2_addPart pd_SH 5000 F2 g r v = some P := by
            unfold pfX2_addPart
            simp only [pl_l, pl_b, pl_iT, pl_t, pl_f, pl_ob hg, (hgl F2 f2).1, pl_ln hg1, fg3, pl_ib hg1]
            rw [pl_i (by decide), if_neg (by omega), pl_i (by omega)]
            simp only [pl_l, pl_b, pl_iT, pl_t, pl_f, (hgl _ fu1).2, pl_ib hg2, e3a, e3b]
            rw [pl_i (by omega), pl_w (by omega), hP]
          simp only [pl_l, pl_b, pl_iT, pl_t, pl_f, eA]
          have pa : ∀ x, x ≠ g → x ≠ g + 1 → x ≠ g + 2 → P x = F2 x := fun x x1 x2 x3 => by rw [← hP, pu_a x1, pu_a x3, pu_a x2]
          have JP : J b P Q := JQ.c fP (fun x hx => pa x (by omega) (by omega) (by omega))
          have gc1 : gC g F P := ((z1.tr z2).g g5).tr ⟨fun x _ _ x1 x2 x3 => pa x x1 x2 x3, fun j hj => by rw [← hP, pu_r, if_neg hj, pu_a (by omega), pu_a (by omega)], fun j _ => by rw [pa 2 (by omega) (by omega) (by omega)], fun j _ => by rw [pa 3 (by omega) (by omega) (by omega)]⟩
          have gr1 : gR s G Q := ((y1.tr y2).g).tr (by
            rw [← hQ]
            exact ⟨fun x _ x1 x2 x3 => by rw [pu_a x1, pu_a x3, pu_a x2], fun j _ _ => by rw [pu_a (by decide), pu_a (by decide), pu_a (by decide)], fun j hj => by rw [pu_r, if_neg hj, pu_a (by decide), pu_a (by decide)], fun j hj => by rw [pu_a (by decide), pu_a (by decide), pu_r, if_neg (by omega)], fun j hj => by rw [pu_a (by decide), pu_r, if_neg (by omega), pu_a (by decide)]⟩)
          have er : ∀ x, x ≠ 367 → x ≠ 381 → x ≠ 382 → x ≠ 383 → bn Q x = bn G x := fun x x0 x1 x2 x3 => bn_row (gr1.1 x x0 x1 x2 x3)
          have MP : jM b P (bn Q) := by
            have ec : ∀ x, x ≠ 2 → x ≠ 3 → x ≠ g → x ≠ g + 1 → x ≠ g + 2 → P x = F x := gc1.1
            have eb := ec b (by omega) (by omega) (by omega) (by omega) (by omega)
            refine hM.fr ⟨by rw [eb], by rw [eb], by rw [eb]⟩ ⟨by rw [er 369 (by decide) (by decide) (by decide) (by decide)], by rw [er 370 (by decide) (by decide) (by decide) (by decide)], by rw [er 371 (by decide) (by decide) (by decide) (by decide)]⟩ (fun x x0 x1 => ⟨?_, ?_⟩) (fun x x0 x1 => ⟨?_, ?_⟩) (fun x x0 x1 => ⟨?_, ?_⟩)
            · rw [hnp] at x1; rw [ec _ (by omega) (by omega) (by omega) (by omega) (by omega)]
            · rw [er 374 (by decide) (by decide) (by decide) (by decide)]
            · rw [hnt] at x1; rw [ec _ (by omega) (by omega) (by omega) (by omega) (by omega)]
            · rw [er 378 (by decide) (by decide) (by decide) (by decide)]
            · rw [hna] at x1; rw [ec _ (by omega) (by omega) (by omega) (by omega) (by omega)]
            · rw [er 379 (by decide) (by decide) (by decide) (by decide)]
          have R2 : ∀ j, Q 382 j = if j = 5 * s + m then w else G 382 j := fun j => by rw [← hQ, pu_a (by decide), pu_a (by decide), pu_r, y2.1 382 (by decide), y1.1 382 (by decide)]
          have R3 : ∀ j, Q 383 j = if j = 5 * s + m then v else G 383 j := fun j => by rw [← hQ, pu_a (by decide), pu_r, pu_a (by decide), y2.1 383 (by decide), y1.1 383 (by decide)]
          have P1 : ∀ j, P (g + 1) j = if j = m then r else F (g + 1) j := fun j => by rw [← hP, pu_a (by omega), pu_a (by omega), pu_r, z2.1 _ (by omega) (by omega), z1.1 _ (by omega) (by omega)]
          have P2 : ∀ j, P (g + 2) j = if j = m then v else F (g + 2) j := fun j => by rw [← hP, pu_a (by omega), pu_r, pu_a (by omega), z2.1 _ (by omega) (by omega), z1.1 _ (by omega) (by omega)]
          have IQ : iP g s np nt (m + 1) P Q := by
            refine ⟨by rw [← hP, pu_r, if_pos rfl], by rw [← hQ, pu_r, if_pos rfl], by omega, fun i x y => ?_⟩
            rw [P1, P2, R2, R3]
            by_cases e : i = m
            · rw [if_pos e, if_pos e, if_pos (by omega), if_pos (by omega)]
              exact ⟨⟨r1, rfl⟩, w1, v1⟩
            · rw [if_neg e, if_neg e, if_neg (by omega), if_neg (by omega)]
              exact i4 i x (by omega)
          obtain ⟨d', rfl⟩ : ∃ d', d = d' + 1 := ⟨d - 1, by omega⟩
          obtain ⟨F', G', v', u', o1, o2, o3, o4, o5⟩ := j_parts hg hg1 hg2 hgl hgb hb hl hla hs k d' k' P Q (m + 1) (by omega) (by omega) (by omega) JP MP (by rw [er 369 (by decide) (by decide) (by decide) (by decide)]; exact hnp) (by rw [er 370 (by decide) (by decide) (by decide) (by decide)]; exact hnt) (by rw [er 371 (by decide) (by decide) (by decide) (by decide)]; exact hna) IQ
          refine ⟨F', G', v', u', o1, o2, gc1.tr o3, gr1.tr o4, ?_⟩
          rcases o5 with o5 | o5 | ⟨e1, e2, G0, e3, e4, e5, e6⟩
          · exact Or.inl o5
          · exact Or.inr (Or.inl o5)
          · exact Or.inr (Or.inr ⟨e1, e2, G0, e3, e4, gr1.tr e5, e6⟩)
        · rw [if_neg m5, if_pos (show m ≥ 5 by omega)]
          obtain ⟨F', G', a1, a2, a3, a4, a5⟩ := j_fail h (k := 5) (by decide)
          unfold pfX6_readParts_b73 pfX12_partsHere_b93
          simp only [pl_l, pl_b, pl_iT, pl_t, pl_f, gx_1, gx_2, gx_3, gx_4, gx_113, gx_114, gx_115, gx_116, gx_212, gx_213, gx_224, gn_4, gn_114, gn_115, gn_116, gn_213, gn_224, gx_367, gx_368, gx_369, gx_370, gx_371, gx_372, gx_373, gx_374, gx_375, gx_376, gx_377, gx_378, gx_379, gx_380, gx_381, gx_382, gx_383, gx_384, gx_385, gx_386, gx_387, gx_388, gx_389, gx_390, gx_391, gx_392, gx_393, gx_394, gx_395, gx_396, gx_397, gx_398, gx_399, gx_400, gx_401, gx_402, gx_403, gn_368, gn_369, gn_370, gn_371, gn_372, gn_373, gn_374, gn_375, gn_376, gn_377, gn_378, gn_379, gn_380, gn_381, gn_382, gn_383, gn_384, gn_385, gn_386, gn_387, gn_388, gn_389, gn_390, gn_391, gn_392, gn_393, gn_394, gn_395, gn_396, gn_397, gn_398, gn_399, gn_400, gn_401, gn_402, gn_403, a1, a2]
          rw [pl_i (by decide), if_neg (show ¬ (0 : Int) ≠ 0 by decide)]
          exact ⟨F', G', 0, 0, rfl, rfl, a4.g g5, a5.g, Or.inr (Or.inl ⟨rfl, rfl, a3⟩)⟩
    · have cU : pfX6_readParts_b2 pd_SH 5000 (k + 1) F 2 g m = some (1, F) := by
        rw [pfX6_readParts_b2]
        simp only [pl_l, pl_b, pl_iT, pl_t, pl_f, gx_1, gx_2, gx_3, gx_4, gx_113, gx_114, gx_115, gx_116, gx_212, gx_213, gx_224, gn_4, gn_114, gn_115, gn_116, gn_213, gn_224, h.name, ci_f kN]
        rw [if_neg (show ¬ m > 5 by omega)]
      rw [cU]
      by_cases k4 : G 367 6 = 1
      · obtain ⟨F', G', a1, a2, a3, a4, a5⟩ := j_fail h (k := 1) (by decide)
        have rU : pfX12_partsHere_b7 pd_SH 5000 (k' + 1) G 367 s = some (0, G') := by
          rw [pfX12_partsHere_b7]
          simp only [pl_l, pl_b, pl_iT, pl_t, pl_f, gx_367, gx_368, gx_369, gx_370, gx_371, gx_372, gx_373, gx_374, gx_375, gx_376, gx_377, gx_378, gx_379, gx_380, gx_381, gx_382, gx_383, gx_384, gx_385, gx_386, gx_387, gx_388, gx_389, gx_390, gx_391, gx_392, gx_393, gx_394, gx_395, gx_396, gx_397, gx_398, gx_399, gx_400, gx_401, gx_402, gx_403, gn_368, gn_369, gn_370, gn_371, gn_372, gn_373, gn_374, gn_375, gn_376, gn_377, gn_378, gn_379, gn_380, gn_381, gn_382, gn_383, gn_384, gn_385, gn_386, gn_387, gn_388, gn_389, gn_390, gn_391, gn_392, gn_393, gn_394, gn_395, gn_396, gn_397, gn_398, gn_399, gn_400, gn_401, gn_402, gn_403, r_isName, ci_f kN, a2]
          rw [if_neg (show ¬ G 367 6 ≠ 1 from fun e => e k4), if_neg (show ¬ (0 : Int) ≠ 0 by decide)]
        rw [rU]
        exact ⟨F, G', 1, 0, rfl, rfl, (zC.rf F).g g5, a5.g, Or.inr (Or.inr ⟨rfl, rfl, G, h, a5, (zR.rf G).g, a2, by rw [h7.1]; exact k4⟩)⟩
      · have rU : pfX12_partsHere_b7 pd_SH 5000 (k' + 1) G 367 s = some (1, G) := by
          rw [pfX12_partsHere_b7]
          simp only [pl_l, pl_b, pl_iT, pl_t, pl_f, gx_367, gx_368, gx_369, gx_370, gx_371, gx_372, gx_373, gx_374, gx_375, gx_376, gx_377, gx_378, gx_379, gx_380, gx_381, gx_382, gx_383, gx_384, gx_385, gx_386, gx_387, gx_388, gx_389, gx_390, gx_391, gx_392, gx_393, gx_394, gx_395, gx_396, gx_397, gx_398, gx_399, gx_400, gx_401, gx_402, gx_403, gn_368, gn_369, gn_370, gn_371, gn_372, gn_373, gn_374, gn_375, gn_376, gn_377, gn_378, gn_379, gn_380, gn_381, gn_382, gn_383, gn_384, gn_385, gn_386, gn_387, gn_388, gn_389, gn_390, gn_391, gn_392, gn_393, gn_394, gn_395, gn_396, gn_397, gn_398, gn_399, gn_400, gn_401, gn_402, gn_403]
          rw [if_pos k4]
        rw [rU]
        exact ⟨F, G, 1, 1, rfl, rfl, (zC.rf F).g g5, (zR.rf G).g, Or.inl ⟨rfl, rfl, h, m, hi⟩⟩
end PA

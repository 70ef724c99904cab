/-! a trust told -/
def Ls (nt na l : Int) : Prop := (0 ≤ l ∧ l < nt) ∨ (5 ≤ l ∧ l < 5 + na)
theorem l_fit {B B' : pd_F} {np nt na : Int} (hnp : np ≤ 12) (h1 : ∀ t, 0 ≤ t → t < nt → lOk np (B 381) (B 382) (B 383) t t) (h2 : ∀ a, 0 ≤ a → a < na → lOk np (B 381) (B 382) (B 383) (5 + a) nt) (e1 : ∀ l, Ls nt na l → B' 381 l = B 381 l) (e2 : ∀ l i, Ls nt na l → 0 ≤ i → i < 5 → B' 382 (5 * l + i) = B 382 (5 * l + i) ∧ B' 383 (5 * l + i) = B 383 (5 * l + i)) :
    (∀ l j, Ls nt na l → j ≤ B 381 l → lW (B' 383) l j = lW (B 383) l j) ∧ ∀ (k : Nat) (l : Int), Ls nt na l → (lFl (B' 381) (B' 382) (B' 383) k l ↔ lFl (B 381) (B 382) (B 383) k l) ∧ lDp (B' 381) (B' 382) k l = lDp (B 381) (B 382) k l ∧ (∀ p, lWy (B' 381) (B' 382) k l p = lWy (B 381) (B 382) k l p) ∧ ∀ a p, lGv (B' 381) (B' 382) (B' 383) k l a p = lGv (B 381) (B 382) (B 383) k l a p := by
  have ok : ∀ l, Ls nt na l → ∃ m, m ≤ nt ∧ lOk np (B 381) (B 382) (B 383) l m := fun l s => by
    rcases s with s | s
    · exact ⟨l, by omega, h1 l s.1 s.2⟩
    · have := h2 (l - 5) (by omega) (by omega)
      rw [show 5 + (l - 5) = l by omega] at this
      exact ⟨nt, Int.le_refl _, this⟩
  refine l_cg (S := Ls nt na) (fun l s => ?_) (fun l i s x y => ?_) (fun l i s x y z => ?_)
  · obtain ⟨m, _, o⟩ := ok l s
    exact ⟨o.1, e1 l s⟩
  · obtain ⟨m, _, o⟩ := ok l s
    exact e2 l i s x (by have := o.2.1; omega)
  · obtain ⟨m, hm, o⟩ := ok l s
    have := (o.2.2 i x y).1
    exact Or.inl (by omega)
theorem lists_cg {B B' F F' : pd_F} {b np nt na : Int} (hnp : np ≤ 12) (h1 : ∀ t, 0 ≤ t → t < nt → kG B F b t ∧ lOk np (B 381) (B 382) (B 383) t t) (h2 : ∀ a, 0 ≤ a → a < na → kG B F b (5 + a) ∧ lOk np (B 381) (B 382) (B 383) (5 + a) nt) (e1 : ∀ l, Ls nt na l → B' 381 l = B 381 l) (e2 : ∀ l i, Ls nt na l → 0 ≤ i → i < 5 → B' 382 (5 * l + i) = B 382 (5 * l + i) ∧ B' 383 (5 * l + i) = B 383 (5 * l + i)) (ef : ∀ l a, Ls nt na l → b + 34 + 4 * l ≤ a → a ≤ b + 37 + 4 * l → F' a = F a) :
    (∀ t, 0 ≤ t → t < nt → kG B' F' b t ∧ lOk np (B' 381) (B' 382) (B' 383) t t) ∧ ∀ a, 0 ≤ a → a < na → kG B' F' b (5 + a) ∧ lOk np (B' 381) (B' 382) (B' 383) (5 + a) nt := by
  obtain ⟨c1, c2⟩ := l_fit hnp (fun t x y => (h1 t x y).2) (fun a x y => (h2 a x y).2) e1 e2
  have go : ∀ l m, Ls nt na l → kG B F b l → lOk np (B 381) (B 382) (B 383) l m → kG B' F' b l ∧ lOk np (B' 381) (B' 382) (B' 383) l m := fun l m s k o => by
    obtain ⟨d1, d2, d3, -⟩ := c2 8 l s
    have o5 := o.2.1
    constructor
    · obtain ⟨k1, k2, k3, k4, k5, k6⟩ := k
      unfold kG
      rw [ef l (b + 34 + 4 * l) s (by omega) (by omega), ef l (b + 34 + 4 * l + 1) s (by omega) (by omega), ef l (b + 34 + 4 * l + 2) s (by omega) (by omega), ef l (b + 34 + 4 * l + 3) s (by omega) (by omega), e1 l s, c1 l _ s (Int.le_refl _), ci_c d1, d2]
      refine ⟨k1, k2, k3, k4, fun p x y => by rw [d3]; exact k5 p x y, fun i x y => ?_⟩
      rw [(e2 l i s x (by omega)).1, (e2 l i s x (by omega)).2]
      exact k6 i x y
    · unfold lOk
      rw [e1 l s]
      refine ⟨o.1, o.2.1, fun i x y => ?_⟩
      rw [(e2 l i s x (by omega)).1, (e2 l i s x (by omega)).2]
      exact o.2.2 i x y
  exact ⟨fun t x y => go t t (Or.inl ⟨x, y⟩) (h1 t x y).1 (h1 t x y).2, fun a x y => go (5 + a) nt (Or.inr (by omega)) (h2 a x y).1 (h2 a x y).2⟩
section TL
variable {b : Int} {F G : pd_F}
theorem j_trust (h : J b F G) (hK : K b F (bn G)) (h4 : F 3 4 = 1) : jL b F G (pfX6_readTrust pd_SH 5000 F 2) (rL (pfX12_named pd_SH 5000 G 367 1)) := by
  obtain ⟨h1, h2, h3, h5, -⟩ := id h
  have b5 := aB_5 h3
  obtain ⟨s0, -, s2, -⟩ := sh_b h3
  obtain ⟨kP, ⟨⟨k10, kn⟩, ⟨k11, kna⟩, kT, kA⟩, kH, kO, kS, kM⟩ := id hK
  obtain ⟨n0, n1⟩ := r_named1 h
  have l1 : ∀ {H : pd_F}, pd_Ly H → H b 1 = b + 2 := fun hH => (ly_b hH h3).2.1
  unfold pfX6_readTrust
  simp only [pl_l, pl_b, pl_iT, pl_t, pl_f, gx_1, gx_2, gx_3, gx_4, gx_113, gx_114, gx_115, gx_116, gx_212, gx_213, gx_224, gn_4, gn_114, gn_115, gn_116, gn_213, gn_224, lx_1_0 h1, lx_1_1 h1, lx_1_2 h1, lx_1_3 h1, lx_1_4 h1, lx_1_5 h1, lx_1_6 h1, lx_1_7 h1, lx_2_0 h1, lx_3_0 h1, lx_113_0 h1, lx_113_1 h1, lx_113_2 h1, lx_212_0 h1, lx_212_1 h1, h5, pl_ob s0, l1 h1]
  by_cases cc : bn G 370 0 < 5
  · rw [if_pos (by rw [k10]; exact cc), n1 cc]
    obtain ⟨nt, hnt⟩ : ∃ nt, bn G 370 0 = nt := ⟨_, rfl⟩
    obtain ⟨na, hna⟩ : ∃ na, bn G 371 0 = na := ⟨_, rfl⟩
    obtain ⟨np, hnp⟩ : ∃ np, bn G 369 0 = np := ⟨_, rfl⟩
    have pB := kM.2.1.1
    rw [hnt] at cc k10 kn kT kA
    rw [hna] at k11 kna kA
    rw [hnp] at kT kA pB
    obtain ⟨g, hg⟩ : ∃ g, b + 34 + 4 * nt = g := ⟨_, rfl⟩
    obtain ⟨s, hs⟩ : ∃ s, 15 + nt = s := ⟨_, rfl⟩
    have lt : F (b + 2) nt = g := by rw [← hg]; exact fy_tr h1 h3 kn.1 cc
    obtain ⟨-, -, -, sg, sg1, sg2, sg3⟩ := fy_g h1 h3 (i := nt) kn.1 (by omega)
    rw [hg] at sg sg1 sg2 sg3
    have hgl : ∀ H : pd_F, pd_Ly H → H g 0 = g + 1 ∧ H g 1 = g + 2 := fun H hH => by
      obtain ⟨x1, x2, -⟩ := fy_g hH h3 (i := nt) kn.1 (by omega)
      rw [hg] at x1 x2
      exact ⟨x1, x2⟩
    obtain ⟨F1, G1, a1, a2, J1, z1, y1, -⟩ := h.adv (by omega)
    have M1 := kM.z b5.1 z1 y1
    simp only [pl_l, pl_b, pl_iT, pl_t, pl_f, k10, pl_ib s2, lt, a1, a2]
    rw [pl_i (by omega), pl_i (by omega)]
    rcases j_newName J1 M1 with ⟨F2, G2, t1, t2, t3, t4, t5⟩ | ⟨t1, k4, ⟨u1, u2, u3⟩, t2⟩
    · unfold pfX12_trustLine
      simp only [pl_l, pl_b, pl_iT, pl_t, pl_f, gx_367, gx_368, gx_369, gx_370, gx_371, gx_372, gx_373, gx_374, gx_375, gx_376, gx_377, gx_378, gx_379, gx_380, gx_381, gx_382, gx_383, gx_384, gx_385, gx_386, gx_387, gx_388, gx_389, gx_390, gx_391, gx_392, gx_393, gx_394, gx_395, gx_396, gx_397, gx_398, gx_399, gx_400, gx_401, gx_402, gx_403, gn_368, gn_369, gn_370, gn_371, gn_372, gn_373, gn_374, gn_375, gn_376, gn_377, gn_378, gn_379, gn_380, gn_381, gn_382, gn_383, gn_384, gn_385, gn_386, gn_387, gn_388, gn_389, gn_390, gn_391, gn_392, gn_393, gn_394, gn_395, gn_396, gn_397, gn_398, gn_399, gn_400, gn_401, gn_402, gn_403, t1, t2]
      rw [if_neg (show ¬ (0 : Int) ≠ 0 by decide), if_neg (show ¬ (0 : Int) ≠ 0 by decide)]
      simp only [pl_l, pl_b, pl_iT, pl_t, pl_f]
      rw [pl_i (by decide), rL_0]
      exact jL.x (z1.tr t3).w (((wR.rf G).z y1).z t4) t5
    have f1 := J1.1
    obtain ⟨w8', w5', hw8, hw5⟩ : ∃ w8' w5', F1 3 8 = w8' ∧ G1 367 8 = w5' := ⟨_, _, rfl, rfl⟩
    have hnm := J1.2.2.2.2.2.1.2.2.2.2.2 k4
    rw [hw8, hw5] at hnm
    rw [hw5] at t2 u1 u2 u3
    obtain ⟨P, hP⟩ : ∃ P, pd_up (pd_up F1 g 4 w8') g 3 0 = P := ⟨_, rfl⟩
    have fP : pd_Ly P := by rw [← hP]; exact (f1.up (pl_rc4 sg (by decide))).up (pl_rc4 sg (by decide))
    have p3 : P g 3 = 0 := by rw [← hP, pu_r, if_pos rfl]
    have p4 : P g 4 = w8' := by rw [← hP, pu_r, if_neg (by decide), pu_r, if_pos rfl]
    have pa : ∀ a, a ≠ g → P a = F1 a := fun a y => by rw [← hP, pu_a y, pu_a y]
    have eB : pfX2_begin pd_SH 5000 F1 g w8' = some P := by
      unfold pfX2_begin
      simp only [pl_l, pl_b, pl_iT, pl_t, pl_f, pl_ob sg, hP]
    have J2 := (J1.up (j := 38) (v := w5') (by decide)).c fP (fun a y => pa a (by omega))
    obtain ⟨F3, G3, b1, b2, J3, z3, y3, -, q38⟩ := J2.adv (by rw [pa 3 (by omega)]; omega)
    have g3 := J3.2.1
    have q38' : G3 367 38 = w5' := by rw [q38, pu_r, if_pos rfl]
    have q13 : G3 367 13 = 1 := J3.2.2.2.2.2.2.2
    have gy : ∀ a, a ≠ 367 → G3 a = G a := fun a y => by rw [y3.1 a y, pu_a y, y1.1 a y]
    have q370 : G3 370 1 = nt := by rw [gy 370 (by decide), ← bn_370 (G := G)]; exact hnt
    obtain ⟨Q, hQ⟩ : ∃ Q, pd_up G3 381 s 0 = Q := ⟨_, rfl⟩
    have JQ : J b F3 Q := by rw [← hQ]; exact J3.row (by decide)
    have eP : pfX12_partsHere pd_SH 5000 G3 367 s = pfX12_partsHere_b7 pd_SH 5000 5000 Q 367 s := by
      unfold pfX12_partsHere
      simp only [pl_l, pl_b, pl_iT, pl_t, pl_f, gx_367, gx_368, gx_369, gx_370, gx_371, gx_372, gx_373, gx_374, gx_375, gx_376, gx_377, gx_378, gx_379, gx_380, gx_381, gx_382, gx_383, gx_384, gx_385, gx_386, gx_387, gx_388, gx_389, gx_390, gx_391, gx_392, gx_393, gx_394, gx_395, gx_396, gx_397, gx_398, gx_399, gx_400, gx_401, gx_402, gx_403, gn_368, gn_369, gn_370, gn_371, gn_372, gn_373, gn_374, gn_375, gn_376, gn_377, gn_378, gn_379, gn_380, gn_381, gn_382, gn_383, gn_384, gn_385, gn_386, gn_387, gn_388, gn_389, gn_390, gn_391, gn_392, gn_393, gn_394, gn_395, gn_396, gn_397, gn_398, gn_399, gn_400, gn_401, gn_402, gn_403, lm_1 g3, lm_14 g3, lm_15 g3, lm_16 g3, lm_17 g3, lm_18 g3, lm_19 g3, lm_20 g3, lm_21 g3, lm_22 g3, lm_23 g3, lm_24 g3, lm_25 g3, lm_26 g3, lm_27 g3, lm_28 g3, lm_29 g3, lm_30 g3, lm_31 g3, lm_32 g3, lm_33 g3, lm_34 g3, lm_35 g3, lm_36 g3, lm_37 g3, lm_39 g3, lm_40 g3, lm_42 g3, lm_43 g3, lm_44 g3, lm_45 g3, lm_47 g3, lm_48 g3, lm_49 g3, lm_50 g3, lm_51 g3]
      rw [pl_i (by omega), hQ]
    have ffc3 : ∀ a, a ≠ 2 → a ≠ 3 → a ≠ g → F3 a = F a := fun a x y w => by rw [z3.1 a x y, pa a w, z1.1 a x y]
    have ffg3 : ∀ a, a ≠ 367 → a ≠ 381 → Q a = G a := fun a x y => by rw [← hQ, pu_a y, gy a x]
    have eb3 : F3 b = F b := ffc3 b (by omega) (by omega) (by omega)
    have erQ : ∀ x, x ≠ 367 → x ≠ 381 → bn Q x = bn G x := fun x x0 x1 => bn_row (ffg3 x x0 x1)
    have MQ : jM b F3 (bn Q) := by
      refine kM.fr ⟨by rw [eb3], by rw [eb3], by rw [eb3]⟩ ⟨by rw [erQ 369 (by decide) (by decide)], by rw [erQ 370 (by decide) (by decide)], by rw [erQ 371 (by decide) (by decide)]⟩ (fun x x0 x1 => ⟨?_, by rw [erQ 374 (by decide) (by decide)]⟩) (fun x x0 x1 => ⟨?_, by rw [erQ 378 (by decide) (by decide)]⟩) (fun x x0 x1 => ⟨?_, by rw [erQ 379 (by decide) (by decide)]⟩)
      · rw [hnp] at x1; rw [ffc3 _ (by omega) (by omega) (by omega)]
      · rw [hnt] at x1; rw [ffc3 _ (by omega) (by omega) (by omega)]
      · rw [hna] at x1; rw [ffc3 _ (by omega) (by omega) (by omega)]
    have IQ : iP g s np nt 0 F3 Q := ⟨by rw [z3.1 g (by omega) (by omega)]; exact p3, by rw [← hQ, pu_r, if_pos rfl], by omega, fun i x y => by omega⟩
    obtain ⟨F5, G5, v, u, d1, d2, d3, d4, hv⟩ := j_parts sg sg1 sg2 hgl (l := nt) (nt := nt) (np := np) (na := na) hg h3 (Or.inl ⟨kn.1, cc, Int.le_refl _⟩) (Or.inl cc) (s := s) (by omega) 5000 5 5000 F3 Q 0 (by decide) (by decide) (by decide) JQ MQ (by rw [erQ 369 (by decide) (by decide)]; exact hnp) (by rw [erQ 370 (by decide) (by decide)]; exact hnt) (by rw [erQ 371 (by decide) (by decide)]; exact hna) IQ
    have eM : pfX6_readParts pd_SH 5000 F3 2 g = some (v, F5) := d1
    have Xf1 : F1 2 0 = 3 := lx_2_0 f1
    have XP : P 2 0 = 3 := lx_2_0 fP
    have wq : wR G Q := by
      rw [← hQ]
      exact (((wR.rf G).z y1).z ((zR.up (j := 38) (by decide)).tr y3)).up (by decide) (by rw [show bs 381 = 15 by decide]; omega)
    have w5g' : ∀ {H : pd_F}, gR s Q H → wR G H := fun {H} d4 => wq.tr ⟨fun a y z => d4.1 a y (by omega) (by omega) (by omega), d4.2.1, fun a j y z w => by
      by_cases e5 : a = 381
      · subst e5; rw [show bs 381 = 15 by decide] at w; exact d4.2.2.1 j (by omega)
      by_cases e6 : a = 382
      · subst e6; rw [show bs 382 = 75 by decide] at w; exact d4.2.2.2.1 j (by omega)
      by_cases e7 : a = 383
      · subst e7; rw [show bs 383 = 75 by decide] at w; exact d4.2.2.2.2 j (by omega)
      · rw [d4.1 a (by omega) e5 e6 e7], fun k q => by rw [d4.1 377 (by decide) (by decide) (by decide) (by decide)]; exact q⟩
    have w5g := w5g' d4
    have wP : wC b F P := by
      rw [← hP]
      exact (z1.w.up b5.1 (by omega)).up b5.1 (by omega)
    have w5c : wC b F F5 := (wP.tr z3.w).tr ⟨fun a y z w => d3.1 a y z (by omega) (by omega) (by omega), d3.2.2.1, d3.2.2.2⟩
    have eT : pfX12_trustLine pd_SH 5000 G1 367 = if u ≠ 0 then (pd_i (pd_ib pd_SH 1 0 (G5 367 23) (pd_w ((pd_w (5 * (G5 367 13))) + nt)) = true) <| pd_l (pd_up G5 (G5 367 23) (pd_w ((pd_w (5 * (G5 367 13))) + nt)) w5') fun F8 => pd_i (pd_ib pd_SH 0 0 (F8 367 15) (F8 367 13) = true) <| pd_l (pd_up F8 (F8 367 15) (F8 367 13) (pd_w ((F8 (F8 367 15) (F8 367 13)) + 1))) fun F10 => some (1, F10)) else some (0, G5) := by
      unfold pfX12_trustLine
      simp only [pl_l, pl_b, pl_iT, pl_t, pl_f, gx_367, gx_368, gx_369, gx_370, gx_371, gx_372, gx_373, gx_374, gx_375, gx_376, gx_377, gx_378, gx_379, gx_380, gx_381, gx_382, gx_383, gx_384, gx_385, gx_386, gx_387, gx_388, gx_389, gx_390, gx_391, gx_392, gx_393, gx_394, gx_395, gx_396, gx_397, gx_398, gx_399, gx_400, gx_401, gx_402, gx_403, gn_368, gn_369, gn_370, gn_371, gn_372, gn_373, gn_374, gn_375, gn_376, gn_377, gn_378, gn_379, gn_380, gn_381, gn_382, gn_383, gn_384, gn_385, gn_386, gn_387, gn_388, gn_389, gn_390, gn_391, gn_392, gn_393, gn_394, gn_395, gn_396, gn_397, gn_398, gn_399, gn_400, gn_401, gn_402, gn_403, t2, b2]
      rw [if_pos (show (1 : Int) ≠ 0 by decide)]
      simp only [lm_1 g3, lm_14 g3, lm_15 g3, lm_16 g3, lm_17 g3, lm_18 g3, lm_19 g3, lm_20 g3, lm_21 g3, lm_22 g3, lm_23 g3, lm_24 g3, lm_25 g3, lm_26 g3, lm_27 g3, lm_28 g3, lm_29 g3, lm_30 g3, lm_31 g3, lm_32 g3, lm_33 g3, lm_34 g3, lm_35 g3, lm_36 g3, lm_37 g3, lm_39 g3, lm_40 g3, lm_42 g3, lm_43 g3, lm_44 g3, lm_45 g3, lm_47 g3, lm_48 g3, lm_49 g3, lm_50 g3, lm_51 g3, gx_367, gx_368, gx_369, gx_370, gx_371, gx_372, gx_373, gx_374, gx_375, gx_376, gx_377, gx_378, gx_379, gx_380, gx_381, gx_382, gx_383, gx_384, gx_385, gx_386, gx_387, gx_388, gx_389, gx_390, gx_391, gx_392, gx_393, gx_394, gx_395, gx_396, gx_397, gx_398, gx_399, gx_400, gx_401, gx_402, gx_403, gn_368, gn_369, gn_370, gn_371, gn_372, gn_373, gn_374, gn_375, gn_376, gn_377, gn_378, gn_379, gn_380, gn_381, gn_382, gn_383, gn_384, gn_385, gn_386, gn_387, gn_388, gn_389, gn_390, gn_391, gn_392, gn_393, gn_394, gn_395, gn_396, gn_397, gn_398, gn_399, gn_400, gn_401, gn_402, gn_403, q13, q370, pl_l, pl_b, pl_iT, pl_t, pl_f, q38', Int.mul_one]
      rw [pl_i (by omega), pl_w (x := 15) (by decide), pl_w (x := 15 + nt) (by omega), hs, eP, d2]
      simp only [pl_l, pl_b, pl_iT, pl_t, pl_f]
    simp only [pl_l, pl_b, pl_iT, pl_t, pl_f, gx_1, gx_2, gx_3, gx_4, gx_113, gx_114, gx_115, gx_116, gx_212, gx_213, gx_224, gn_4, gn_114, gn_115, gn_116, gn_213, gn_224, t1, Xf1, XP, hw8, pl_ob sg, eB, b1, eM, eT]
    rw [if_pos (show (1 : Int) ≠ 0 by decide)]
    rcases hv with ⟨rfl, rfl, J5, m', i1, i2, i3, i4⟩ | ⟨rfl, rfl, d5⟩ | ⟨rfl, rfl, G0, J0, y0, dd, d5, d6⟩
    · rw [if_neg (show ¬ (1 : Int) = 0 by decide), if_pos (show (1 : Int) ≠ 0 by decide)]
      have g5 := J5.2.1
      have q513 : G5 367 13 = 1 := J5.2.2.2.2.2.2.2
      have g6 : pd_Ly (pd_up G5 378 (5 + nt) w5') := g5.up (rc_row (by decide))
      have q613 : pd_up G5 378 (5 + nt) w5' 367 13 = 1 := by rw [pu_a (by decide)]; exact q513
      have q6370 : pd_up G5 378 (5 + nt) w5' 370 1 = nt := by rw [pu_a (by decide), d4.1 370 (by decide) (by decide) (by decide) (by decide), ← hQ, pu_a (by decide)]; exact q370
      simp only [gx_367, gx_368, gx_369, gx_370, gx_371, gx_372, gx_373, gx_374, gx_375, gx_376, gx_377, gx_378, gx_379, gx_380, gx_381, gx_382, gx_383, gx_384, gx_385, gx_386, gx_387, gx_388, gx_389, gx_390, gx_391, gx_392, gx_393, gx_394, gx_395, gx_396, gx_397, gx_398, gx_399, gx_400, gx_401, gx_402, gx_403, gn_368, gn_369, gn_370, gn_371, gn_372, gn_373, gn_374, gn_375, gn_376, gn_377, gn_378, gn_379, gn_380, gn_381, gn_382, gn_383, gn_384, gn_385, gn_386, gn_387, gn_388, gn_389, gn_390, gn_391, gn_392, gn_393, gn_394, gn_395, gn_396, gn_397, gn_398, gn_399, gn_400, gn_401, gn_402, gn_403, lm_1 g5, lm_14 g5, lm_15 g5, lm_16 g5, lm_17 g5, lm_18 g5, lm_19 g5, lm_20 g5, lm_21 g5, lm_22 g5, lm_23 g5, lm_24 g5, lm_25 g5, lm_26 g5, lm_27 g5, lm_28 g5, lm_29 g5, lm_30 g5, lm_31 g5, lm_32 g5, lm_33 g5, lm_34 g5, lm_35 g5, lm_36 g5, lm_37 g5, lm_39 g5, lm_40 g5, lm_42 g5, lm_43 g5, lm_44 g5, lm_45 g5, lm_47 g5, lm_48 g5, lm_49 g5, lm_50 g5, lm_51 g5, q513, Int.mul_one]
      rw [pl_w (x := 5) (by decide), pl_w (x := 5 + nt) (by omega), pl_i (by omega)]
      simp only [pl_l, pl_b, pl_iT, pl_t, pl_f, gx_367, gx_368, gx_369, gx_370, gx_371, gx_372, gx_373, gx_374, gx_375, gx_376, gx_377, gx_378, gx_379, gx_380, gx_381, gx_382, gx_383, gx_384, gx_385, gx_386, gx_387, gx_388, gx_389, gx_390, gx_391, gx_392, gx_393, gx_394, gx_395, gx_396, gx_397, gx_398, gx_399, gx_400, gx_401, gx_402, gx_403, gn_368, gn_369, gn_370, gn_371, gn_372, gn_373, gn_374, gn_375, gn_376, gn_377, gn_378, gn_379, gn_380, gn_381, gn_382, gn_383, gn_384, gn_385, gn_386, gn_387, gn_388, gn_389, gn_390, gn_391, gn_392, gn_393, gn_394, gn_395, gn_396, gn_397, gn_398, gn_399, gn_400, gn_401, gn_402, gn_403, lm_1 g6, lm_14 g6, lm_15 g6, lm_16 g6, lm_17 g6, lm_18 g6, lm_19 g6, lm_20 g6, lm_21 g6, lm_22 g6, lm_23 g6, lm_24 g6, lm_25 g6, lm_26 g6, lm_27 g6, lm_28 g6, lm_29 g6, lm_30 g6, lm_31 g6, lm_32 g6, lm_33 g6, lm_34 g6, lm_35 g6, lm_36 g6, lm_37 g6, lm_39 g6, lm_40 g6, lm_42 g6, lm_43 g6, lm_44 g6, lm_45 g6, lm_47 g6, lm_48 g6, lm_49 g6, lm_50 g6, lm_51 g6, q613, q6370]
      rw [pl_i (by decide), pl_w (by omega)]
      simp only [pl_l, pl_b, pl_iT, pl_t, pl_f]
      rw [pl_i (by decide), rL_1]
      have J7 := (J5.row (a := 378) (j := 5 + nt) (v := w5') (by decide)).row (a := 370) (j := 1) (v := nt + 1) (by decide)
      have w7g := (w5g.up (a := 378) (i := 5 + nt) (v := w5') (by decide) (by rw [show bs 378 = 5 by decide]; omega)).up (a := 370) (i := 1) (v := nt + 1) (by decide) (by decide)
      obtain ⟨F8, G8, u, m1, m2, z8, y8, he⟩ := j_end J7
      simp only [pl_l, pl_b, pl_iT, pl_t, pl_f, m1, m2]
      rcases he.symm with ⟨rfl, J9⟩ | ⟨rfl, J9⟩
      · rw [if_neg (show ¬ (0 : Int) ≠ 0 by decide)]
        exact jL.x (w5c.tr z8.w) (w7g.z y8) J9
      rw [if_pos (show (1 : Int) ≠ 0 by decide)]
      have f8 := J9.1
      have e82 := J9.2.2.2.1
      -- rows at the end
      have R378 : ∀ j, G8 378 j = if j = 5 + nt then w5' else G 378 j := fun j => by
        rw [y8.1 378 (by decide), pu_a (by decide), pu_r, d4.1 378 (by decide) (by decide) (by decide) (by decide), ffg3 378 (by decide) (by decide)]
      have R370 : G8 370 1 = nt + 1 := by rw [y8.1 370 (by decide), pu_r, if_pos rfl]
      have R381 : ∀ j, j ≠ s → G8 381 j = G 381 j := fun j y => by
        rw [y8.1 381 (by decide), pu_a (by decide), pu_a (by decide), d4.2.2.1 j y, ← hQ, pu_r, if_neg y, gy 381 (by decide)]
      have R382 : ∀ j, j < 5 * s ∨ 5 * s + 5 ≤ j → G8 382 j = G 382 j := fun j y => by
        rw [y8.1 382 (by decide), pu_a (by decide), pu_a (by decide), d4.2.2.2.1 j y, ← hQ, pu_a (by decide), gy 382 (by decide)]
      have R383 : ∀ j, j < 5 * s ∨ 5 * s + 5 ≤ j → G8 383 j = G 383 j := fun j y => by
        rw [y8.1 383 (by decide), pu_a (by decide), pu_a (by decide), d4.2.2.2.2 j y, ← hQ, pu_a (by decide), gy 383 (by decide)]
      have R5 : ∀ a, a = 381 ∨ a = 382 ∨ a = 383 → G8 a = G5 a := fun a y => by rw [y8.1 a (by omega), pu_a (by omega), pu_a (by omega)]
      have Ro : ∀ a, a ≠ 367 → a ≠ 370 → a ≠ 378 → a ≠ 381 → a ≠ 382 → a ≠ 383 → G8 a = G a := fun a q0 q1 q2 q3 q4 q5 => by
        rw [y8.1 a q0, pu_a q1, pu_a q2, d4.1 a q0 q3 q4 q5, ffg3 a q0 q3]
      have Rb : ∀ a, a = 369 ∨ (371 ≤ a ∧ a ≤ 377) ∨ (379 ≤ a ∧ a ≤ 380) ∨ (384 ≤ a ∧ a ≤ 392) → bn G8 a = bn G a := fun a y => bn_row (Ro a (by omega) (by omega) (by omega) (by omega) (by omega) (by omega))
      have B370 : bn G8 370 0 = nt + 1 := by rw [bn_370]; exact R370
      have L1 : ∀ l, Ls nt na l → bn G8 381 l = bn G 381 l := fun l y => by rw [bn_381, bn_381, R381 _ (by unfold Ls at y; omega)]
      have L2 : ∀ l i, Ls nt na l → 0 ≤ i → i < 5 → bn G8 382 (5 * l + i) = bn G 382 (5 * l + i) ∧ bn G8 383 (5 * l + i) = bn G 383 (5 * l + i) := fun l i y x0 x1 => by
        unfold Ls at y
        rw [bn_382, bn_382, bn_383, bn_383, R382 _ (by omega), R383 _ (by omega)]
        exact ⟨rfl, rfl⟩
      have T381 : bn G8 381 nt = m' := by rw [bn_381, hs, R5 381 (by omega)]; exact i2
      have T38 : ∀ i, bn G8 382 (5 * nt + i) = G5 382 (5 * s + i) ∧ bn G8 383 (5 * nt + i) = G5 383 (5 * s + i) := fun i => by
        rw [bn_382, bn_383, R5 382 (by omega), R5 383 (by omega), show 75 + (5 * nt + i) = 5 * s + i by omega]
        exact ⟨rfl, rfl⟩
      have oN : lOk np (bn G8 381) (bn G8 382) (bn G8 383) nt nt := by
        refine ⟨by rw [T381]; exact i3.1, by rw [T381]; exact i3.2, fun i x y => ?_⟩
        rw [T381] at y
        rw [(T38 i).1, (T38 i).2]
        exact (i4 i x y).2
      -- cells of the class ahead of settle
      have ff8 : ∀ a, a ≠ 2 → a ≠ 3 → a ≠ g → a ≠ g + 1 → a ≠ g + 2 → F8 a = F a := fun a x y w q r => by rw [z8.1 a x y, d3.1 a x y w q r, ffc3 a x y w]
      have f8g : ∀ j, j ≠ 3 → F8 g j = P g j := fun j y => by rw [z8.1 g (by omega) (by omega), d3.2.1 j y, z3.1 g (by omega) (by omega)]
      obtain ⟨c1, c2⟩ := lists_cg pB.2 kT (fun a x y => ⟨(kA a x y).1, (kA a x y).2.1⟩) (F' := F8) L1 L2 (fun l a y x0 x1 => by unfold Ls at y; exact ff8 a (by omega) (by omega) (by omega) (by omega) (by omega))
      have cellsN : ∀ i, 0 ≤ i → i < bn G8 381 nt → F8 (b + 34 + 4 * nt + 1) i = pcl (bn G8 382 (5 * nt + i)) ∧ F8 (b + 34 + 4 * nt + 2) i = bn G8 383 (5 * nt + i) := fun i x y => by
        rw [T381] at y
        rw [hg, (T38 i).1, (T38 i).2, z8.1 (g + 1) (by omega) (by omega), z8.1 (g + 2) (by omega) (by omega)]
        exact (i4 i x y).1
      obtain ⟨H, v1, v2, v3, v4, v5⟩ := c_settle (D := bn G8) f8 h3 (l := nt) (nt := nt) (np := np) ⟨kn.1, by omega⟩ pB.2 kn (Int.le_refl _) oN (fun t x y => ⟨(c1 t x y).2, (c1 t x y).1⟩) (by rw [hg, T381, z8.1 g (by omega) (by omega)]; exact i1) cellsN
      rw [hg] at v1 v3 v4
      have hb2 : H 2 1 = b := by rw [v3 2 (by omega) (by omega)]; exact e82
      have hb10 : H b 10 = nt := by rw [v3 b (by omega) (by omega), ff8 b (by omega) (by omega) (by omega) (by omega) (by omega)]; exact k10
      simp only [gx_1, gx_2, gx_3, gx_4, gx_113, gx_114, gx_115, gx_116, gx_212, gx_213, gx_224, gn_4, gn_114, gn_115, gn_116, gn_213, gn_224, pl_l, pl_b, pl_iT, pl_t, pl_f, e82, pl_ob s0, l1 f8, v1, hb2, hb10]
      rw [pl_w (by omega)]
      have gf : pd_Ly (pd_up H b 10 (nt + 1)) := v2.up (pl_rc4 s0 (by decide))
      have ff9 : ∀ a, a ≠ 2 → a ≠ 3 → a ≠ b → (a < g ∨ g + 3 < a) → pd_up H b 10 (nt + 1) a = F a := fun a x y w q => by rw [pu_a w, v3 a (by omega) (by omega), ff8 a x y (by omega) (by omega) (by omega)]
      have f9b : ∀ j, j ≠ 10 → pd_up H b 10 (nt + 1) b j = F b j := fun j y => by rw [pu_r, if_neg y, v3 b (by omega) (by omega), ff8 b (by omega) (by omega) (by omega) (by omega) (by omega)]
      have f9g4 : pd_up H b 10 (nt + 1) g 4 = w8' := by rw [pu_a (by omega), v4 4 (by decide) (by decide) (by decide), f8g 4 (by decide)]; exact p4
      obtain ⟨e1, e2⟩ := lists_cg pB.2 kT (fun a x y => ⟨(kA a x y).1, (kA a x y).2.1⟩) (F' := pd_up H b 10 (nt + 1)) L1 L2 (fun l a y x0 x1 => by unfold Ls at y; exact ff9 a (by omega) (by omega) (by omega) (by omega))
      have kN' : kG (bn G8) (pd_up H b 10 (nt + 1)) b nt := v5.fr (fun a x y => pu_a (by omega)) rfl rfl rfl
      have hKl : Kl b (pd_up H b 10 (nt + 1)) (bn G8) := by
        refine ⟨⟨by rw [B370, pu_r, if_pos rfl], by rw [B370]; omega⟩, ⟨by rw [f9b 11 (by decide), Rb 371 (by decide), hna]; exact k11, by rw [Rb 371 (by decide), hna]; exact kna⟩, fun t x y => ?_, fun a x y => ?_⟩
        · rw [B370] at y
          rw [Rb 369 (by decide), hnp]
          by_cases e : t = nt
          · rw [e]; exact ⟨kN', oN⟩
          · exact e1 t x (by omega)
        · rw [Rb 371 (by decide), hna] at y
          rw [Rb 369 (by decide), hnp, B370, Rb 380 (by decide), ff9 (b + 4) (by omega) (by omega) (by omega) (by omega)]
          obtain ⟨o1, o2⟩ := e2 a x y
          exact ⟨o1, lOk_mono o2 (Int.le_refl _) (by omega), (kA a x y).2.2⟩
      have hM : jM b (pd_up H b 10 (nt + 1)) (bn G8) := by
        obtain ⟨⟨m1, m2, m3⟩, ⟨l1, l2, l3⟩, m4, m5, m6, m7, m8⟩ := kM
        unfold jM
        rw [f9b 9 (by decide), f9b 11 (by decide), B370, Rb 369 (by decide), Rb 371 (by decide), Rb 374 (by decide), Rb 379 (by decide)]
        refine ⟨⟨m1, by rw [pu_r, if_pos rfl], m3⟩, ⟨l1, by omega, l3⟩, fun p y z => ?_, fun p y z => ?_, fun p y z => ?_, m7, fun a p q0 q1 y z => ?_⟩
        · rw [hnp] at z; rw [ff9 _ (by omega) (by omega) (by omega) (by omega)]; exact m4 p y (by rw [hnp]; exact z)
        · by_cases e : p = nt
          · subst e
            refine ⟨F1 3 6 - 97, ?_⟩
            rw [hg, f9g4, bn_378, R378, if_pos rfl]
            exact hnm
          · rw [ff9 _ (by omega) (by omega) (by omega) (by omega), bn_378, R378, if_neg (by omega), ← bn_378 (G := G)]
            exact m5 p y (by rw [hnt]; omega)
        · rw [hna] at z; rw [ff9 _ (by omega) (by omega) (by omega) (by omega)]; exact m6 p y (by rw [hna]; exact z)
        · rw [bn_378, R378]
          by_cases e : p = nt
          · rw [if_pos (by omega)]
            have := u3 a q0 (by rw [bn_row (y1.1 371 (by decide))]; exact q1)
            rw [bn_row (y1.1 379 (by decide))] at this
            exact this
          · rw [if_neg (by omega), ← bn_378 (G := G)]
            exact m8 a p q0 q1 y (by rw [hnt]; omega)
      have wc9 : wC b F (pd_up H b 10 (nt + 1)) := ((w5c.tr z8.w).tr ⟨fun a y z w => v3 a (by omega) (by omega), fun j y => by rw [v3 2 (by omega) (by omega)], fun j y => by rw [v3 3 (by omega) (by omega)]⟩).up b5.1 (by omega)
      refine ⟨_, G8, 1, rfl, rfl, wc9, w7g.z y8, Or.inl ⟨rfl, J9.c gf (fun a y => by rw [pu_a (by omega), v3 a (by omega) (by omega)]), ⟨kP.fr (f9b 9 (by decide)) (f9b 14 (by decide)) (fun a y z => ff9 a (by omega) (by omega) (by omega) (by omega)) (by rw [Rb 369 (by decide)]) (Rb 374 (by decide)) (Rb 375 (by decide)) (Rb 376 (by decide)) (Rb 377 (by decide)),
        hKl, kH.fr (f9b 12 (by decide)) (fun a y z => ff9 a (by omega) (by omega) (by omega) (by omega)) (by rw [Rb 371 (by decide)]; exact Int.le_refl _) (by rw [Rb 372 (by decide)]) (Rb 384 (by decide)) (Rb 385 (by decide)) (Rb 386 (by decide)) (Rb 387 (by decide)),
        kO.fr (f9b 13 (by decide)) (fun a y z => ff9 a (by omega) (by omega) (by omega) (by omega)) (by rw [Rb 369 (by decide)]; exact Int.le_refl _) (by rw [Rb 373 (by decide)]) (Rb 388 (by decide)) (Rb 389 (by decide)) (Rb 390 (by decide)),
        kS.fr (ff9 _ (by omega) (by omega) (by omega) (by omega)) (Rb 391 (by decide)) (Rb 392 (by decide)), hM⟩, ?_⟩⟩
      unfold kN
      rw [B370, Rb 369 (by decide), Rb 371 (by decide), Rb 372 (by decide), Rb 373 (by decide), Rb 392 (by decide), hnt]
      omega
    · rw [if_pos (show (0 : Int) = 0 from rfl), if_neg (show ¬ (0 : Int) ≠ 0 by decide)]
      simp only [pl_l, pl_b, pl_iT, pl_t, pl_f]
      rw [pl_i (by decide), rL_0]
      exact jL.x w5c w5g d5
    · rw [if_neg (show ¬ (1 : Int) = 0 by decide), if_neg (show ¬ (0 : Int) ≠ 0 by decide)]
      obtain ⟨F', G', e1, e2, e3, e4, e5⟩ := j_fail J0 (k := 1) (by decide)
      have eG : G' = G5 := by
        rw [d5] at e2
        exact (Prod.mk.inj (Option.some.inj e2)).2.symm
      subst eG
      have eE : pfX6_passEnd pd_SH 5000 F5 2 = some (0, F') := by
        have f5 := J0.1
        unfold pfX6_passEnd
        simp only [pl_l, pl_b, pl_iT, pl_t, pl_f, gx_1, gx_2, gx_3, gx_4, gx_113, gx_114, gx_115, gx_116, gx_212, gx_213, gx_224, gn_4, gn_114, gn_115, gn_116, gn_213, gn_224, lx_1_0 f5, lx_1_1 f5, lx_1_2 f5, lx_1_3 f5, lx_1_4 f5, lx_1_5 f5, lx_1_6 f5, lx_1_7 f5, lx_2_0 f5, lx_3_0 f5, lx_113_0 f5, lx_113_1 f5, lx_113_2 f5, lx_212_0 f5, lx_212_1 f5]
        rw [if_neg (by omega), e1]
        simp only [pl_l, pl_b, pl_iT, pl_t, pl_f]
        rw [pl_i (by decide)]
      simp only [pl_l, pl_b, pl_iT, pl_t, pl_f, eE]
      rw [if_neg (show ¬ (0 : Int) ≠ 0 by decide), pl_i (by decide), rL_0]
      exact jL.x (w5c.tr e4.w) w5g e3
  · rw [if_neg (by rw [k10]; exact cc)]
    refine j_full h (fun F' e => ?_) (fun G' e => ?_)
    · simp only [pl_l, pl_b, pl_iT, pl_t, pl_f, e]
      rw [pl_i (by decide)]
    · rw [n0 (by omega) G' e, rL_0]
end TL

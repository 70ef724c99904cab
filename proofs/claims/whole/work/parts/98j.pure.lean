/-! a person told -/
section PL
variable {b : Int} {F G : pd_F}
theorem kX_kM {D F : pd_F} {b : Int} (hn : 0 ≤ D 369 0) (h : kX F b (fun q m => (0 ≤ q ∧ q < D 369 0) ∧ Hk (D 375) (D 376) q m)) : kM D F b := by
  obtain ⟨h1, h2, h3, h4, h5⟩ := h
  refine ⟨h1, h2, fun i a c => ?_, fun m hm => ?_, fun i a c => ?_⟩
  · obtain ⟨q, hq⟩ := h3 i a c
    exact ⟨q, hq.1.1, hq.1.2, hq.2⟩
  · obtain ⟨q, q0, q1, q2⟩ := hm
    exact h4 q m ⟨⟨q0, q1⟩, q2⟩
  · exact bR_c (h5 i a c) fun q c0 _ => ⟨fun z => ⟨z.1.2, z.2⟩, fun z => ⟨⟨c0, z.1⟩, z.2⟩⟩
theorem kM_kX {D F : pd_F} {b : Int} (h : kM D F b) : kX F b (fun q m => (0 ≤ q ∧ q < D 369 0) ∧ Hk (D 375) (D 376) q m) := by
  obtain ⟨h1, h2, h3, h4, h5⟩ := h
  refine ⟨h1, h2, fun i a c => ?_, fun q m hq => h4 m ⟨q, hq.1.1, hq.1.2, hq.2⟩, fun i a c => ?_⟩
  · obtain ⟨q, q0, q1, q2⟩ := h3 i a c
    exact ⟨q, ⟨q0, q1⟩, q2⟩
  · exact bR_c (h5 i a c) fun q c0 _ => ⟨fun z => ⟨⟨c0, z.1⟩, z.2⟩, fun z => ⟨z.1.2, z.2⟩⟩
/-- from the marks' end on -/
theorem j_insider (h : J b F G) {c x : Int} (hc : pd_sh pd_SH c = some (4, 5, 5)) (c5 : 5 ≤ c) (hx : 12 ≤ x ∧ x < 24) (g0 : G 377 x = 0) {Rc : pd_F → Option (Int × pd_F)} : ∃ F' G' t, (t = 0 ∨ t = 1) ∧ J b F' G' ∧ F' c 4 = t ∧ G' 377 x = t ∧
    ((∀ a, a ≠ 2 → a ≠ 3 → a ≠ c → F' a = F a) ∧ (∀ j, j ≠ 4 → F' c j = F c j) ∧ (∀ j, j ≠ 2 → F' 2 j = F 2 j) ∧ ∀ j, (j < 3 ∨ 8 < j) → F' 3 j = F 3 j) ∧
    ((∀ a, a ≠ 367 → a ≠ 377 → G' a = G a) ∧ (∀ j, (j < 4 ∨ 11 < j) → j ≠ 38 → G' 367 j = G 367 j) ∧ ∀ j, j ≠ x → G' 377 j = G 377 j) ∧
    (Option.bind (pfX6_at pd_SH 5000 F 2 29676314523100530) fun qr22 => pd_l qr22.1 fun r22 => pd_l qr22.2 fun F21 => pd_i (r22 = 0 ∨ r22 = 1) <| pd_l (pd_up F21 c 4 r22) fun F24 => if (F24 c 4) = 0 then Rc F24 else pd_i (pd_ob pd_SH 9 (F24 2 0) = true) <| Option.bind (pfX9_advance pd_SH 5000 F24 (F24 2 0)) fun F25 => Rc F25) = Rc F' ∧
    pfX12_personLine_b165 pd_SH 5000 G 367 x = pfX12_personLine_b185 pd_SH 5000 G' 367 := by
  obtain ⟨h1, h2, h3, h5, h6, h7, h8, h9⟩ := id h
  unfold pfX12_personLine_b165
  simp only [pl_l, pl_b, pl_iT, pl_t, pl_f, gx_367, gx_368, gx_369, gx_370, gx_371, gx_372, gx_373, gx_374, gx_375, gx_376, gx_377, gx_378, gx_379, gx_380, gx_381, gx_382, gx_383, gx_384, gx_385, gx_386, gx_387, gx_388, gx_389, gx_390, gx_391, gx_392, gx_393, gx_394, gx_395, gx_396, gx_397, gx_398, gx_399, gx_400, gx_401, gx_402, gx_403, gn_368, gn_369, gn_370, gn_371, gn_372, gn_373, gn_374, gn_375, gn_376, gn_377, gn_378, gn_379, gn_380, gn_381, gn_382, gn_383, gn_384, gn_385, gn_386, gn_387, gn_388, gn_389, gn_390, gn_391, gn_392, gn_393, gn_394, gn_395, gn_396, gn_397, gn_398, gn_399, gn_400, gn_401, gn_402, gn_403, h.at nm_insider, is_insider]
  by_cases k : jW G 10153660594
  · rw [ci_t k]
    have k4 : F 3 4 = 1 := by rw [h7.1]; exact k.1
    have f1 : pd_Ly (pd_up F c 4 1) := h1.up (pl_rc4 hc (by decide))
    have r1 : pd_up F c 4 1 c 4 = 1 := by rw [pu_r, if_pos rfl]
    have J1 := (h.c f1 (fun a x => pu_a (by omega))).row (a := 377) (j := x) (v := 1) (by decide)
    obtain ⟨F', G', a1, a2, a3, a4, a5, -⟩ := J1.adv (by rw [pu_a (by omega)]; omega)
    refine ⟨F', G', 1, Or.inr rfl, a3, by rw [a4.1 c (by omega) (by omega)]; exact r1, by rw [a5.1 377 (by decide), pu_r, if_pos rfl], ⟨fun a x y z => by rw [a4.1 a x y, pu_a z], fun j x => by rw [a4.1 c (by omega) (by omega), pu_r, if_neg x], fun j x => by rw [a4.2.1 j x, pu_a (by omega)], fun j x => by rw [a4.2.2 j x, pu_a (by omega)]⟩,
      ⟨fun a x y => by rw [a5.1 a x, pu_a y], fun j x y => by rw [a5.2 j x y, pu_a (by decide)], fun j y => by rw [a5.1 377 (by decide), pu_r, if_neg y]⟩, ?_, ?_⟩
    · rw [pl_i (by decide), r1, if_neg (by decide)]
      simp only [lx_1_0 f1, lx_1_1 f1, lx_1_2 f1, lx_1_3 f1, lx_1_4 f1, lx_1_5 f1, lx_1_6 f1, lx_1_7 f1, lx_2_0 f1, lx_3_0 f1, lx_113_0 f1, lx_113_1 f1, lx_113_2 f1, lx_212_0 f1, lx_212_1 f1, gx_1, gx_2, gx_3, gx_4, gx_113, gx_114, gx_115, gx_116, gx_212, gx_213, gx_224, gn_4, gn_114, gn_115, gn_116, gn_213, gn_224, pl_l, pl_b, pl_iT, pl_t, pl_f, a1]
    · rw [if_neg (by decide)]
      simp only [pl_l, pl_b, pl_iT, pl_t, pl_f, gx_367, gx_368, gx_369, gx_370, gx_371, gx_372, gx_373, gx_374, gx_375, gx_376, gx_377, gx_378, gx_379, gx_380, gx_381, gx_382, gx_383, gx_384, gx_385, gx_386, gx_387, gx_388, gx_389, gx_390, gx_391, gx_392, gx_393, gx_394, gx_395, gx_396, gx_397, gx_398, gx_399, gx_400, gx_401, gx_402, gx_403, gn_368, gn_369, gn_370, gn_371, gn_372, gn_373, gn_374, gn_375, gn_376, gn_377, gn_378, gn_379, gn_380, gn_381, gn_382, gn_383, gn_384, gn_385, gn_386, gn_387, gn_388, gn_389, gn_390, gn_391, gn_392, gn_393, gn_394, gn_395, gn_396, gn_397, gn_398, gn_399, gn_400, gn_401, gn_402, gn_403, lm_1 h2, lm_14 h2, lm_15 h2, lm_16 h2, lm_17 h2, lm_18 h2, lm_19 h2, lm_20 h2, lm_21 h2, lm_22 h2, lm_23 h2, lm_24 h2, lm_25 h2, lm_26 h2, lm_27 h2, lm_28 h2, lm_29 h2, lm_30 h2, lm_31 h2, lm_32 h2, lm_33 h2, lm_34 h2, lm_35 h2, lm_36 h2, lm_37 h2, lm_39 h2, lm_40 h2, lm_42 h2, lm_43 h2, lm_44 h2, lm_45 h2, lm_47 h2, lm_48 h2, lm_49 h2, lm_50 h2, lm_51 h2]
      rw [pl_i (by omega), a2]
      simp only [pl_l, pl_b, pl_iT, pl_t, pl_f]
  · rw [ci_f k]
    have f1 : pd_Ly (pd_up F c 4 0) := h1.up (pl_rc4 hc (by decide))
    have r1 : pd_up F c 4 0 c 4 = 0 := by rw [pu_r, if_pos rfl]
    refine ⟨pd_up F c 4 0, G, 0, Or.inl rfl, h.c f1 (fun a x => pu_a (by omega)), r1, g0, ⟨fun a x y z => pu_a z, fun j x => by rw [pu_r, if_neg x], fun j x => by rw [pu_a (by omega)], fun j x => by rw [pu_a (by omega)]⟩, ⟨fun _ _ _ => rfl, fun _ _ _ => rfl, fun _ _ => rfl⟩, ?_, ?_⟩
    · rw [pl_i (by decide), r1, if_pos rfl]
    · rw [if_pos rfl]
theorem j_person (h : J b F G) (hK : K b F (bn G)) (h4 : F 3 4 = 1) : jL b F G (pfX6_readPerson pd_SH 5000 F 2) (rL (pfX12_named pd_SH 5000 G 367 0)) := by
  obtain ⟨h1, h2, h3, h5, -⟩ := id h
  have b5 := aB_5 h3
  obtain ⟨s0, s1, -⟩ := sh_b h3
  obtain ⟨k9, kn, kps, kkm, k14⟩ := hK.1
  obtain ⟨n0, n1⟩ := r_named0 h
  have l0 : F b 0 = b + 1 := (ly_b h1 h3).1
  unfold pfX6_readPerson
  simp only [pl_l, pl_b, pl_iT, pl_t, pl_f, gx_1, gx_2, gx_3, gx_4, gx_113, gx_114, gx_115, gx_116, gx_212, gx_213, gx_224, gn_4, gn_114, gn_115, gn_116, gn_213, gn_224, lx_1_0 h1, lx_1_1 h1, lx_1_2 h1, lx_1_3 h1, lx_1_4 h1, lx_1_5 h1, lx_1_6 h1, lx_1_7 h1, lx_2_0 h1, lx_3_0 h1, lx_113_0 h1, lx_113_1 h1, lx_113_2 h1, lx_212_0 h1, lx_212_1 h1, h5, pl_ob s0, l0]
  by_cases cc : bn G 369 0 < 12
  · rw [if_pos (by rw [k9]; exact cc), n1 cc]
    have hNr : bn G 369 0 = G 369 1 := bn_369
    obtain ⟨np, hnp⟩ : ∃ np, bn G 369 0 = np := ⟨_, rfl⟩
    rw [hnp] at cc k9 kn kps k14
    obtain ⟨c, hc⟩ : ∃ c, b + 10 + 2 * np = c := ⟨_, rfl⟩
    obtain ⟨x, hx⟩ : ∃ x, 12 + np = x := ⟨_, rfl⟩
    have lc : F (b + 1) np = c := by rw [← hc]; exact (fy_p h1 h3 kn.1 cc).1
    have sc : pd_sh pd_SH c = some (4, 5, 5) := by rw [← hc]; exact (fy_p h1 h3 kn.1 cc).2.2.1
    have sc1 : pd_sh pd_SH (c + 1) = some (0, 0, 3) := by rw [← hc]; exact (fy_p h1 h3 kn.1 cc).2.2.2
    have hcl : ∀ H : pd_F, pd_Ly H → H c 0 = c + 1 := fun H hH => by rw [← hc]; exact (fy_p hH h3 kn.1 cc).2.1
    obtain ⟨F1, G1, a1, a2, J1, z1, y1, -⟩ := h.adv (by omega)
    have M1 := hK.2.2.2.2.2.z b5.1 z1 y1
    simp only [pl_l, pl_b, pl_iT, pl_t, pl_f, k9, pl_ib s1, lc, a1, a2]
    rw [pl_i (by omega), pl_i (by omega)]
    rcases j_newName J1 M1 with ⟨F2, G2, t1, t2, t3, t4, t5⟩ | ⟨t1, k4, ⟨u1, u2, u3⟩, t2⟩
    · unfold pfX12_personLine
      simp only [pl_l, pl_b, pl_iT, pl_t, pl_f, gx_367, gx_368, gx_369, gx_370, gx_371, gx_372, gx_373, gx_374, gx_375, gx_376, gx_377, gx_378, gx_379, gx_380, gx_381, gx_382, gx_383, gx_384, gx_385, gx_386, gx_387, gx_388, gx_389, gx_390, gx_391, gx_392, gx_393, gx_394, gx_395, gx_396, gx_397, gx_398, gx_399, gx_400, gx_401, gx_402, gx_403, gn_368, gn_369, gn_370, gn_371, gn_372, gn_373, gn_374, gn_375, gn_376, gn_377, gn_378, gn_379, gn_380, gn_381, gn_382, gn_383, gn_384, gn_385, gn_386, gn_387, gn_388, gn_389, gn_390, gn_391, gn_392, gn_393, gn_394, gn_395, gn_396, gn_397, gn_398, gn_399, gn_400, gn_401, gn_402, gn_403, t1, t2]
      rw [if_neg (show ¬ (0 : Int) ≠ 0 by decide), if_neg (show ¬ (0 : Int) ≠ 0 by decide)]
      simp only [pl_l, pl_b, pl_iT, pl_t, pl_f]
      rw [pl_i (by decide), rL_0]
      exact jL.x (z1.tr t3).w (((wR.rf G).z y1).z t4) t5
    have f1 := J1.1
    obtain ⟨w8', w5', hw8, hw5⟩ : ∃ w8' w5', F1 3 8 = w8' ∧ G1 367 8 = w5' := ⟨_, _, rfl, rfl⟩
    have hnm := J1.2.2.2.2.2.1.2.2.2.2.2 k4
    rw [hw8, hw5] at hnm
    obtain ⟨fl, hfl⟩ : ∃ fl, F1 3 6 - 97 = fl := ⟨_, rfl⟩
    rw [hfl] at hnm
    have flb : 0 ≤ fl ∧ fl ≤ 25 := by
      obtain ⟨cs, n, hn, hcs, -, -, e⟩ := hnm
      have := hcs 0 (by omega)
      omega
    rw [hw5] at t2 u1 u2 u3
    -- the person begun
    obtain ⟨P, hP⟩ : ∃ P, pd_up (pd_up (pd_up F1 c 2 w8') c 3 fl) c 1 0 = P := ⟨_, rfl⟩
    have fP : pd_Ly P := by rw [← hP]; exact ((f1.up (pl_rc4 sc (by decide))).up (pl_rc4 sc (by decide))).up (pl_rc4 sc (by decide))
    have p1 : P c 1 = 0 := by rw [← hP, pu_r, if_pos rfl]
    have p2 : P c 2 = w8' := by rw [← hP, pu_r, if_neg (by decide), pu_r, if_neg (by decide), pu_r, if_pos rfl]
    have p3 : P c 3 = fl := by rw [← hP, pu_r, if_neg (by decide), pu_r, if_pos rfl]
    have pa : ∀ a, a ≠ c → P a = F1 a := fun a y => by rw [← hP, pu_a y, pu_a y, pu_a y]
    have eB : pfX5_begin pd_SH 5000 F1 c w8' (pd_w fl) = some P := by
      unfold pfX5_begin
      simp only [pl_l, pl_b, pl_iT, pl_t, pl_f, pl_ob sc]
      rw [pl_w (by omega), hP]
    have J2 := (J1.up (j := 38) (v := w5') (by decide)).c fP (fun a y => pa a (by omega))
    obtain ⟨F3, G3, b1, b2, J3, z3, y3, -, q38⟩ := J2.adv (by rw [pa 3 (by omega)]; omega)
    have g3 := J3.2.1
    have q38' : G3 367 38 = w5' := by rw [q38, pu_r, if_pos rfl]
    have q13 : G3 367 13 = 1 := J3.2.2.2.2.2.2.2
    have gy : ∀ a, a ≠ 367 → G3 a = G a := fun a y => by rw [y3.1 a y, pu_a y, y1.1 a y]
    have q369 : G3 369 1 = np := by rw [gy 369 (by decide), ← hNr]; exact hnp
    -- the reference's row begun
    obtain ⟨Q, hQ⟩ : ∃ Q, pd_up (pd_up (pd_up G3 374 x w5') 375 x 0) 377 x 0 = Q := ⟨_, rfl⟩
    have gq1 : pd_Ly (pd_up G3 374 x w5') := g3.up (rc_row (by decide))
    have gq2 : pd_Ly (pd_up (pd_up G3 374 x w5') 375 x 0) := gq1.up (rc_row (by decide))
    have JQ : J b F3 Q := by rw [← hQ]; exact ((J3.row (by decide)).row (by decide)).row (by decide)
    have eP : pfX12_personLine pd_SH 5000 G1 367 = pfX12_personLine_b51 pd_SH 5000 5000 Q 367 x := by
      unfold pfX12_personLine
      simp only [pl_l, pl_b, pl_iT, pl_t, pl_f, gx_367, gx_368, gx_369, gx_370, gx_371, gx_372, gx_373, gx_374, gx_375, gx_376, gx_377, gx_378, gx_379, gx_380, gx_381, gx_382, gx_383, gx_384, gx_385, gx_386, gx_387, gx_388, gx_389, gx_390, gx_391, gx_392, gx_393, gx_394, gx_395, gx_396, gx_397, gx_398, gx_399, gx_400, gx_401, gx_402, gx_403, gn_368, gn_369, gn_370, gn_371, gn_372, gn_373, gn_374, gn_375, gn_376, gn_377, gn_378, gn_379, gn_380, gn_381, gn_382, gn_383, gn_384, gn_385, gn_386, gn_387, gn_388, gn_389, gn_390, gn_391, gn_392, gn_393, gn_394, gn_395, gn_396, gn_397, gn_398, gn_399, gn_400, gn_401, gn_402, gn_403, t2, b2]
      rw [if_pos (show (1 : Int) ≠ 0 by decide)]
      simp only [lm_1 g3, lm_14 g3, lm_15 g3, lm_16 g3, lm_17 g3, lm_18 g3, lm_19 g3, lm_20 g3, lm_21 g3, lm_22 g3, lm_23 g3, lm_24 g3, lm_25 g3, lm_26 g3, lm_27 g3, lm_28 g3, lm_29 g3, lm_30 g3, lm_31 g3, lm_32 g3, lm_33 g3, lm_34 g3, lm_35 g3, lm_36 g3, lm_37 g3, lm_39 g3, lm_40 g3, lm_42 g3, lm_43 g3, lm_44 g3, lm_45 g3, lm_47 g3, lm_48 g3, lm_49 g3, lm_50 g3, lm_51 g3, gx_367, gx_368, gx_369, gx_370, gx_371, gx_372, gx_373, gx_374, gx_375, gx_376, gx_377, gx_378, gx_379, gx_380, gx_381, gx_382, gx_383, gx_384, gx_385, gx_386, gx_387, gx_388, gx_389, gx_390, gx_391, gx_392, gx_393, gx_394, gx_395, gx_396, gx_397, gx_398, gx_399, gx_400, gx_401, gx_402, gx_403, gn_368, gn_369, gn_370, gn_371, gn_372, gn_373, gn_374, gn_375, gn_376, gn_377, gn_378, gn_379, gn_380, gn_381, gn_382, gn_383, gn_384, gn_385, gn_386, gn_387, gn_388, gn_389, gn_390, gn_391, gn_392, gn_393, gn_394, gn_395, gn_396, gn_397, gn_398, gn_399, gn_400, gn_401, gn_402, gn_403, q13, q369, pl_l, pl_b, pl_iT, pl_t, pl_f, q38', Int.mul_one]
      rw [pl_i (by omega), pl_w (x := 12) (by decide), pl_w (x := 12 + np) (by omega), hx, pl_i (by omega)]
      simp only [lm_1 gq1, lm_14 gq1, lm_15 gq1, lm_16 gq1, lm_17 gq1, lm_18 gq1, lm_19 gq1, lm_20 gq1, lm_21 gq1, lm_22 gq1, lm_23 gq1, lm_24 gq1, lm_25 gq1, lm_26 gq1, lm_27 gq1, lm_28 gq1, lm_29 gq1, lm_30 gq1, lm_31 gq1, lm_32 gq1, lm_33 gq1, lm_34 gq1, lm_35 gq1, lm_36 gq1, lm_37 gq1, lm_39 gq1, lm_40 gq1, lm_42 gq1, lm_43 gq1, lm_44 gq1, lm_45 gq1, lm_47 gq1, lm_48 gq1, lm_49 gq1, lm_50 gq1, lm_51 gq1, gx_367, gx_368, gx_369, gx_370, gx_371, gx_372, gx_373, gx_374, gx_375, gx_376, gx_377, gx_378, gx_379, gx_380, gx_381, gx_382, gx_383, gx_384, gx_385, gx_386, gx_387, gx_388, gx_389, gx_390, gx_391, gx_392, gx_393, gx_394, gx_395, gx_396, gx_397, gx_398, gx_399, gx_400, gx_401, gx_402, gx_403, gn_368, gn_369, gn_370, gn_371, gn_372, gn_373, gn_374, gn_375, gn_376, gn_377, gn_378, gn_379, gn_380, gn_381, gn_382, gn_383, gn_384, gn_385, gn_386, gn_387, gn_388, gn_389, gn_390, gn_391, gn_392, gn_393, gn_394, gn_395, gn_396, gn_397, gn_398, gn_399, gn_400, gn_401, gn_402, gn_403]
      rw [pl_i (by omega)]
      simp only [lm_1 gq2, lm_14 gq2, lm_15 gq2, lm_16 gq2, lm_17 gq2, lm_18 gq2, lm_19 gq2, lm_20 gq2, lm_21 gq2, lm_22 gq2, lm_23 gq2, lm_24 gq2, lm_25 gq2, lm_26 gq2, lm_27 gq2, lm_28 gq2, lm_29 gq2, lm_30 gq2, lm_31 gq2, lm_32 gq2, lm_33 gq2, lm_34 gq2, lm_35 gq2, lm_36 gq2, lm_37 gq2, lm_39 gq2, lm_40 gq2, lm_42 gq2, lm_43 gq2, lm_44 gq2, lm_45 gq2, lm_47 gq2, lm_48 gq2, lm_49 gq2, lm_50 gq2, lm_51 gq2, gx_367, gx_368, gx_369, gx_370, gx_371, gx_372, gx_373, gx_374, gx_375, gx_376, gx_377, gx_378, gx_379, gx_380, gx_381, gx_382, gx_383, gx_384, gx_385, gx_386, gx_387, gx_388, gx_389, gx_390, gx_391, gx_392, gx_393, gx_394, gx_395, gx_396, gx_397, gx_398, gx_399, gx_400, gx_401, gx_402, gx_403, gn_368, gn_369, gn_370, gn_371, gn_372, gn_373, gn_374, gn_375, gn_376, gn_377, gn_378, gn_379, gn_380, gn_381, gn_382, gn_383, gn_384, gn_385, gn_386, gn_387, gn_388, gn_389, gn_390, gn_391, gn_392, gn_393, gn_394, gn_395, gn_396, gn_397, gn_398, gn_399, gn_400, gn_401, gn_402, gn_403]
      rw [pl_i (by omega), hQ]
    have Q375 : Q 375 x = 0 := by rw [← hQ, pu_a (by decide), pu_r, if_pos rfl]
    have fc1 : F3 c 1 = 0 := by rw [z3.1 c (by omega) (by omega)]; exact p1
    obtain ⟨F5, G5, v, d1, d2, d3, hv⟩ := j_marks sc sc1 hcl (by omega) (by omega) 5000 3 5000 F3 Q 0 (by decide) (by decide) (by decide) JQ fc1 Q375 (Int.le_refl _) (fun i u w => by omega)
    have eM : pfX6_readMarks pd_SH 5000 F3 2 c = some (v, F5) := d1
    have q2 := f1
    have Xf1 : F1 2 0 = 3 := lx_2_0 f1
    have XP : P 2 0 = 3 := lx_2_0 fP
    simp only [pl_l, pl_b, pl_iT, pl_t, pl_f, gx_1, gx_2, gx_3, gx_4, gx_113, gx_114, gx_115, gx_116, gx_212, gx_213, gx_224, gn_4, gn_114, gn_115, gn_116, gn_213, gn_224, t1, Xf1, XP, hw8, hfl, pl_ob sc, eB, b1, eM, eP]
    rw [if_pos (show (1 : Int) ≠ 0 by decide)]
    -- frames so far
    have wq : wR G Q := by
      rw [← hQ]
      exact (((((wR.rf G).z y1).z ((zR.up (j := 38) (by decide)).tr y3)).up (by decide) (by rw [show bs 374 = 12 by decide]; omega)).up (by decide) (by rw [show bs 375 = 12 by decide]; omega)).up (by decide) (by rw [show bs 377 = 12 by decide]; omega)
    have w5g : wR G G5 := wq.tr ⟨fun a y z => d3.1 a y (by omega) (by omega), d3.2.1, fun a j y z w => by
      by_cases e5 : a = 375
      · subst e5; rw [show bs 375 = 12 by decide] at w; exact d3.2.2.1 j (by omega)
      by_cases e6 : a = 376
      · subst e6; rw [show bs 376 = 36 by decide] at w; exact d3.2.2.2 j (by omega)
      · rw [d3.1 a (by omega) e5 e6], fun k q => by rw [d3.1 377 (by decide) (by decide) (by decide)]; exact q⟩
    have wP : wC b F P := by
      rw [← hP]
      exact ((z1.w.up b5.1 (by omega)).up b5.1 (by omega)).up b5.1 (by omega)
    have w5c : wC b F F5 := (wP.tr z3.w).tr ⟨fun a y z w => d2.1 a y z (by omega) (by omega), d2.2.2.1, d2.2.2.2⟩
    rcases hv.symm with ⟨rfl, d4, d5⟩ | ⟨rfl, J5, d4, d5, d6, d7⟩
    · rw [if_neg (show ¬ (0 : Int) ≠ 0 by decide), d4]
      simp only [pl_l, pl_b, pl_iT, pl_t, pl_f]
      rw [pl_i (by decide), rL_0]
      exact jL.x w5c w5g d5
    rw [if_pos (show (1 : Int) ≠ 0 by decide), d4]
    have Q377 : G5 377 x = 0 := by rw [d3.1 377 (by decide) (by decide) (by decide), ← hQ, pu_r, if_pos rfl]
    obtain ⟨F7, G7, t, ht, J7, i1, i2, ⟨i3, i4, i5, i6⟩, ⟨i7, i8, i9⟩, i10, i11⟩ := j_insider J5 sc (by omega) (show 12 ≤ x ∧ x < 24 by omega) Q377 (Rc := fun F' => pfX6_readPerson_b113 pd_SH 5000 F' 2)
    have i10' := i10
    simp only [pl_l, pl_b, pl_iT, pl_t, pl_f] at i10'
    rw [i10', i11]
    have w7c : wC b F F7 := w5c.tr ⟨fun a y z w => i3 a y z (by omega), i5, i6⟩
    have w7g : wR G G7 := w5g.tr ⟨fun a y z => i7 a y (by omega), i8, fun a j y z w => by
      by_cases e7 : a = 377
      · subst e7; rw [show bs 377 = 12 by decide] at w; exact i9 j (by omega)
      · rw [i7 a (by omega) e7], fun k q => by
      by_cases e : k = x
      · rw [e, i2]; exact ht
      · rw [i9 k e]; exact q⟩
    have g7 := J7.2.1
    have q713 : G7 367 13 = 1 := J7.2.2.2.2.2.2.2
    have q7369 : G7 369 1 = np := by rw [i7 369 (by decide) (by decide), d3.1 369 (by decide) (by decide) (by decide), ← hQ, pu_a (by decide), pu_a (by decide), pu_a (by decide)]; exact q369
    unfold pfX12_personLine_b185 pfX6_readPerson_b113
    simp only [pl_l, pl_b, pl_iT, pl_t, pl_f, gx_367, gx_368, gx_369, gx_370, gx_371, gx_372, gx_373, gx_374, gx_375, gx_376, gx_377, gx_378, gx_379, gx_380, gx_381, gx_382, gx_383, gx_384, gx_385, gx_386, gx_387, gx_388, gx_389, gx_390, gx_391, gx_392, gx_393, gx_394, gx_395, gx_396, gx_397, gx_398, gx_399, gx_400, gx_401, gx_402, gx_403, gn_368, gn_369, gn_370, gn_371, gn_372, gn_373, gn_374, gn_375, gn_376, gn_377, gn_378, gn_379, gn_380, gn_381, gn_382, gn_383, gn_384, gn_385, gn_386, gn_387, gn_388, gn_389, gn_390, gn_391, gn_392, gn_393, gn_394, gn_395, gn_396, gn_397, gn_398, gn_399, gn_400, gn_401, gn_402, gn_403, lm_1 g7, lm_14 g7, lm_15 g7, lm_16 g7, lm_17 g7, lm_18 g7, lm_19 g7, lm_20 g7, lm_21 g7, lm_22 g7, lm_23 g7, lm_24 g7, lm_25 g7, lm_26 g7, lm_27 g7, lm_28 g7, lm_29 g7, lm_30 g7, lm_31 g7, lm_32 g7, lm_33 g7, lm_34 g7, lm_35 g7, lm_36 g7, lm_37 g7, lm_39 g7, lm_40 g7, lm_42 g7, lm_43 g7, lm_44 g7, lm_45 g7, lm_47 g7, lm_48 g7, lm_49 g7, lm_50 g7, lm_51 g7, q713, q7369, gx_1, gx_2, gx_3, gx_4, gx_113, gx_114, gx_115, gx_116, gx_212, gx_213, gx_224, gn_4, gn_114, gn_115, gn_116, gn_213, gn_224]
    rw [pl_i (by decide), pl_w (by omega)]
    simp only [pl_l, pl_b, pl_iT, pl_t, pl_f]
    rw [pl_i (by decide), rL_1]
    have J8 := J7.row (a := 369) (j := 1) (v := np + 1) (by decide)
    have w8g := w7g.up (a := 369) (i := 1) (v := np + 1) (by decide) (by decide)
    obtain ⟨F8, G8, u, m1, m2, z8, y8, he⟩ := j_end J8
    simp only [pl_l, pl_b, pl_iT, pl_t, pl_f, m1, m2]
    rcases he.symm with ⟨rfl, J9⟩ | ⟨rfl, J9⟩
    · rw [if_neg (show ¬ (0 : Int) ≠ 0 by decide)]
      exact jL.x (w7c.tr z8.w) (w8g.z y8) J9
    rw [if_pos (show (1 : Int) ≠ 0 by decide)]
    have f8 := J9.1
    have e82 := J9.2.2.2.1
    -- cells of the class ahead of addPerson
    have ff8 : ∀ a, a ≠ 2 → a ≠ 3 → a ≠ c → a ≠ c + 1 → F8 a = F a := fun a y z w q => by rw [z8.1 a y z, i3 a y z w, d2.1 a y z w q, z3.1 a y z, pa a w, z1.1 a y z]
    have f8c : ∀ j, j ≠ 1 → j ≠ 4 → F8 c j = P c j := fun j y z => by rw [z8.1 c (by omega) (by omega), i4 j z, d2.2.1 j y, z3.1 c (by omega) (by omega)]
    have f8c1 : F8 c 1 = F5 c 1 := by rw [z8.1 c (by omega) (by omega), i4 1 (by decide)]
    have f8c4 : F8 c 4 = t := by rw [z8.1 c (by omega) (by omega)]; exact i1
    have f8r : F8 (c + 1) = F5 (c + 1) := by rw [z8.1 (c + 1) (by omega) (by omega), i3 (c + 1) (by omega) (by omega) (by omega)]
    have f8b : F8 b = F b := ff8 b (by omega) (by omega) (by omega) (by omega)
    have X8 : kX F8 b (fun q m => (0 ≤ q ∧ q < bn G 369 0) ∧ Hk (bn G 375) (bn G 376) q m) := kX_fr (kM_kX kkm) (by rw [f8b]) (ff8 _ (by omega) (by omega) (by omega) (by omega)) (ff8 _ (by omega) (by omega) (by omega) (by omega))
    obtain ⟨F9, n1', n2, n3, n4, n5, n6, n7⟩ := c_addPerson f8 h3 X8 (np := np) (c := c) (by rw [f8b]; exact k9) ⟨kn.1, cc⟩ hc (by rw [f8c1]; exact d6) (by rw [f8b]; exact k14)
    simp only [gx_1, gx_2, gx_3, gx_4, gx_113, gx_114, gx_115, gx_116, gx_212, gx_213, gx_224, gn_4, gn_114, gn_115, gn_116, gn_213, gn_224, pl_l, pl_b, pl_iT, pl_t, pl_f, e82, pl_ob s0, n1']
    -- rows of the reference at the end
    have R374 : ∀ j, G8 374 j = if j = x then w5' else G 374 j := fun j => by
      rw [y8.1 374 (by decide), pu_a (by decide), i7 374 (by decide) (by decide), d3.1 374 (by decide) (by decide) (by decide), ← hQ, pu_a (by decide), pu_a (by decide), pu_r, gy 374 (by decide)]
    have R375 : ∀ j, j ≠ x → G8 375 j = G 375 j := fun j y => by
      rw [y8.1 375 (by decide), pu_a (by decide), i7 375 (by decide) (by decide), d3.2.2.1 j y, ← hQ, pu_a (by decide), pu_r, if_neg y, pu_a (by decide), gy 375 (by decide)]
    have R375x : G8 375 x = F5 c 1 := by rw [y8.1 375 (by decide), pu_a (by decide), i7 375 (by decide) (by decide), d5]
    have R376 : ∀ j, j < 3 * x → G8 376 j = G 376 j := fun j y => by
      rw [y8.1 376 (by decide), pu_a (by decide), i7 376 (by decide) (by decide), d3.2.2.2 j y, ← hQ, pu_a (by decide), pu_a (by decide), pu_a (by decide), gy 376 (by decide)]
    have R376x : ∀ i, 0 ≤ i → i < F5 c 1 → G8 376 (3 * x + i) = F5 (c + 1) i := fun i y z => by rw [y8.1 376 (by decide), pu_a (by decide), i7 376 (by decide) (by decide), d7 i y z]
    have R377 : ∀ j, G8 377 j = if j = x then t else G 377 j := fun j => by
      rw [y8.1 377 (by decide), pu_a (by decide)]
      by_cases e : j = x
      · rw [if_pos e, e]; exact i2
      · rw [if_neg e, i9 j e, d3.1 377 (by decide) (by decide) (by decide), ← hQ, pu_r, if_neg e, pu_a (by decide), pu_a (by decide), gy 377 (by decide)]
    have R369 : G8 369 1 = np + 1 := by rw [y8.1 369 (by decide), pu_r, if_pos rfl]
    have Ro : ∀ a, a ≠ 367 → a ≠ 369 → a ≠ 374 → a ≠ 375 → a ≠ 376 → a ≠ 377 → G8 a = G a := fun a q0 q1 q2 q3 q4 q5 => by
      rw [y8.1 a q0, pu_a q1, i7 a q0 q5, d3.1 a q0 q3 q4, ← hQ, pu_a q5, pu_a q3, pu_a q2, gy a q0]
    have Rb : ∀ a, (370 ≤ a ∧ a ≤ 373) ∨ (378 ≤ a ∧ a ≤ 392) → bn G8 a = bn G a := fun a y => bn_row (Ro a (by omega) (by omega) (by omega) (by omega) (by omega) (by omega))
    have ff9 : ∀ a, a ≠ 2 → a ≠ 3 → a ≠ c → a ≠ c + 1 → a ≠ b → a ≠ b + 8 → a ≠ b + 9 → F9 a = F a := fun a q1 q2 q3 q4 q5 q6 q7 => (n3 a q5 q6 q7).trans (ff8 a q1 q2 q3 q4)
    have f9b : ∀ j, j ≠ 9 → j ≠ 14 → F9 b j = F b j := fun j y z => by rw [n4 j y z, f8b]
    have f9c : F9 c = F8 c := n3 c (by omega) (by omega) (by omega)
    have f9c1 : F9 (c + 1) = F5 (c + 1) := (n3 (c + 1) (by omega) (by omega) (by omega)).trans f8r
    have B369 : bn G8 369 0 = np + 1 := by rw [bn_369]; exact R369
    have hkold : ∀ q m, 0 ≤ q → q < np → (Hk (bn G8 375) (bn G8 376) q m ↔ Hk (bn G 375) (bn G 376) q m) := fun q m q0 q1 => by
      have e5 : bn G8 375 q = bn G 375 q := by rw [bn_375, bn_375, R375 _ (by omega)]
      have bd := (kps q q0 q1).2.1
      unfold Hk
      rw [e5]
      constructor
      · rintro ⟨i, u, v, w⟩
        rw [bn_376, R376 _ (by omega), ← bn_376 (G := G)] at w
        exact ⟨i, u, v, w⟩
      · rintro ⟨i, u, v, w⟩
        refine ⟨i, u, v, ?_⟩
        rw [bn_376, R376 _ (by omega), ← bn_376 (G := G)]
        exact w
    have hknew : ∀ m, (∃ i, 0 ≤ i ∧ i < F8 c 1 ∧ F8 (c + 1) i = m) ↔ Hk (bn G8 375) (bn G8 376) np m := fun m => by
      unfold Hk
      rw [bn_375, hx, R375x, f8c1, f8r]
      constructor
      · rintro ⟨i, u, v, w⟩
        refine ⟨i, u, v, ?_⟩
        rw [bn_376, show 36 + (3 * np + i) = 3 * x + i by omega, R376x i u v]
        exact w
      · rintro ⟨i, u, v, w⟩
        refine ⟨i, u, v, ?_⟩
        rw [bn_376, show 36 + (3 * np + i) = 3 * x + i by omega, R376x i u v] at w
        exact w
    have KM : kM (bn G8) F9 b := by
      refine kX_kM (by rw [B369]; omega) (kX_c n7 fun q m => ?_)
      rw [B369, hnp]
      constructor
      · rintro (⟨z, w⟩ | ⟨z, w⟩)
        · exact ⟨by omega, (hkold q m z.1 z.2).mpr w⟩
        · subst z; exact ⟨by omega, (hknew m).mp w⟩
      · rintro ⟨z, w⟩
        by_cases e : q = np
        · subst e; exact Or.inr ⟨rfl, (hknew m).mpr w⟩
        · exact Or.inl ⟨by omega, (hkold q m z.1 (by omega)).mp w⟩
    have hpc : ∀ p, 0 ≤ p → p < np → F9 (b + 10 + 2 * p) = F (b + 10 + 2 * p) ∧ F9 (b + 10 + 2 * p + 1) = F (b + 10 + 2 * p + 1) := fun p y z => ⟨ff9 _ (by omega) (by omega) (by omega) (by omega) (by omega) (by omega) (by omega), ff9 _ (by omega) (by omega) (by omega) (by omega) (by omega) (by omega) (by omega)⟩
    have r374 : ∀ p, 0 ≤ p → p < np → bn G8 374 p = bn G 374 p := fun p y z => by rw [bn_374, bn_374, R374, if_neg (by omega)]
    have hKp : Kp b F9 (bn G8) := by
      refine ⟨by rw [n5, B369], by rw [B369]; omega, fun p y z => ?_, KM, by rw [B369]; exact n6⟩
      rw [B369] at z
      by_cases e : p = np
      · subst e
        refine ⟨⟨?_, fun k u w => ?_, ?_, ?_⟩, ?_, ?_⟩
        · rw [hc, f9c, f8c1, bn_375, hx, R375x]
        · rw [bn_375, hx, R375x] at w
          rw [hc, f9c1, bn_376, show 36 + (3 * p + k) = 3 * x + k by omega, R376x k u w]
        · rw [hc, f9c, f8c4, bn_377, hx, R377, if_pos rfl]
        · rw [hc, f9c, f8c 2 (by decide) (by decide), f8c 3 (by decide) (by decide), p2, p3, bn_374, hx, R374, if_pos rfl]
          exact hnm
        · rw [bn_375, hx, R375x]; exact d6
        · rw [bn_377, hx, R377, if_pos rfl]; exact ht
      · have zz : p < np := by omega
        obtain ⟨⟨o1, o2, o3, o4⟩, o5, o6⟩ := kps p y zz
        have e5 : bn G8 375 p = bn G 375 p := by rw [bn_375, bn_375, R375 _ (by omega)]
        have e7 : bn G8 377 p = bn G 377 p := by rw [bn_377, bn_377, R377, if_neg (by omega)]
        obtain ⟨c1, c2⟩ := hpc p y zz
        refine ⟨⟨?_, fun k u w => ?_, ?_, ?_⟩, by rw [e5]; exact o5, by rw [e7]; exact o6⟩
        · rw [c1, e5]; exact o1
        · rw [e5] at w
          rw [c2, bn_376, R376 _ (by omega), ← bn_376 (G := G)]
          exact o2 k u w
        · rw [c1, e7]; exact o3
        · rw [c1, r374 p y zz]; exact o4
    obtain ⟨-, k2, k3, k5, k6, k7⟩ := hK
    have hM : jM b F9 (bn G8) := by
      obtain ⟨⟨m1, m2, m3⟩, ⟨l1, l2, l3⟩, m4, m5, m6, m7, m8⟩ := k7
      unfold jM
      rw [n5, f9b 10 (by decide) (by decide), f9b 11 (by decide) (by decide), B369, Rb 370 (by decide), Rb 371 (by decide), Rb 378 (by decide), Rb 379 (by decide)]
      refine ⟨⟨rfl, m2, m3⟩, ⟨by omega, l2, l3⟩, fun p y z => ?_, fun p y z => ?_, fun p y z => ?_, fun a p q0 q1 y z => ?_, m8⟩
      · by_cases e : p = np
        · subst e
          refine ⟨fl, ?_⟩
          rw [hc, f9c, f8c 2 (by decide) (by decide), p2, bn_374, hx, R374, if_pos rfl]
          exact hnm
        · rw [(hpc p y (by omega)).1, r374 p y (by omega)]
          exact m4 p y (by omega)
      · rw [ff9 _ (by omega) (by omega) (by omega) (by omega) (by omega) (by omega) (by omega)]; exact m5 p y z
      · rw [ff9 _ (by omega) (by omega) (by omega) (by omega) (by omega) (by omega) (by omega)]; exact m6 p y z
      · by_cases e : p = np
        · subst e
          rw [bn_374, hx, R374, if_pos rfl]
          have := u3 a q0 (by rw [bn_row (y1.1 371 (by decide))]; exact q1)
          rw [bn_row (y1.1 379 (by decide))] at this
          exact this
        · rw [r374 p y (by omega)]
          exact m7 a p q0 q1 y (by omega)
    have wc9 : wC b F F9 := (w7c.tr z8.w).tr ⟨fun a y z w => n3 a (by omega) (by omega) (by omega), fun j y => by rw [n3 2 (by omega) (by omega) (by omega)], fun j y => by rw [n3 3 (by omega) (by omega) (by omega)]⟩
    refine ⟨F9, G8, 1, rfl, rfl, wc9, w8g.z y8, Or.inl ⟨rfl, J9.c n2 (fun a y => n3 a (by omega) (by omega) (by omega)), ⟨hKp,
      k2.fr (f9b 10 (by decide) (by decide)) (f9b 11 (by decide) (by decide)) (ff9 _ (by omega) (by omega) (by omega) (by omega) (by omega) (by omega) (by omega)) (fun a y z => ff9 a (by omega) (by omega) (by omega) (by omega) (by omega) (by omega) (by omega)) (by rw [B369]; omega) (by rw [Rb 370 (by decide)]) (by rw [Rb 371 (by decide)]) (Rb 380 (by decide)) (Rb 381 (by decide)) (Rb 382 (by decide)) (Rb 383 (by decide)),
      k3.fr (f9b 12 (by decide) (by decide)) (fun a y z => ff9 a (by omega) (by omega) (by omega) (by omega) (by omega) (by omega) (by omega)) (by rw [Rb 371 (by decide)]; exact Int.le_refl _) (by rw [Rb 372 (by decide)]) (Rb 384 (by decide)) (Rb 385 (by decide)) (Rb 386 (by decide)) (Rb 387 (by decide)),
      k5.fr (f9b 13 (by decide) (by decide)) (fun a y z => ff9 a (by omega) (by omega) (by omega) (by omega) (by omega) (by omega) (by omega)) (by rw [B369]; omega) (by rw [Rb 373 (by decide)]) (Rb 388 (by decide)) (Rb 389 (by decide)) (Rb 390 (by decide)),
      k6.fr (ff9 _ (by omega) (by omega) (by omega) (by omega) (by omega) (by omega) (by omega)) (Rb 391 (by decide)) (Rb 392 (by decide)), hM⟩, ?_⟩⟩
    unfold kN
    rw [B369, Rb 370 (by decide), Rb 371 (by decide), Rb 372 (by decide), Rb 373 (by decide), Rb 392 (by decide), hnp]
    omega
  · rw [if_neg (by rw [k9]; exact cc)]
    refine j_full h (fun F' e => ?_) (fun G' e => ?_)
    · simp only [pl_l, pl_b, pl_iT, pl_t, pl_f, e]
      rw [pl_i (by decide)]
    · rw [n0 (by omega) G' e, rL_0]
end PL

/-! net, limit, paid, claim, ranks: of a book and a row of acts -/
noncomputable def cSo (D : pd_F) (s : Int → Int) (d : Int) : Int := min (sOw D s d) (sHas D s d)
noncomputable def cNt (D : pd_F) (s : Int → Int) (d : Int) : Int := sHas D s d - cSo D s d
noncomputable def cLm (D : pd_F) (s : Int → Int) (d c : Int) : Int := c + min (sHi D s d) (s 73)
noncomputable def cPd (D : pd_F) (s : Int → Int) (d c : Int) : Int := min (cNt D s d) (cLm D s d c)
noncomputable def cCl (D : pd_F) (s : Int → Int) (d : Int) : Int := cNt D s d - cPd D s d (s 72)
noncomputable def cPU (D : pd_F) (s : Int → Int) (c : Int) : Int := Sm (fun d => cPd D s d c) (sD D s)
noncomputable def cI (D : pd_F) (s : Int → Int) (d : Int) : Int := ci (sIn D s d) 1 0
/-- the claims of those below n who are (1) or aren't (0) insiders -/
noncomputable def cCn (D : pd_F) (s : Int → Int) (w n : Int) : Int := Sm (fun d => if cI D s d = w then cCl D s d else 0) n
theorem sHas_bd {D : pd_F} {s : Int → Int} (h : bOk D) (hs : aOk D s) (d : Int) : 0 ≤ sHas D s d ∧ sHas D s d ≤ 1199999880 := by
  have b := h.1
  have := Sm_if (f := sN D s) (g := sG D s) (d := d) b.1 (fun p _ _ => sG_bd h hs)
  unfold sHas
  have := b.2.1
  omega
theorem sHi_bd {D : pd_F} {s : Int → Int} (h : bOk D) (hs : aOk D s) (d : Int) : 0 ≤ sHi D s d ∧ sHi D s d ≤ 1199999880 := by
  have b := h.1
  have := Sm_if (f := sN D s) (g := sHg D s) (d := d) b.1 (fun p _ _ => sHg_bd h hs)
  unfold sHi
  have := b.2.1
  omega
theorem sOw_bd {D : pd_F} {s : Int → Int} (h : bOk D) (d : Int) : 0 ≤ sOw D s d ∧ sOw D s d ≤ 79999992 := by
  obtain ⟨-, -, -, c1, -, c2, -⟩ := id h
  have := Sm_bd (f := oT D s d) (lo := 0) (hi := 9999999) c1.1 (fun l x y => by
    have := c2 l x y
    unfold oT
    split <;> omega)
  unfold sOw
  omega
theorem cNt_bd {D : pd_F} {s : Int → Int} (h : bOk D) (hs : aOk D s) (d : Int) : 0 ≤ cNt D s d ∧ cNt D s d ≤ 1199999880 ∧ 0 ≤ cSo D s d ∧ cSo D s d ≤ sHas D s d := by
  have a := sHas_bd h hs d
  have b := sOw_bd h (s := s) d
  unfold cNt cSo
  omega
theorem cPd_bd {D : pd_F} {s : Int → Int} (h : bOk D) (hs : aOk D s) (d : Int) {c : Int} (hc : 0 ≤ c) : 0 ≤ cPd D s d c ∧ cPd D s d c ≤ cNt D s d := by
  have a := cNt_bd h hs d
  have b := sHi_bd h hs d
  have e := hs.2.2.2.2
  unfold cPd cLm
  omega
theorem cCl_bd {D : pd_F} {s : Int → Int} (h : bOk D) (hs : aOk D s) (d : Int) : 0 ≤ cCl D s d ∧ cCl D s d ≤ 1199999880 := by
  have a := cNt_bd h hs d
  have b := cPd_bd h hs d hs.2.2.2.1.1
  unfold cCl
  omega
theorem cPU_bd {D : pd_F} {s : Int → Int} (h : bOk D) (hs : aOk D s) {c n : Int} (hc : 0 ≤ c) (hn : 0 ≤ n) : 0 ≤ Sm (fun d => cPd D s d c) n ∧ Sm (fun d => cPd D s d c) n ≤ 1199999880 * n := by
  have := Sm_bd (f := fun d => cPd D s d c) (lo := 0) (hi := 1199999880) hn (fun d _ _ => by
    have a := cNt_bd h hs d
    have b := cPd_bd h hs d hc
    omega)
  omega
theorem cCn_bd {D : pd_F} {s : Int → Int} (h : bOk D) (hs : aOk D s) {w n : Int} (hn : 0 ≤ n) : 0 ≤ cCn D s w n ∧ cCn D s w n ≤ 1199999880 * n := by
  have := Sm_bd (f := fun d => if cI D s d = w then cCl D s d else 0) (lo := 0) (hi := 1199999880) hn (fun d _ _ => by
    have a := cCl_bd h hs d
    split <;> omega)
  unfold cCn
  omega
theorem sD_12 {D : pd_F} {s : Int → Int} (h : bOk D) : 0 ≤ sD D s ∧ sD D s ≤ 12 := by
  have b := h.1
  have := sD_bd (D := D) (s := s) b.1
  have := b.2.1
  omega
theorem cI_01 (D : pd_F) (s : Int → Int) (d : Int) : cI D s d = 0 ∨ cI D s d = 1 := by
  unfold cI
  rcases ci_o (sIn D s d) (1 : Int) 0 with h | h
  · exact Or.inr h.2
  · exact Or.inl h.2
/-- the reference as laysViews leaves it -/
def rW (D : pd_F) (s : Int → Int) (G : pd_F) : Prop := pd_Ly G ∧ G 393 = s ∧ vP D s G ∧ bOk D ∧ aOk D s
section RV
variable {D : pd_F} {s : Int → Int} {G : pd_F}
theorem r_setOff (w : rW D s G) {d : Int} (hd : 0 ≤ d ∧ d < 12) : pfX12_setOff pd_SH 5000 G 367 d = some (cSo D s d, G) := by
  obtain ⟨g1, g2, ⟨v1, v2, v3, v4, v5, v6⟩, hb, hs⟩ := id w
  have a := v3 d hd.1 hd.2
  have b := v4 d hd.1 hd.2
  unfold pfX12_setOff cSo
  by_cases c : sOw D s d ≥ sHas D s d
  · simp (disch := omega) only [pl_l, pl_b, pl_iT, pl_t, pl_f, lm_1 g1, lm_14 g1, lm_15 g1, lm_16 g1, lm_17 g1, lm_18 g1, lm_19 g1, lm_20 g1, lm_21 g1, lm_22 g1, lm_23 g1, lm_24 g1, lm_25 g1, lm_26 g1, lm_27 g1, lm_28 g1, lm_29 g1, lm_30 g1, lm_31 g1, lm_32 g1, lm_33 g1, lm_34 g1, lm_35 g1, lm_36 g1, lm_37 g1, lm_39 g1, lm_40 g1, lm_42 g1, lm_43 g1, lm_44 g1, lm_45 g1, lm_47 g1, lm_48 g1, lm_49 g1, lm_50 g1, lm_51 g1, gx_367, gx_368, gx_369, gx_370, gx_371, gx_372, gx_373, gx_374, gx_375, gx_376, gx_377, gx_378, gx_379, gx_380, gx_381, gx_382, gx_383, gx_384, gx_385, gx_386, gx_387, gx_388, gx_389, gx_390, gx_391, gx_392, gx_393, gx_394, gx_395, gx_396, gx_397, gx_398, gx_399, gx_400, gx_401, gx_402, gx_403, gn_368, gn_369, gn_370, gn_371, gn_372, gn_373, gn_374, gn_375, gn_376, gn_377, gn_378, gn_379, gn_380, gn_381, gn_382, gn_383, gn_384, gn_385, gn_386, gn_387, gn_388, gn_389, gn_390, gn_391, gn_392, gn_393, gn_394, gn_395, gn_396, gn_397, gn_398, gn_399, gn_400, gn_401, gn_402, gn_403, a, b, pl_i, if_pos, if_neg]
    rw [Int.min_eq_right c]
  · simp (disch := omega) only [pl_l, pl_b, pl_iT, pl_t, pl_f, lm_1 g1, lm_14 g1, lm_15 g1, lm_16 g1, lm_17 g1, lm_18 g1, lm_19 g1, lm_20 g1, lm_21 g1, lm_22 g1, lm_23 g1, lm_24 g1, lm_25 g1, lm_26 g1, lm_27 g1, lm_28 g1, lm_29 g1, lm_30 g1, lm_31 g1, lm_32 g1, lm_33 g1, lm_34 g1, lm_35 g1, lm_36 g1, lm_37 g1, lm_39 g1, lm_40 g1, lm_42 g1, lm_43 g1, lm_44 g1, lm_45 g1, lm_47 g1, lm_48 g1, lm_49 g1, lm_50 g1, lm_51 g1, gx_367, gx_368, gx_369, gx_370, gx_371, gx_372, gx_373, gx_374, gx_375, gx_376, gx_377, gx_378, gx_379, gx_380, gx_381, gx_382, gx_383, gx_384, gx_385, gx_386, gx_387, gx_388, gx_389, gx_390, gx_391, gx_392, gx_393, gx_394, gx_395, gx_396, gx_397, gx_398, gx_399, gx_400, gx_401, gx_402, gx_403, gn_368, gn_369, gn_370, gn_371, gn_372, gn_373, gn_374, gn_375, gn_376, gn_377, gn_378, gn_379, gn_380, gn_381, gn_382, gn_383, gn_384, gn_385, gn_386, gn_387, gn_388, gn_389, gn_390, gn_391, gn_392, gn_393, gn_394, gn_395, gn_396, gn_397, gn_398, gn_399, gn_400, gn_401, gn_402, gn_403, a, b, pl_i, if_pos, if_neg]
    rw [Int.min_eq_left (by omega)]
theorem r_net (w : rW D s G) {d : Int} (hd : 0 ≤ d ∧ d < 12) : pfX12_net pd_SH 5000 G 367 d = some (cNt D s d, G) := by
  obtain ⟨g1, g2, ⟨v1, v2, v3, v4, v5, v6⟩, hb, hs⟩ := id w
  have a := v3 d hd.1 hd.2
  have b := cNt_bd hb hs d
  have c := sHas_bd hb hs d
  unfold pfX12_net
  simp (disch := omega) only [pl_l, pl_b, pl_iT, pl_t, pl_f, lm_1 g1, lm_14 g1, lm_15 g1, lm_16 g1, lm_17 g1, lm_18 g1, lm_19 g1, lm_20 g1, lm_21 g1, lm_22 g1, lm_23 g1, lm_24 g1, lm_25 g1, lm_26 g1, lm_27 g1, lm_28 g1, lm_29 g1, lm_30 g1, lm_31 g1, lm_32 g1, lm_33 g1, lm_34 g1, lm_35 g1, lm_36 g1, lm_37 g1, lm_39 g1, lm_40 g1, lm_42 g1, lm_43 g1, lm_44 g1, lm_45 g1, lm_47 g1, lm_48 g1, lm_49 g1, lm_50 g1, lm_51 g1, gx_367, gx_368, gx_369, gx_370, gx_371, gx_372, gx_373, gx_374, gx_375, gx_376, gx_377, gx_378, gx_379, gx_380, gx_381, gx_382, gx_383, gx_384, gx_385, gx_386, gx_387, gx_388, gx_389, gx_390, gx_391, gx_392, gx_393, gx_394, gx_395, gx_396, gx_397, gx_398, gx_399, gx_400, gx_401, gx_402, gx_403, gn_368, gn_369, gn_370, gn_371, gn_372, gn_373, gn_374, gn_375, gn_376, gn_377, gn_378, gn_379, gn_380, gn_381, gn_382, gn_383, gn_384, gn_385, gn_386, gn_387, gn_388, gn_389, gn_390, gn_391, gn_392, gn_393, gn_394, gn_395, gn_396, gn_397, gn_398, gn_399, gn_400, gn_401, gn_402, gn_403, a, r_setOff w hd, pl_i, pl_W, if_pos, if_neg]
  rfl
theorem r_limit (w : rW D s G) {d c : Int} (hd : 0 ≤ d ∧ d < 12) (hc : 0 ≤ c ∧ c ≤ 10000000000000) : pfX12_limit pd_SH 5000 G 367 d c = some (cLm D s d c, G) := by
  obtain ⟨g1, g2, ⟨v1, v2, v3, v4, v5, v6⟩, hb, hs⟩ := id w
  have a := v5 d hd.1 hd.2
  have b := sHi_bd hb hs d
  have e := hs.2.2.2.2
  unfold pfX12_limit cLm
  by_cases k : sHi D s d ≥ s 73
  · simp (disch := omega) only [pl_l, pl_b, pl_iT, pl_t, pl_f, lm_1 g1, lm_14 g1, lm_15 g1, lm_16 g1, lm_17 g1, lm_18 g1, lm_19 g1, lm_20 g1, lm_21 g1, lm_22 g1, lm_23 g1, lm_24 g1, lm_25 g1, lm_26 g1, lm_27 g1, lm_28 g1, lm_29 g1, lm_30 g1, lm_31 g1, lm_32 g1, lm_33 g1, lm_34 g1, lm_35 g1, lm_36 g1, lm_37 g1, lm_39 g1, lm_40 g1, lm_42 g1, lm_43 g1, lm_44 g1, lm_45 g1, lm_47 g1, lm_48 g1, lm_49 g1, lm_50 g1, lm_51 g1, gx_367, gx_368, gx_369, gx_370, gx_371, gx_372, gx_373, gx_374, gx_375, gx_376, gx_377, gx_378, gx_379, gx_380, gx_381, gx_382, gx_383, gx_384, gx_385, gx_386, gx_387, gx_388, gx_389, gx_390, gx_391, gx_392, gx_393, gx_394, gx_395, gx_396, gx_397, gx_398, gx_399, gx_400, gx_401, gx_402, gx_403, gn_368, gn_369, gn_370, gn_371, gn_372, gn_373, gn_374, gn_375, gn_376, gn_377, gn_378, gn_379, gn_380, gn_381, gn_382, gn_383, gn_384, gn_385, gn_386, gn_387, gn_388, gn_389, gn_390, gn_391, gn_392, gn_393, gn_394, gn_395, gn_396, gn_397, gn_398, gn_399, gn_400, gn_401, gn_402, gn_403, a, g2, pl_i, pl_W, if_pos, if_neg]
    rw [Int.min_eq_right k]
  · simp (disch := omega) only [pl_l, pl_b, pl_iT, pl_t, pl_f, lm_1 g1, lm_14 g1, lm_15 g1, lm_16 g1, lm_17 g1, lm_18 g1, lm_19 g1, lm_20 g1, lm_21 g1, lm_22 g1, lm_23 g1, lm_24 g1, lm_25 g1, lm_26 g1, lm_27 g1, lm_28 g1, lm_29 g1, lm_30 g1, lm_31 g1, lm_32 g1, lm_33 g1, lm_34 g1, lm_35 g1, lm_36 g1, lm_37 g1, lm_39 g1, lm_40 g1, lm_42 g1, lm_43 g1, lm_44 g1, lm_45 g1, lm_47 g1, lm_48 g1, lm_49 g1, lm_50 g1, lm_51 g1, gx_367, gx_368, gx_369, gx_370, gx_371, gx_372, gx_373, gx_374, gx_375, gx_376, gx_377, gx_378, gx_379, gx_380, gx_381, gx_382, gx_383, gx_384, gx_385, gx_386, gx_387, gx_388, gx_389, gx_390, gx_391, gx_392, gx_393, gx_394, gx_395, gx_396, gx_397, gx_398, gx_399, gx_400, gx_401, gx_402, gx_403, gn_368, gn_369, gn_370, gn_371, gn_372, gn_373, gn_374, gn_375, gn_376, gn_377, gn_378, gn_379, gn_380, gn_381, gn_382, gn_383, gn_384, gn_385, gn_386, gn_387, gn_388, gn_389, gn_390, gn_391, gn_392, gn_393, gn_394, gn_395, gn_396, gn_397, gn_398, gn_399, gn_400, gn_401, gn_402, gn_403, a, g2, pl_i, pl_W, if_pos, if_neg]
    rw [Int.min_eq_left (by omega)]
theorem r_paid (w : rW D s G) {d c : Int} (hd : 0 ≤ d ∧ d < 12) (hc : 0 ≤ c ∧ c ≤ 10000000000000) : pfX12_paid pd_SH 5000 G 367 d c = some (cPd D s d c, G) := by
  obtain ⟨g1, g2, ⟨v1, v2, v3, v4, v5, v6⟩, hb, hs⟩ := id w
  unfold pfX12_paid cPd
  simp only [pl_l, pl_b, pl_iT, pl_t, pl_f, gx_367, gx_368, gx_369, gx_370, gx_371, gx_372, gx_373, gx_374, gx_375, gx_376, gx_377, gx_378, gx_379, gx_380, gx_381, gx_382, gx_383, gx_384, gx_385, gx_386, gx_387, gx_388, gx_389, gx_390, gx_391, gx_392, gx_393, gx_394, gx_395, gx_396, gx_397, gx_398, gx_399, gx_400, gx_401, gx_402, gx_403, gn_368, gn_369, gn_370, gn_371, gn_372, gn_373, gn_374, gn_375, gn_376, gn_377, gn_378, gn_379, gn_380, gn_381, gn_382, gn_383, gn_384, gn_385, gn_386, gn_387, gn_388, gn_389, gn_390, gn_391, gn_392, gn_393, gn_394, gn_395, gn_396, gn_397, gn_398, gn_399, gn_400, gn_401, gn_402, gn_403, r_net w hd, r_limit w hd hc]
  by_cases k : cNt D s d ≥ cLm D s d c
  · rw [if_pos k, Int.min_eq_right k]
  · rw [if_neg k, Int.min_eq_left (by omega)]
theorem r_claim (w : rW D s G) {d : Int} (hd : 0 ≤ d ∧ d < 12) : pfX12_claim pd_SH 5000 G 367 d = some (cCl D s d, G) := by
  obtain ⟨g1, g2, ⟨v1, v2, v3, v4, v5, v6⟩, hb, hs⟩ := id w
  have e := hs.2.2.2.1
  have b := cCl_bd hb hs d
  unfold pfX12_claim
  simp only [pl_l, pl_b, pl_iT, pl_t, pl_f, gx_367, gx_368, gx_369, gx_370, gx_371, gx_372, gx_373, gx_374, gx_375, gx_376, gx_377, gx_378, gx_379, gx_380, gx_381, gx_382, gx_383, gx_384, gx_385, gx_386, gx_387, gx_388, gx_389, gx_390, gx_391, gx_392, gx_393, gx_394, gx_395, gx_396, gx_397, gx_398, gx_399, gx_400, gx_401, gx_402, gx_403, gn_368, gn_369, gn_370, gn_371, gn_372, gn_373, gn_374, gn_375, gn_376, gn_377, gn_378, gn_379, gn_380, gn_381, gn_382, gn_383, gn_384, gn_385, gn_386, gn_387, gn_388, gn_389, gn_390, gn_391, gn_392, gn_393, gn_394, gn_395, gn_396, gn_397, gn_398, gn_399, gn_400, gn_401, gn_402, gn_403, lm_1 g1, lm_14 g1, lm_15 g1, lm_16 g1, lm_17 g1, lm_18 g1, lm_19 g1, lm_20 g1, lm_21 g1, lm_22 g1, lm_23 g1, lm_24 g1, lm_25 g1, lm_26 g1, lm_27 g1, lm_28 g1, lm_29 g1, lm_30 g1, lm_31 g1, lm_32 g1, lm_33 g1, lm_34 g1, lm_35 g1, lm_36 g1, lm_37 g1, lm_39 g1, lm_40 g1, lm_42 g1, lm_43 g1, lm_44 g1, lm_45 g1, lm_47 g1, lm_48 g1, lm_49 g1, lm_50 g1, lm_51 g1, g2, r_net w hd, r_paid w hd (c := s 72) (by omega)]
  unfold cCl at b ⊢
  rw [pl_i (by omega), pl_W (by omega)]
theorem r_paidAll (w : rW D s G) {c : Int} (hc : 0 ≤ c ∧ c ≤ 10000000000000) : pfX12_paidAll pd_SH 5000 G 367 c = some (cPU D s c, G) := by
  obtain ⟨g1, g2, ⟨v1, v2, v3, v4, v5, v6⟩, hb, hs⟩ := id w
  have n := sD_12 (s := s) hb
  unfold pfX12_paidAll
  refine pl_for (f := fun k (q : Int) i => pfX12_paidAll_b5 pd_SH 5000 k G 367 c q i) (P := fun i q => q = Sm (fun d => cPd D s d c) i) (N := sD D s) (res := fun o => o = some (cPU D s c, G)) ?_ ?_ 5000 0 0 (by omega) n.1 (by omega) rfl
  · intro k q i a b e
    have b1 := cPU_bd hb hs hc.1 a (n := i)
    have b2 := cPd_bd hb hs i hc.1
    have b3 := cNt_bd hb hs i
    refine Or.inl ⟨q + cPd D s i c, by rw [e, Sm_s a], ?_⟩
    show pfX12_paidAll_b5 pd_SH 5000 (k + 1) G 367 c q i = _
    simp (disch := omega) only [pfX12_paidAll_b5, pl_l, pl_b, pl_iT, pl_t, pl_f, gx_367, gx_368, gx_369, gx_370, gx_371, gx_372, gx_373, gx_374, gx_375, gx_376, gx_377, gx_378, gx_379, gx_380, gx_381, gx_382, gx_383, gx_384, gx_385, gx_386, gx_387, gx_388, gx_389, gx_390, gx_391, gx_392, gx_393, gx_394, gx_395, gx_396, gx_397, gx_398, gx_399, gx_400, gx_401, gx_402, gx_403, gn_368, gn_369, gn_370, gn_371, gn_372, gn_373, gn_374, gn_375, gn_376, gn_377, gn_378, gn_379, gn_380, gn_381, gn_382, gn_383, gn_384, gn_385, gn_386, gn_387, gn_388, gn_389, gn_390, gn_391, gn_392, gn_393, gn_394, gn_395, gn_396, gn_397, gn_398, gn_399, gn_400, gn_401, gn_402, gn_403, v1, r_paid w (show 0 ≤ i ∧ i < 12 by omega) hc, pl_w, pl_W, if_pos, if_neg]
  · intro k q e
    show pfX12_paidAll_b5 pd_SH 5000 (k + 1) G 367 c q _ = _
    simp (disch := omega) only [pfX12_paidAll_b5, pl_l, pl_b, pl_iT, pl_t, pl_f, gx_367, gx_368, gx_369, gx_370, gx_371, gx_372, gx_373, gx_374, gx_375, gx_376, gx_377, gx_378, gx_379, gx_380, gx_381, gx_382, gx_383, gx_384, gx_385, gx_386, gx_387, gx_388, gx_389, gx_390, gx_391, gx_392, gx_393, gx_394, gx_395, gx_396, gx_397, gx_398, gx_399, gx_400, gx_401, gx_402, gx_403, gn_368, gn_369, gn_370, gn_371, gn_372, gn_373, gn_374, gn_375, gn_376, gn_377, gn_378, gn_379, gn_380, gn_381, gn_382, gn_383, gn_384, gn_385, gn_386, gn_387, gn_388, gn_389, gn_390, gn_391, gn_392, gn_393, gn_394, gn_395, gn_396, gn_397, gn_398, gn_399, gn_400, gn_401, gn_402, gn_403, v1, if_pos, if_neg]
    rw [e]; rfl
theorem r_rank0 (w : rW D s G) : pfX12_rank pd_SH 5000 G 367 0 = some (cPU D s (s 72), G) := by
  obtain ⟨g1, g2, ⟨v1, v2, v3, v4, v5, v6⟩, hb, hs⟩ := id w
  have e := hs.2.2.2.1
  have n := sD_12 (s := s) hb
  have key : ∀ (k : Nat) (q : Int), pfX12_rank_b24 pd_SH 5000 (k + 1) G 367 0 q 0 = some (q, G) := fun k q => by
    by_cases z : 0 ≥ sD D s
    · simp (disch := omega) only [pfX12_rank_b24, pl_l, pl_b, pl_iT, pl_t, pl_f, gx_367, gx_368, gx_369, gx_370, gx_371, gx_372, gx_373, gx_374, gx_375, gx_376, gx_377, gx_378, gx_379, gx_380, gx_381, gx_382, gx_383, gx_384, gx_385, gx_386, gx_387, gx_388, gx_389, gx_390, gx_391, gx_392, gx_393, gx_394, gx_395, gx_396, gx_397, gx_398, gx_399, gx_400, gx_401, gx_402, gx_403, gn_368, gn_369, gn_370, gn_371, gn_372, gn_373, gn_374, gn_375, gn_376, gn_377, gn_378, gn_379, gn_380, gn_381, gn_382, gn_383, gn_384, gn_385, gn_386, gn_387, gn_388, gn_389, gn_390, gn_391, gn_392, gn_393, gn_394, gn_395, gn_396, gn_397, gn_398, gn_399, gn_400, gn_401, gn_402, gn_403, v1, if_pos, if_neg]
    · simp (disch := omega) only [pfX12_rank_b24, pl_l, pl_b, pl_iT, pl_t, pl_f, gx_367, gx_368, gx_369, gx_370, gx_371, gx_372, gx_373, gx_374, gx_375, gx_376, gx_377, gx_378, gx_379, gx_380, gx_381, gx_382, gx_383, gx_384, gx_385, gx_386, gx_387, gx_388, gx_389, gx_390, gx_391, gx_392, gx_393, gx_394, gx_395, gx_396, gx_397, gx_398, gx_399, gx_400, gx_401, gx_402, gx_403, gn_368, gn_369, gn_370, gn_371, gn_372, gn_373, gn_374, gn_375, gn_376, gn_377, gn_378, gn_379, gn_380, gn_381, gn_382, gn_383, gn_384, gn_385, gn_386, gn_387, gn_388, gn_389, gn_390, gn_391, gn_392, gn_393, gn_394, gn_395, gn_396, gn_397, gn_398, gn_399, gn_400, gn_401, gn_402, gn_403, v1, if_pos, if_neg]
  unfold pfX12_rank pfX12_rank_b20
  simp (disch := omega) only [pl_l, pl_b, pl_iT, pl_t, pl_f, gx_367, gx_368, gx_369, gx_370, gx_371, gx_372, gx_373, gx_374, gx_375, gx_376, gx_377, gx_378, gx_379, gx_380, gx_381, gx_382, gx_383, gx_384, gx_385, gx_386, gx_387, gx_388, gx_389, gx_390, gx_391, gx_392, gx_393, gx_394, gx_395, gx_396, gx_397, gx_398, gx_399, gx_400, gx_401, gx_402, gx_403, gn_368, gn_369, gn_370, gn_371, gn_372, gn_373, gn_374, gn_375, gn_376, gn_377, gn_378, gn_379, gn_380, gn_381, gn_382, gn_383, gn_384, gn_385, gn_386, gn_387, gn_388, gn_389, gn_390, gn_391, gn_392, gn_393, gn_394, gn_395, gn_396, gn_397, gn_398, gn_399, gn_400, gn_401, gn_402, gn_403, lm_1 g1, lm_14 g1, lm_15 g1, lm_16 g1, lm_17 g1, lm_18 g1, lm_19 g1, lm_20 g1, lm_21 g1, lm_22 g1, lm_23 g1, lm_24 g1, lm_25 g1, lm_26 g1, lm_27 g1, lm_28 g1, lm_29 g1, lm_30 g1, lm_31 g1, lm_32 g1, lm_33 g1, lm_34 g1, lm_35 g1, lm_36 g1, lm_37 g1, lm_39 g1, lm_40 g1, lm_42 g1, lm_43 g1, lm_44 g1, lm_45 g1, lm_47 g1, lm_48 g1, lm_49 g1, lm_50 g1, lm_51 g1, g2, r_paidAll w (c := s 72) (by omega), pl_i, if_pos, if_neg]
  exact key 4999 _
theorem r_rank (w : rW D s G) {r x : Int} (hr : (r = 1 ∧ x = 0) ∨ (r = 2 ∧ x = 1)) : pfX12_rank pd_SH 5000 G 367 r = some (cCn D s x (sD D s), G) := by
  obtain ⟨g1, g2, ⟨v1, v2, v3, v4, v5, v6⟩, hb, hs⟩ := id w
  have n := sD_12 (s := s) hb
  unfold pfX12_rank pfX12_rank_b20
  rw [if_pos (by omega)]
  refine pl_for (f := fun k (q : Int) i => pfX12_rank_b24 pd_SH 5000 k G 367 r q i) (P := fun i q => q = cCn D s x i) (N := sD D s) (res := fun o => o = some (cCn D s x (sD D s), G)) ?_ ?_ 5000 0 0 (by omega) n.1 (by omega) rfl
  · intro k q i a b e
    have b1 := cCn_bd hb hs a (w := x)
    have b2 := cCl_bd hb hs i
    have b3 := v6 i a (by omega)
    have b4 := cI_01 D s i
    rw [show ci (sIn D s i) 1 0 = cI D s i from rfl] at b3
    refine Or.inl ⟨q + (if cI D s i = x then cCl D s i else 0), by rw [e]; unfold cCn; rw [Sm_s a], ?_⟩
    show pfX12_rank_b24 pd_SH 5000 (k + 1) G 367 r q i = pfX12_rank_b24 pd_SH 5000 k G 367 r _ (i + 1)
    rcases hr with ⟨rfl, rfl⟩ | ⟨rfl, rfl⟩
    · by_cases z : cI D s i = 0
      · simp (disch := omega) only [pfX12_rank_b24, pfX12_rank_b55, pfX12_rank_b68, pl_l, pl_b, pl_iT, pl_t, pl_f, gx_367, gx_368, gx_369, gx_370, gx_371, gx_372, gx_373, gx_374, gx_375, gx_376, gx_377, gx_378, gx_379, gx_380, gx_381, gx_382, gx_383, gx_384, gx_385, gx_386, gx_387, gx_388, gx_389, gx_390, gx_391, gx_392, gx_393, gx_394, gx_395, gx_396, gx_397, gx_398, gx_399, gx_400, gx_401, gx_402, gx_403, gn_368, gn_369, gn_370, gn_371, gn_372, gn_373, gn_374, gn_375, gn_376, gn_377, gn_378, gn_379, gn_380, gn_381, gn_382, gn_383, gn_384, gn_385, gn_386, gn_387, gn_388, gn_389, gn_390, gn_391, gn_392, gn_393, gn_394, gn_395, gn_396, gn_397, gn_398, gn_399, gn_400, gn_401, gn_402, gn_403, lm_1 g1, lm_14 g1, lm_15 g1, lm_16 g1, lm_17 g1, lm_18 g1, lm_19 g1, lm_20 g1, lm_21 g1, lm_22 g1, lm_23 g1, lm_24 g1, lm_25 g1, lm_26 g1, lm_27 g1, lm_28 g1, lm_29 g1, lm_30 g1, lm_31 g1, lm_32 g1, lm_33 g1, lm_34 g1, lm_35 g1, lm_36 g1, lm_37 g1, lm_39 g1, lm_40 g1, lm_42 g1, lm_43 g1, lm_44 g1, lm_45 g1, lm_47 g1, lm_48 g1, lm_49 g1, lm_50 g1, lm_51 g1, v1, b3, r_claim w (show 0 ≤ i ∧ i < 12 by omega), pl_i, pl_w, pl_W, if_pos, if_neg]
      · simp (disch := omega) only [pfX12_rank_b24, pfX12_rank_b55, pfX12_rank_b68, pl_l, pl_b, pl_iT, pl_t, pl_f, gx_367, gx_368, gx_369, gx_370, gx_371, gx_372, gx_373, gx_374, gx_375, gx_376, gx_377, gx_378, gx_379, gx_380, gx_381, gx_382, gx_383, gx_384, gx_385, gx_386, gx_387, gx_388, gx_389, gx_390, gx_391, gx_392, gx_393, gx_394, gx_395, gx_396, gx_397, gx_398, gx_399, gx_400, gx_401, gx_402, gx_403, gn_368, gn_369, gn_370, gn_371, gn_372, gn_373, gn_374, gn_375, gn_376, gn_377, gn_378, gn_379, gn_380, gn_381, gn_382, gn_383, gn_384, gn_385, gn_386, gn_387, gn_388, gn_389, gn_390, gn_391, gn_392, gn_393, gn_394, gn_395, gn_396, gn_397, gn_398, gn_399, gn_400, gn_401, gn_402, gn_403, lm_1 g1, lm_14 g1, lm_15 g1, lm_16 g1, lm_17 g1, lm_18 g1, lm_19 g1, lm_20 g1, lm_21 g1, lm_22 g1, lm_23 g1, lm_24 g1, lm_25 g1, lm_26 g1, lm_27 g1, lm_28 g1, lm_29 g1, lm_30 g1, lm_31 g1, lm_32 g1, lm_33 g1, lm_34 g1, lm_35 g1, lm_36 g1, lm_37 g1, lm_39 g1, lm_40 g1, lm_42 g1, lm_43 g1, lm_44 g1, lm_45 g1, lm_47 g1, lm_48 g1, lm_49 g1, lm_50 g1, lm_51 g1, v1, b3, pl_i, pl_w, pl_W, if_pos, if_neg]
    · by_cases z : cI D s i = 1
      · simp (disch := omega) only [pfX12_rank_b24, pfX12_rank_b55, pfX12_rank_b68, pl_l, pl_b, pl_iT, pl_t, pl_f, gx_367, gx_368, gx_369, gx_370, gx_371, gx_372, gx_373, gx_374, gx_375, gx_376, gx_377, gx_378, gx_379, gx_380, gx_381, gx_382, gx_383, gx_384, gx_385, gx_386, gx_387, gx_388, gx_389, gx_390, gx_391, gx_392, gx_393, gx_394, gx_395, gx_396, gx_397, gx_398, gx_399, gx_400, gx_401, gx_402, gx_403, gn_368, gn_369, gn_370, gn_371, gn_372, gn_373, gn_374, gn_375, gn_376, gn_377, gn_378, gn_379, gn_380, gn_381, gn_382, gn_383, gn_384, gn_385, gn_386, gn_387, gn_388, gn_389, gn_390, gn_391, gn_392, gn_393, gn_394, gn_395, gn_396, gn_397, gn_398, gn_399, gn_400, gn_401, gn_402, gn_403, lm_1 g1, lm_14 g1, lm_15 g1, lm_16 g1, lm_17 g1, lm_18 g1, lm_19 g1, lm_20 g1, lm_21 g1, lm_22 g1, lm_23 g1, lm_24 g1, lm_25 g1, lm_26 g1, lm_27 g1, lm_28 g1, lm_29 g1, lm_30 g1, lm_31 g1, lm_32 g1, lm_33 g1, lm_34 g1, lm_35 g1, lm_36 g1, lm_37 g1, lm_39 g1, lm_40 g1, lm_42 g1, lm_43 g1, lm_44 g1, lm_45 g1, lm_47 g1, lm_48 g1, lm_49 g1, lm_50 g1, lm_51 g1, v1, b3, r_claim w (show 0 ≤ i ∧ i < 12 by omega), pl_i, pl_w, pl_W, if_pos, if_neg]
      · simp (disch := omega) only [pfX12_rank_b24, pfX12_rank_b55, pfX12_rank_b68, pl_l, pl_b, pl_iT, pl_t, pl_f, gx_367, gx_368, gx_369, gx_370, gx_371, gx_372, gx_373, gx_374, gx_375, gx_376, gx_377, gx_378, gx_379, gx_380, gx_381, gx_382, gx_383, gx_384, gx_385, gx_386, gx_387, gx_388, gx_389, gx_390, gx_391, gx_392, gx_393, gx_394, gx_395, gx_396, gx_397, gx_398, gx_399, gx_400, gx_401, gx_402, gx_403, gn_368, gn_369, gn_370, gn_371, gn_372, gn_373, gn_374, gn_375, gn_376, gn_377, gn_378, gn_379, gn_380, gn_381, gn_382, gn_383, gn_384, gn_385, gn_386, gn_387, gn_388, gn_389, gn_390, gn_391, gn_392, gn_393, gn_394, gn_395, gn_396, gn_397, gn_398, gn_399, gn_400, gn_401, gn_402, gn_403, lm_1 g1, lm_14 g1, lm_15 g1, lm_16 g1, lm_17 g1, lm_18 g1, lm_19 g1, lm_20 g1, lm_21 g1, lm_22 g1, lm_23 g1, lm_24 g1, lm_25 g1, lm_26 g1, lm_27 g1, lm_28 g1, lm_29 g1, lm_30 g1, lm_31 g1, lm_32 g1, lm_33 g1, lm_34 g1, lm_35 g1, lm_36 g1, lm_37 g1, lm_39 g1, lm_40 g1, lm_42 g1, lm_43 g1, lm_44 g1, lm_45 g1, lm_47 g1, lm_48 g1, lm_49 g1, lm_50 g1, lm_51 g1, v1, b3, pl_i, pl_w, pl_W, if_pos, if_neg]
  · intro k q e
    show pfX12_rank_b24 pd_SH 5000 (k + 1) G 367 r q _ = _
    simp (disch := omega) only [pfX12_rank_b24, pl_l, pl_b, pl_iT, pl_t, pl_f, gx_367, gx_368, gx_369, gx_370, gx_371, gx_372, gx_373, gx_374, gx_375, gx_376, gx_377, gx_378, gx_379, gx_380, gx_381, gx_382, gx_383, gx_384, gx_385, gx_386, gx_387, gx_388, gx_389, gx_390, gx_391, gx_392, gx_393, gx_394, gx_395, gx_396, gx_397, gx_398, gx_399, gx_400, gx_401, gx_402, gx_403, gn_368, gn_369, gn_370, gn_371, gn_372, gn_373, gn_374, gn_375, gn_376, gn_377, gn_378, gn_379, gn_380, gn_381, gn_382, gn_383, gn_384, gn_385, gn_386, gn_387, gn_388, gn_389, gn_390, gn_391, gn_392, gn_393, gn_394, gn_395, gn_396, gn_397, gn_398, gn_399, gn_400, gn_401, gn_402, gn_403, v1, if_pos, if_neg]
    rw [e]
end RV

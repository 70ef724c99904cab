/-! the reference's answers over the views -/
noncomputable def aView (D : pd_F) (s : Int → Int) (d w : Int) : Int := if 0 ≤ d ∧ d < sD D s then (if w = 0 then sHas D s d else if w = 1 then sOw D s d else if w = 2 then cSo D s d else if w = 3 then cNt D s d else if w = 4 then sHi D s d else if w = 5 then cLm D s d (s 72) else if w = 6 then cPd D s d (s 72) else if w = 7 then cCl D s d else if w = 8 then cI D s d else -1) else -1
noncomputable def cFz (D : pd_F) (s : Int → Int) : Int := Sm (fun a => ci (lFl (D 381) (D 382) (D 383) 8 (5 + a)) (s a) 0) (D 371 0)
noncomputable def aTm (D : pd_F) (s : Int → Int) (w d : Int) : Int := if w = 0 then sHas D s d else if w = 1 then cSo D s d else if w = 2 then cPd D s d (s 72) else if w = 3 then cCl D s d else if cCl D s d ≤ 0 then 0 else 1
noncomputable def aAll (D : pd_F) (s : Int → Int) (w : Int) : Int := if 0 ≤ w ∧ w ≤ 6 then (if w = 4 then cFz D s else if w = 5 then sD D s else Sm (aTm D s w) (sD D s)) else -1
noncomputable def cPl (D : pd_F) (s : Int → Int) (d : Int) : Int := Sm (fun o => if cCl D s o > cCl D s d ∨ (cCl D s o = cCl D s d ∧ o < d) then 1 else 0) (sD D s)
def aRk (D : pd_F) (s : Int → Int) (k v : Int) : Prop := (0 ≤ v ∧ v < sD D s ∧ cPl D s v = k ∧ ∀ o, 0 ≤ o → o < v → cPl D s o ≠ k) ∨ ((∀ o, 0 ≤ o → o < sD D s → cPl D s o ≠ k) ∧ v = -1)
/-- the money left for the rank of d -/
noncomputable def cLf (D : pd_F) (s : Int → Int) (m d : Int) : Int := m - cPU D s (s 72) - (if cI D s d = 1 then cCn D s 0 (sD D s) else 0)
noncomputable def aEs (D : pd_F) (s : Int → Int) (m d : Int) : Int := if cLf D s m d ≤ 0 then 0 else if cCn D s (cI D s d) (sD D s) ≤ cLf D s m d then cCl D s d
  else Int.tdiv (cLf D s m d * (cCn D s (cI D s d) d + cCl D s d)) (cCn D s (cI D s d) (sD D s)) - Int.tdiv (cLf D s m d * cCn D s (cI D s d) d) (cCn D s (cI D s d) (sD D s))
noncomputable def aEst (D : pd_F) (s : Int → Int) (m d : Int) : Int := if (0 ≤ m ∧ m ≤ 99999999) ∧ -1 ≤ d ∧ d < sD D s then (if d = -1 then min m (cPU D s (s 72)) else aEs D s m d) else -2
noncomputable def aEn (D : pd_F) (s : Int → Int) (r : Int) : Int := if r = 0 then cPU D s (s 72) else if r = 1 then (if cCn D s 0 (sD D s) ≤ 0 then 0 else cPU D s (s 72) + cCn D s 0 (sD D s)) else if r = 2 then (if cCn D s 1 (sD D s) ≤ 0 then 0 else cPU D s (s 72) + cCn D s 0 (sD D s) + cCn D s 1 (sD D s)) else -1
noncomputable def cNa (D : pd_F) (s : Int → Int) : Int := Sm (cNt D s) (sD D s)
def aCv (D : pd_F) (s : Int → Int) (h v : Int) : Prop := 0 ≤ v ∧ v ≤ cNa D s ∧ cNa D s * h ≤ cPU D s v * 100 ∧ ∀ u, 0 ≤ u → u < v → cPU D s u * 100 < cNa D s * h
theorem cPU_mono {D : pd_F} {s : Int → Int} (h : bOk D) {a b : Int} (hab : a ≤ b) : cPU D s a ≤ cPU D s b := by
  unfold cPU
  refine Sm_le (sD_12 h).1 (fun d _ _ => ?_)
  unfold cPd cLm
  omega
theorem cNa_bd {D : pd_F} {s : Int → Int} (h : bOk D) (hs : aOk D s) {n : Int} (hn : 0 ≤ n) : 0 ≤ Sm (cNt D s) n ∧ Sm (cNt D s) n ≤ 1199999880 * n := by
  have := Sm_bd (f := cNt D s) (lo := 0) (hi := 1199999880) hn (fun d _ _ => by
    have a := cNt_bd h hs d
    omega)
  omega
/-- a cover as great as all net pays all of it -/
theorem cPU_top {D : pd_F} {s : Int → Int} (h : bOk D) (hs : aOk D s) : cPU D s (cNa D s) = cNa D s := by
  have n := sD_12 (s := s) h
  unfold cPU
  show _ = Sm (cNt D s) (sD D s)
  refine Sm_congr (fun d a b => ?_)
  have i := sHi_bd h hs d
  have e := hs.2.2.2.2
  have t := cNt_bd h hs d
  have k : cNt D s d ≤ cNa D s := by
    have z := Sm_le (f := fun i => if i = d then 0 + cNt D s d else 0) (g := cNt D s) n.1 (fun j x y => by
      by_cases w : j = d
      · rw [if_pos w, w]; omega
      · rw [if_neg w]; exact (cNt_bd h hs j).1)
    rw [Sm_up (f := fun _ => 0) a b, Sm_zero (fun _ _ _ => rfl)] at z
    show _ ≤ Sm (cNt D s) (sD D s)
    omega
  unfold cPd cLm
  omega
section RA
variable {D : pd_F} {s : Int → Int} {F : pd_F}
theorem q_view (h : rS D s F) {d w : Int} : ∃ F', pfX12_view pd_SH 5000 F 367 d w = some (aView D s d w, F') ∧ pd_Ly F' ∧ qF F F' := by
  have h' := h.th 0
  obtain ⟨G, f1, f2, f3, f4⟩ := q_lays h'
  have n := sD_12 (s := s) h.2.2.2.1
  obtain ⟨g1, g2, ⟨v1, v2, v3, v4, v5, v6⟩, hb, hs⟩ := id f2
  refine ⟨G, ?_, f3.1, (qF.th F 0).tr f4.q⟩
  unfold pfX12_view aView
  simp only [pl_l, pl_b, pl_iT, pl_t, pl_f, gx_367, gx_368, gx_369, gx_370, gx_371, gx_372, gx_373, gx_374, gx_375, gx_376, gx_377, gx_378, gx_379, gx_380, gx_381, gx_382, gx_383, gx_384, gx_385, gx_386, gx_387, gx_388, gx_389, gx_390, gx_391, gx_392, gx_393, gx_394, gx_395, gx_396, gx_397, gx_398, gx_399, gx_400, gx_401, gx_402, gx_403, gn_368, gn_369, gn_370, gn_371, gn_372, gn_373, gn_374, gn_375, gn_376, gn_377, gn_378, gn_379, gn_380, gn_381, gn_382, gn_383, gn_384, gn_385, gn_386, gn_387, gn_388, gn_389, gn_390, gn_391, gn_392, gn_393, gn_394, gn_395, gn_396, gn_397, gn_398, gn_399, gn_400, gn_401, gn_402, gn_403, f1, r_within, v1]
  rw [pl_w (by omega)]
  by_cases k : 0 ≤ d ∧ d < sD D s
  · have hd : 0 ≤ d ∧ d < 12 := by omega
    have hc : 0 ≤ s 72 ∧ s 72 ≤ 10000000000000 := by have := hs.2.2.2.1; omega
    have i6 := v6 d hd.1 hd.2
    rw [show ci (sIn D s d) 1 0 = cI D s d from rfl] at i6
    rw [if_pos (show 0 ≤ d ∧ d ≤ sD D s - 1 by omega), if_pos (by decide), if_pos k]
    simp only [pl_l, pl_b, pl_iT, pl_t, pl_f, gx_367, gx_368, gx_369, gx_370, gx_371, gx_372, gx_373, gx_374, gx_375, gx_376, gx_377, gx_378, gx_379, gx_380, gx_381, gx_382, gx_383, gx_384, gx_385, gx_386, gx_387, gx_388, gx_389, gx_390, gx_391, gx_392, gx_393, gx_394, gx_395, gx_396, gx_397, gx_398, gx_399, gx_400, gx_401, gx_402, gx_403, gn_368, gn_369, gn_370, gn_371, gn_372, gn_373, gn_374, gn_375, gn_376, gn_377, gn_378, gn_379, gn_380, gn_381, gn_382, gn_383, gn_384, gn_385, gn_386, gn_387, gn_388, gn_389, gn_390, gn_391, gn_392, gn_393, gn_394, gn_395, gn_396, gn_397, gn_398, gn_399, gn_400, gn_401, gn_402, gn_403, lm_1 g1, lm_14 g1, lm_15 g1, lm_16 g1, lm_17 g1, lm_18 g1, lm_19 g1, lm_20 g1, lm_21 g1, lm_22 g1, lm_23 g1, lm_24 g1, lm_25 g1, lm_26 g1, lm_27 g1, lm_28 g1, lm_29 g1, lm_30 g1, lm_31 g1, lm_32 g1, lm_33 g1, lm_34 g1, lm_35 g1, lm_36 g1, lm_37 g1, lm_39 g1, lm_40 g1, lm_42 g1, lm_43 g1, lm_44 g1, lm_45 g1, lm_47 g1, lm_48 g1, lm_49 g1, lm_50 g1, lm_51 g1, g2, r_setOff f2 hd, r_net f2 hd, r_limit f2 hd hc, r_paid f2 hd hc, r_claim f2 hd, v3 d hd.1 hd.2, v4 d hd.1 hd.2, v5 d hd.1 hd.2, i6]
    rw [pl_i hd, pl_i hd, pl_i hd, pl_i (by omega), pl_i (by omega), pl_i hd]
    by_cases w0 : w = 0
    · rw [if_pos w0, if_pos w0]
    by_cases w1 : w = 1
    · rw [if_neg w0, if_pos w1, if_neg w0, if_pos w1]
    by_cases w2 : w = 2
    · rw [if_neg w0, if_neg w1, if_pos w2, if_neg w0, if_neg w1, if_pos w2]
    by_cases w3 : w = 3
    · rw [if_neg w0, if_neg w1, if_neg w2, if_pos w3, if_neg w0, if_neg w1, if_neg w2, if_pos w3]
    by_cases w4 : w = 4
    · rw [if_neg w0, if_neg w1, if_neg w2, if_neg w3, if_pos w4, if_neg w0, if_neg w1, if_neg w2, if_neg w3, if_pos w4]
    by_cases w5 : w = 5
    · rw [if_neg w0, if_neg w1, if_neg w2, if_neg w3, if_neg w4, if_pos w5, if_neg w0, if_neg w1, if_neg w2, if_neg w3, if_neg w4, if_pos w5]
    by_cases w6 : w = 6
    · rw [if_neg w0, if_neg w1, if_neg w2, if_neg w3, if_neg w4, if_neg w5, if_pos w6, if_neg w0, if_neg w1, if_neg w2, if_neg w3, if_neg w4, if_neg w5, if_pos w6]
    by_cases w7 : w = 7
    · rw [if_neg w0, if_neg w1, if_neg w2, if_neg w3, if_neg w4, if_neg w5, if_neg w6, if_pos w7, if_neg w0, if_neg w1, if_neg w2, if_neg w3, if_neg w4, if_neg w5, if_neg w6, if_pos w7]
    by_cases w8 : w = 8
    · rw [if_neg w0, if_neg w1, if_neg w2, if_neg w3, if_neg w4, if_neg w5, if_neg w6, if_neg w7, if_pos w8, if_neg w0, if_neg w1, if_neg w2, if_neg w3, if_neg w4, if_neg w5, if_neg w6, if_neg w7, if_pos w8]
      rcases cI_01 D s d with z | z
      · rw [z, if_pos rfl]
      · rw [z, if_neg (by decide)]
    · rw [if_neg w0, if_neg w1, if_neg w2, if_neg w3, if_neg w4, if_neg w5, if_neg w6, if_neg w7, if_neg w8, if_neg w0, if_neg w1, if_neg w2, if_neg w3, if_neg w4, if_neg w5, if_neg w6, if_neg w7, if_neg w8]
  · rw [if_neg (show ¬ (0 ≤ d ∧ d ≤ sD D s - 1) by omega), if_neg (by decide), if_neg k]
theorem r_frozen (h : rS D s F) : pfX12_frozen pd_SH 5000 F 367 = some (cFz D s, F) := by
  have n2 := h.2.2.2.1.1.2.2.2.2
  have hs := h.2.2.2.2.1
  unfold pfX12_frozen
  refine pl_for (f := fun k (q : Int) i => pfX12_frozen_b4 pd_SH 5000 k F 367 q i) (P := fun i q => q = Sm (fun a => ci (lFl (D 381) (D 382) (D 383) 8 (5 + a)) (s a) 0) i ∧ 0 ≤ q ∧ q ≤ 9999999 * i) (N := D 371 0) (res := fun o => o = some (cFz D s, F)) ?_ ?_ 5000 0 0 (by omega) n2.1 (by omega) ⟨rfl, by omega, by omega⟩
  · intro k q i x y ⟨e, e1, e2⟩
    have b := hs i x y
    have hf := q_fails h x y
    refine Or.inl ⟨q + ci (lFl (D 381) (D 382) (D 383) 8 (5 + i)) (s i) 0, ⟨by rw [e, Sm_s x], ?_⟩, ?_⟩
    · rcases ci_o (lFl (D 381) (D 382) (D 383) 8 (5 + i)) (s i) 0 with z | z <;> rw [z.2] <;> omega
    · show pfX12_frozen_b4 pd_SH 5000 (k + 1) F 367 q i = pfX12_frozen_b4 pd_SH 5000 k F 367 _ (i + 1)
      rcases Classical.em (lFl (D 381) (D 382) (D 383) 8 (5 + i)) with z | z
      · rw [ci_t z] at hf ⊢
        simp (disch := omega) only [pfX12_frozen_b4, pfX12_frozen_b37, pl_l, pl_b, pl_iT, pl_t, pl_f, gx_367, gx_368, gx_369, gx_370, gx_371, gx_372, gx_373, gx_374, gx_375, gx_376, gx_377, gx_378, gx_379, gx_380, gx_381, gx_382, gx_383, gx_384, gx_385, gx_386, gx_387, gx_388, gx_389, gx_390, gx_391, gx_392, gx_393, gx_394, gx_395, gx_396, gx_397, gx_398, gx_399, gx_400, gx_401, gx_402, gx_403, gn_368, gn_369, gn_370, gn_371, gn_372, gn_373, gn_374, gn_375, gn_376, gn_377, gn_378, gn_379, gn_380, gn_381, gn_382, gn_383, gn_384, gn_385, gn_386, gn_387, gn_388, gn_389, gn_390, gn_391, gn_392, gn_393, gn_394, gn_395, gn_396, gn_397, gn_398, gn_399, gn_400, gn_401, gn_402, gn_403, lm_1 h.1, lm_14 h.1, lm_15 h.1, lm_16 h.1, lm_17 h.1, lm_18 h.1, lm_19 h.1, lm_20 h.1, lm_21 h.1, lm_22 h.1, lm_23 h.1, lm_24 h.1, lm_25 h.1, lm_26 h.1, lm_27 h.1, lm_28 h.1, lm_29 h.1, lm_30 h.1, lm_31 h.1, lm_32 h.1, lm_33 h.1, lm_34 h.1, lm_35 h.1, lm_36 h.1, lm_37 h.1, lm_39 h.1, lm_40 h.1, lm_42 h.1, lm_43 h.1, lm_44 h.1, lm_45 h.1, lm_47 h.1, lm_48 h.1, lm_49 h.1, lm_50 h.1, lm_51 h.1, h.2.2.1, h.2.1 371 (by decide) (by decide), r_listOf (G := F) (a := i) (by omega), hf, pl_i, pl_w, pl_W, if_pos, if_neg]
      · rw [ci_f z] at hf ⊢
        simp (disch := omega) only [pfX12_frozen_b4, pfX12_frozen_b37, pl_l, pl_b, pl_iT, pl_t, pl_f, gx_367, gx_368, gx_369, gx_370, gx_371, gx_372, gx_373, gx_374, gx_375, gx_376, gx_377, gx_378, gx_379, gx_380, gx_381, gx_382, gx_383, gx_384, gx_385, gx_386, gx_387, gx_388, gx_389, gx_390, gx_391, gx_392, gx_393, gx_394, gx_395, gx_396, gx_397, gx_398, gx_399, gx_400, gx_401, gx_402, gx_403, gn_368, gn_369, gn_370, gn_371, gn_372, gn_373, gn_374, gn_375, gn_376, gn_377, gn_378, gn_379, gn_380, gn_381, gn_382, gn_383, gn_384, gn_385, gn_386, gn_387, gn_388, gn_389, gn_390, gn_391, gn_392, gn_393, gn_394, gn_395, gn_396, gn_397, gn_398, gn_399, gn_400, gn_401, gn_402, gn_403, lm_1 h.1, lm_14 h.1, lm_15 h.1, lm_16 h.1, lm_17 h.1, lm_18 h.1, lm_19 h.1, lm_20 h.1, lm_21 h.1, lm_22 h.1, lm_23 h.1, lm_24 h.1, lm_25 h.1, lm_26 h.1, lm_27 h.1, lm_28 h.1, lm_29 h.1, lm_30 h.1, lm_31 h.1, lm_32 h.1, lm_33 h.1, lm_34 h.1, lm_35 h.1, lm_36 h.1, lm_37 h.1, lm_39 h.1, lm_40 h.1, lm_42 h.1, lm_43 h.1, lm_44 h.1, lm_45 h.1, lm_47 h.1, lm_48 h.1, lm_49 h.1, lm_50 h.1, lm_51 h.1, h.2.2.1, h.2.1 371 (by decide) (by decide), r_listOf (G := F) (a := i) (by omega), hf, pl_i, pl_w, pl_W, if_pos, if_neg]
  · intro k q ⟨e, e1, e2⟩
    show pfX12_frozen_b4 pd_SH 5000 (k + 1) F 367 q _ = _
    simp (disch := omega) only [pfX12_frozen_b4, pl_l, pl_b, pl_iT, pl_t, pl_f, gx_367, gx_368, gx_369, gx_370, gx_371, gx_372, gx_373, gx_374, gx_375, gx_376, gx_377, gx_378, gx_379, gx_380, gx_381, gx_382, gx_383, gx_384, gx_385, gx_386, gx_387, gx_388, gx_389, gx_390, gx_391, gx_392, gx_393, gx_394, gx_395, gx_396, gx_397, gx_398, gx_399, gx_400, gx_401, gx_402, gx_403, gn_368, gn_369, gn_370, gn_371, gn_372, gn_373, gn_374, gn_375, gn_376, gn_377, gn_378, gn_379, gn_380, gn_381, gn_382, gn_383, gn_384, gn_385, gn_386, gn_387, gn_388, gn_389, gn_390, gn_391, gn_392, gn_393, gn_394, gn_395, gn_396, gn_397, gn_398, gn_399, gn_400, gn_401, gn_402, gn_403, lm_1 h.1, lm_14 h.1, lm_15 h.1, lm_16 h.1, lm_17 h.1, lm_18 h.1, lm_19 h.1, lm_20 h.1, lm_21 h.1, lm_22 h.1, lm_23 h.1, lm_24 h.1, lm_25 h.1, lm_26 h.1, lm_27 h.1, lm_28 h.1, lm_29 h.1, lm_30 h.1, lm_31 h.1, lm_32 h.1, lm_33 h.1, lm_34 h.1, lm_35 h.1, lm_36 h.1, lm_37 h.1, lm_39 h.1, lm_40 h.1, lm_42 h.1, lm_43 h.1, lm_44 h.1, lm_45 h.1, lm_47 h.1, lm_48 h.1, lm_49 h.1, lm_50 h.1, lm_51 h.1, h.2.1 371 (by decide) (by decide), pl_i, pl_w, if_pos, if_neg]
    rw [e]; rfl
theorem aTm_bd (hb : bOk D) (hs : aOk D s) (w d : Int) : 0 ≤ aTm D s w d ∧ aTm D s w d ≤ 1199999880 := by
  have a := cNt_bd hb hs d
  have b := cPd_bd hb hs d hs.2.2.2.1.1
  have c := cCl_bd hb hs d
  have e := sHas_bd hb hs d
  unfold aTm
  repeat' split
  all_goals omega
theorem q_all (h : rS D s F) {w : Int} : ∃ F', pfX12_all pd_SH 5000 F 367 w = some (aAll D s w, F') ∧ pd_Ly F' ∧ qF F F' := by
  have h' := h.th 0
  obtain ⟨G, f1, f2, f3, f4⟩ := q_lays h'
  have n := sD_12 (s := s) h.2.2.2.1
  obtain ⟨g1, g2, ⟨v1, v2, v3, v4, v5, v6⟩, hb, hs⟩ := id f2
  have fr := (qF.th F 0).tr f4.q
  unfold pfX12_all aAll
  simp only [pl_l, pl_b, pl_iT, pl_t, pl_f, gx_367, gx_368, gx_369, gx_370, gx_371, gx_372, gx_373, gx_374, gx_375, gx_376, gx_377, gx_378, gx_379, gx_380, gx_381, gx_382, gx_383, gx_384, gx_385, gx_386, gx_387, gx_388, gx_389, gx_390, gx_391, gx_392, gx_393, gx_394, gx_395, gx_396, gx_397, gx_398, gx_399, gx_400, gx_401, gx_402, gx_403, gn_368, gn_369, gn_370, gn_371, gn_372, gn_373, gn_374, gn_375, gn_376, gn_377, gn_378, gn_379, gn_380, gn_381, gn_382, gn_383, gn_384, gn_385, gn_386, gn_387, gn_388, gn_389, gn_390, gn_391, gn_392, gn_393, gn_394, gn_395, gn_396, gn_397, gn_398, gn_399, gn_400, gn_401, gn_402, gn_403, r_within]
  by_cases k : 0 ≤ w ∧ w ≤ 6
  · rw [if_pos k, if_pos (by decide), if_pos k, f1]
    simp only [pl_l, pl_b, pl_iT, pl_t, pl_f, r_frozen f3, v1]
    refine ⟨G, ?_, f3.1, fr⟩
    by_cases w4 : w = 4
    · rw [if_neg (fun z => z w4), if_pos w4]
    rw [if_pos w4, if_neg w4]
    by_cases w5 : w = 5
    · rw [if_neg (fun z => z w5), if_pos w5]
    rw [if_pos w5, if_neg w5]
    refine pl_for (f := fun j (q : Int) i => pfX12_all_b51 pd_SH 5000 j G 367 w q i) (P := fun i q => q = Sm (aTm D s w) i) (N := sD D s) (res := fun o => o = some (Sm (aTm D s w) (sD D s), G)) ?_ ?_ 5000 0 0 (by omega) n.1 (by omega) rfl
    · intro j q i x y e
      have bd := Sm_bd (f := aTm D s w) (lo := 0) (hi := 1199999880) x (fun d _ _ => aTm_bd hb hs w d)
      have b1 := aTm_bd hb hs w i
      have hd : 0 ≤ i ∧ i < 12 := by omega
      have hc : 0 ≤ s 72 ∧ s 72 ≤ 10000000000000 := by have := hs.2.2.2.1; omega
      refine Or.inl ⟨q + aTm D s w i, by rw [e, Sm_s x], ?_⟩
      show pfX12_all_b51 pd_SH 5000 (j + 1) G 367 w q i = pfX12_all_b51 pd_SH 5000 j G 367 w _ (i + 1)
      by_cases w0 : w = 0
      · have ea : aTm D s w i = sHas D s i := by unfold aTm; rw [if_pos w0]
        rw [ea] at b1 ⊢
        simp (disch := omega) only [pfX12_all_b51, pfX12_all_b141, pl_l, pl_b, pl_iT, pl_t, pl_f, gx_367, gx_368, gx_369, gx_370, gx_371, gx_372, gx_373, gx_374, gx_375, gx_376, gx_377, gx_378, gx_379, gx_380, gx_381, gx_382, gx_383, gx_384, gx_385, gx_386, gx_387, gx_388, gx_389, gx_390, gx_391, gx_392, gx_393, gx_394, gx_395, gx_396, gx_397, gx_398, gx_399, gx_400, gx_401, gx_402, gx_403, gn_368, gn_369, gn_370, gn_371, gn_372, gn_373, gn_374, gn_375, gn_376, gn_377, gn_378, gn_379, gn_380, gn_381, gn_382, gn_383, gn_384, gn_385, gn_386, gn_387, gn_388, gn_389, gn_390, gn_391, gn_392, gn_393, gn_394, gn_395, gn_396, gn_397, gn_398, gn_399, gn_400, gn_401, gn_402, gn_403, lm_1 g1, lm_14 g1, lm_15 g1, lm_16 g1, lm_17 g1, lm_18 g1, lm_19 g1, lm_20 g1, lm_21 g1, lm_22 g1, lm_23 g1, lm_24 g1, lm_25 g1, lm_26 g1, lm_27 g1, lm_28 g1, lm_29 g1, lm_30 g1, lm_31 g1, lm_32 g1, lm_33 g1, lm_34 g1, lm_35 g1, lm_36 g1, lm_37 g1, lm_39 g1, lm_40 g1, lm_42 g1, lm_43 g1, lm_44 g1, lm_45 g1, lm_47 g1, lm_48 g1, lm_49 g1, lm_50 g1, lm_51 g1, v1, v3 i hd.1 hd.2, pl_i, pl_w, pl_W, if_pos, if_neg]
      by_cases w1 : w = 1
      · have ea : aTm D s w i = cSo D s i := by unfold aTm; rw [if_neg w0, if_pos w1]
        rw [ea] at b1 ⊢
        simp (disch := omega) only [pfX12_all_b51, pfX12_all_b141, pl_l, pl_b, pl_iT, pl_t, pl_f, gx_367, gx_368, gx_369, gx_370, gx_371, gx_372, gx_373, gx_374, gx_375, gx_376, gx_377, gx_378, gx_379, gx_380, gx_381, gx_382, gx_383, gx_384, gx_385, gx_386, gx_387, gx_388, gx_389, gx_390, gx_391, gx_392, gx_393, gx_394, gx_395, gx_396, gx_397, gx_398, gx_399, gx_400, gx_401, gx_402, gx_403, gn_368, gn_369, gn_370, gn_371, gn_372, gn_373, gn_374, gn_375, gn_376, gn_377, gn_378, gn_379, gn_380, gn_381, gn_382, gn_383, gn_384, gn_385, gn_386, gn_387, gn_388, gn_389, gn_390, gn_391, gn_392, gn_393, gn_394, gn_395, gn_396, gn_397, gn_398, gn_399, gn_400, gn_401, gn_402, gn_403, lm_1 g1, lm_14 g1, lm_15 g1, lm_16 g1, lm_17 g1, lm_18 g1, lm_19 g1, lm_20 g1, lm_21 g1, lm_22 g1, lm_23 g1, lm_24 g1, lm_25 g1, lm_26 g1, lm_27 g1, lm_28 g1, lm_29 g1, lm_30 g1, lm_31 g1, lm_32 g1, lm_33 g1, lm_34 g1, lm_35 g1, lm_36 g1, lm_37 g1, lm_39 g1, lm_40 g1, lm_42 g1, lm_43 g1, lm_44 g1, lm_45 g1, lm_47 g1, lm_48 g1, lm_49 g1, lm_50 g1, lm_51 g1, v1, r_setOff f2 hd, pl_i, pl_w, pl_W, if_pos, if_neg]
      by_cases w2 : w = 2
      · have ea : aTm D s w i = cPd D s i (s 72) := by unfold aTm; rw [if_neg w0, if_neg w1, if_pos w2]
        rw [ea] at b1 ⊢
        simp (disch := omega) only [pfX12_all_b51, pfX12_all_b141, pl_l, pl_b, pl_iT, pl_t, pl_f, gx_367, gx_368, gx_369, gx_370, gx_371, gx_372, gx_373, gx_374, gx_375, gx_376, gx_377, gx_378, gx_379, gx_380, gx_381, gx_382, gx_383, gx_384, gx_385, gx_386, gx_387, gx_388, gx_389, gx_390, gx_391, gx_392, gx_393, gx_394, gx_395, gx_396, gx_397, gx_398, gx_399, gx_400, gx_401, gx_402, gx_403, gn_368, gn_369, gn_370, gn_371, gn_372, gn_373, gn_374, gn_375, gn_376, gn_377, gn_378, gn_379, gn_380, gn_381, gn_382, gn_383, gn_384, gn_385, gn_386, gn_387, gn_388, gn_389, gn_390, gn_391, gn_392, gn_393, gn_394, gn_395, gn_396, gn_397, gn_398, gn_399, gn_400, gn_401, gn_402, gn_403, lm_1 g1, lm_14 g1, lm_15 g1, lm_16 g1, lm_17 g1, lm_18 g1, lm_19 g1, lm_20 g1, lm_21 g1, lm_22 g1, lm_23 g1, lm_24 g1, lm_25 g1, lm_26 g1, lm_27 g1, lm_28 g1, lm_29 g1, lm_30 g1, lm_31 g1, lm_32 g1, lm_33 g1, lm_34 g1, lm_35 g1, lm_36 g1, lm_37 g1, lm_39 g1, lm_40 g1, lm_42 g1, lm_43 g1, lm_44 g1, lm_45 g1, lm_47 g1, lm_48 g1, lm_49 g1, lm_50 g1, lm_51 g1, v1, g2, r_paid f2 hd hc, pl_i, pl_w, pl_W, if_pos, if_neg]
      by_cases w3 : w = 3
      · have ea : aTm D s w i = cCl D s i := by unfold aTm; rw [if_neg w0, if_neg w1, if_neg w2, if_pos w3]
        rw [ea] at b1 ⊢
        simp (disch := omega) only [pfX12_all_b51, pfX12_all_b141, pl_l, pl_b, pl_iT, pl_t, pl_f, gx_367, gx_368, gx_369, gx_370, gx_371, gx_372, gx_373, gx_374, gx_375, gx_376, gx_377, gx_378, gx_379, gx_380, gx_381, gx_382, gx_383, gx_384, gx_385, gx_386, gx_387, gx_388, gx_389, gx_390, gx_391, gx_392, gx_393, gx_394, gx_395, gx_396, gx_397, gx_398, gx_399, gx_400, gx_401, gx_402, gx_403, gn_368, gn_369, gn_370, gn_371, gn_372, gn_373, gn_374, gn_375, gn_376, gn_377, gn_378, gn_379, gn_380, gn_381, gn_382, gn_383, gn_384, gn_385, gn_386, gn_387, gn_388, gn_389, gn_390, gn_391, gn_392, gn_393, gn_394, gn_395, gn_396, gn_397, gn_398, gn_399, gn_400, gn_401, gn_402, gn_403, lm_1 g1, lm_14 g1, lm_15 g1, lm_16 g1, lm_17 g1, lm_18 g1, lm_19 g1, lm_20 g1, lm_21 g1, lm_22 g1, lm_23 g1, lm_24 g1, lm_25 g1, lm_26 g1, lm_27 g1, lm_28 g1, lm_29 g1, lm_30 g1, lm_31 g1, lm_32 g1, lm_33 g1, lm_34 g1, lm_35 g1, lm_36 g1, lm_37 g1, lm_39 g1, lm_40 g1, lm_42 g1, lm_43 g1, lm_44 g1, lm_45 g1, lm_47 g1, lm_48 g1, lm_49 g1, lm_50 g1, lm_51 g1, v1, r_claim f2 hd, pl_i, pl_w, pl_W, if_pos, if_neg]
      · have ea : aTm D s w i = if cCl D s i ≤ 0 then 0 else 1 := by unfold aTm; rw [if_neg w0, if_neg w1, if_neg w2, if_neg w3]
        rw [ea] at b1 ⊢
        by_cases z : cCl D s i ≤ 0
        · simp (disch := omega) only [pfX12_all_b51, pfX12_all_b141, pl_l, pl_b, pl_iT, pl_t, pl_f, gx_367, gx_368, gx_369, gx_370, gx_371, gx_372, gx_373, gx_374, gx_375, gx_376, gx_377, gx_378, gx_379, gx_380, gx_381, gx_382, gx_383, gx_384, gx_385, gx_386, gx_387, gx_388, gx_389, gx_390, gx_391, gx_392, gx_393, gx_394, gx_395, gx_396, gx_397, gx_398, gx_399, gx_400, gx_401, gx_402, gx_403, gn_368, gn_369, gn_370, gn_371, gn_372, gn_373, gn_374, gn_375, gn_376, gn_377, gn_378, gn_379, gn_380, gn_381, gn_382, gn_383, gn_384, gn_385, gn_386, gn_387, gn_388, gn_389, gn_390, gn_391, gn_392, gn_393, gn_394, gn_395, gn_396, gn_397, gn_398, gn_399, gn_400, gn_401, gn_402, gn_403, lm_1 g1, lm_14 g1, lm_15 g1, lm_16 g1, lm_17 g1, lm_18 g1, lm_19 g1, lm_20 g1, lm_21 g1, lm_22 g1, lm_23 g1, lm_24 g1, lm_25 g1, lm_26 g1, lm_27 g1, lm_28 g1, lm_29 g1, lm_30 g1, lm_31 g1, lm_32 g1, lm_33 g1, lm_34 g1, lm_35 g1, lm_36 g1, lm_37 g1, lm_39 g1, lm_40 g1, lm_42 g1, lm_43 g1, lm_44 g1, lm_45 g1, lm_47 g1, lm_48 g1, lm_49 g1, lm_50 g1, lm_51 g1, v1, r_claim f2 hd, pl_i, pl_w, pl_W, if_pos, if_neg]
        · simp (disch := omega) only [pfX12_all_b51, pfX12_all_b141, pl_l, pl_b, pl_iT, pl_t, pl_f, gx_367, gx_368, gx_369, gx_370, gx_371, gx_372, gx_373, gx_374, gx_375, gx_376, gx_377, gx_378, gx_379, gx_380, gx_381, gx_382, gx_383, gx_384, gx_385, gx_386, gx_387, gx_388, gx_389, gx_390, gx_391, gx_392, gx_393, gx_394, gx_395, gx_396, gx_397, gx_398, gx_399, gx_400, gx_401, gx_402, gx_403, gn_368, gn_369, gn_370, gn_371, gn_372, gn_373, gn_374, gn_375, gn_376, gn_377, gn_378, gn_379, gn_380, gn_381, gn_382, gn_383, gn_384, gn_385, gn_386, gn_387, gn_388, gn_389, gn_390, gn_391, gn_392, gn_393, gn_394, gn_395, gn_396, gn_397, gn_398, gn_399, gn_400, gn_401, gn_402, gn_403, lm_1 g1, lm_14 g1, lm_15 g1, lm_16 g1, lm_17 g1, lm_18 g1, lm_19 g1, lm_20 g1, lm_21 g1, lm_22 g1, lm_23 g1, lm_24 g1, lm_25 g1, lm_26 g1, lm_27 g1, lm_28 g1, lm_29 g1, lm_30 g1, lm_31 g1, lm_32 g1, lm_33 g1, lm_34 g1, lm_35 g1, lm_36 g1, lm_37 g1, lm_39 g1, lm_40 g1, lm_42 g1, lm_43 g1, lm_44 g1, lm_45 g1, lm_47 g1, lm_48 g1, lm_49 g1, lm_50 g1, lm_51 g1, v1, r_claim f2 hd, pl_i, pl_w, pl_W, if_pos, if_neg]
    · intro j q e
      show pfX12_all_b51 pd_SH 5000 (j + 1) G 367 w q _ = _
      simp (disch := omega) only [pfX12_all_b51, pl_l, pl_b, pl_iT, pl_t, pl_f, gx_367, gx_368, gx_369, gx_370, gx_371, gx_372, gx_373, gx_374, gx_375, gx_376, gx_377, gx_378, gx_379, gx_380, gx_381, gx_382, gx_383, gx_384, gx_385, gx_386, gx_387, gx_388, gx_389, gx_390, gx_391, gx_392, gx_393, gx_394, gx_395, gx_396, gx_397, gx_398, gx_399, gx_400, gx_401, gx_402, gx_403, gn_368, gn_369, gn_370, gn_371, gn_372, gn_373, gn_374, gn_375, gn_376, gn_377, gn_378, gn_379, gn_380, gn_381, gn_382, gn_383, gn_384, gn_385, gn_386, gn_387, gn_388, gn_389, gn_390, gn_391, gn_392, gn_393, gn_394, gn_395, gn_396, gn_397, gn_398, gn_399, gn_400, gn_401, gn_402, gn_403, v1, if_pos, if_neg]
      rw [e]
  · rw [if_neg k, if_neg (by decide), if_neg k]
    exact ⟨_, rfl, h'.1, qF.th F 0⟩
theorem r_placeOf {G : pd_F} (w : rW D s G) {d : Int} (hd : 0 ≤ d ∧ d < 12) : pfX12_placeOf pd_SH 5000 G 367 d = some (cPl D s d, G) := by
  obtain ⟨g1, g2, ⟨v1, v2, v3, v4, v5, v6⟩, hb, hs⟩ := id w
  have n := sD_12 (s := s) hb
  unfold pfX12_placeOf
  refine pl_for (f := fun k (q : Int) i => pfX12_placeOf_b4 pd_SH 5000 k G 367 d q i) (P := fun i q => q = Sm (fun o => if cCl D s o > cCl D s d ∨ (cCl D s o = cCl D s d ∧ o < d) then 1 else 0) i ∧ 0 ≤ q ∧ q ≤ i) (N := sD D s) (res := fun o => o = some (cPl D s d, G)) ?_ ?_ 5000 0 0 (by omega) n.1 (by omega) ⟨rfl, by omega, by omega⟩
  · intro k q i x y ⟨e, e1, e2⟩
    refine Or.inl ⟨q + (if cCl D s i > cCl D s d ∨ (cCl D s i = cCl D s d ∧ i < d) then 1 else 0), ⟨by rw [e, Sm_s x], by split <;> omega, by split <;> omega⟩, ?_⟩
    show pfX12_placeOf_b4 pd_SH 5000 (k + 1) G 367 d q i = pfX12_placeOf_b4 pd_SH 5000 k G 367 d _ (i + 1)
    have c1 := r_claim w (show 0 ≤ i ∧ i < 12 by omega)
    have c2 := r_claim w hd
    by_cases z1 : cCl D s i > cCl D s d
    · rw [if_pos (Or.inl z1)]
      simp (disch := omega) only [pfX12_placeOf_b4, pfX12_placeOf_b46, pfX12_placeOf_b50, pfX12_placeOf_b51, pl_l, pl_b, pl_iT, pl_t, pl_f, gx_367, gx_368, gx_369, gx_370, gx_371, gx_372, gx_373, gx_374, gx_375, gx_376, gx_377, gx_378, gx_379, gx_380, gx_381, gx_382, gx_383, gx_384, gx_385, gx_386, gx_387, gx_388, gx_389, gx_390, gx_391, gx_392, gx_393, gx_394, gx_395, gx_396, gx_397, gx_398, gx_399, gx_400, gx_401, gx_402, gx_403, gn_368, gn_369, gn_370, gn_371, gn_372, gn_373, gn_374, gn_375, gn_376, gn_377, gn_378, gn_379, gn_380, gn_381, gn_382, gn_383, gn_384, gn_385, gn_386, gn_387, gn_388, gn_389, gn_390, gn_391, gn_392, gn_393, gn_394, gn_395, gn_396, gn_397, gn_398, gn_399, gn_400, gn_401, gn_402, gn_403, v1, c1, c2, pl_i, pl_w, if_pos, if_neg]
    by_cases z2 : cCl D s i = cCl D s d
    · by_cases z3 : i < d
      · rw [if_pos (Or.inr ⟨z2, z3⟩)]
        simp (disch := omega) only [pfX12_placeOf_b4, pfX12_placeOf_b46, pfX12_placeOf_b50, pfX12_placeOf_b51, pl_l, pl_b, pl_iT, pl_t, pl_f, gx_367, gx_368, gx_369, gx_370, gx_371, gx_372, gx_373, gx_374, gx_375, gx_376, gx_377, gx_378, gx_379, gx_380, gx_381, gx_382, gx_383, gx_384, gx_385, gx_386, gx_387, gx_388, gx_389, gx_390, gx_391, gx_392, gx_393, gx_394, gx_395, gx_396, gx_397, gx_398, gx_399, gx_400, gx_401, gx_402, gx_403, gn_368, gn_369, gn_370, gn_371, gn_372, gn_373, gn_374, gn_375, gn_376, gn_377, gn_378, gn_379, gn_380, gn_381, gn_382, gn_383, gn_384, gn_385, gn_386, gn_387, gn_388, gn_389, gn_390, gn_391, gn_392, gn_393, gn_394, gn_395, gn_396, gn_397, gn_398, gn_399, gn_400, gn_401, gn_402, gn_403, v1, c1, c2, pl_i, pl_w, if_pos, if_neg]
      · rw [if_neg (by omega)]
        simp (disch := omega) only [pfX12_placeOf_b4, pfX12_placeOf_b46, pfX12_placeOf_b50, pfX12_placeOf_b51, pl_l, pl_b, pl_iT, pl_t, pl_f, gx_367, gx_368, gx_369, gx_370, gx_371, gx_372, gx_373, gx_374, gx_375, gx_376, gx_377, gx_378, gx_379, gx_380, gx_381, gx_382, gx_383, gx_384, gx_385, gx_386, gx_387, gx_388, gx_389, gx_390, gx_391, gx_392, gx_393, gx_394, gx_395, gx_396, gx_397, gx_398, gx_399, gx_400, gx_401, gx_402, gx_403, gn_368, gn_369, gn_370, gn_371, gn_372, gn_373, gn_374, gn_375, gn_376, gn_377, gn_378, gn_379, gn_380, gn_381, gn_382, gn_383, gn_384, gn_385, gn_386, gn_387, gn_388, gn_389, gn_390, gn_391, gn_392, gn_393, gn_394, gn_395, gn_396, gn_397, gn_398, gn_399, gn_400, gn_401, gn_402, gn_403, v1, c1, c2, pl_i, pl_w, if_pos, if_neg]
    · rw [if_neg (by omega)]
      simp (disch := omega) only [pfX12_placeOf_b4, pfX12_placeOf_b46, pfX12_placeOf_b50, pfX12_placeOf_b51, pl_l, pl_b, pl_iT, pl_t, pl_f, gx_367, gx_368, gx_369, gx_370, gx_371, gx_372, gx_373, gx_374, gx_375, gx_376, gx_377, gx_378, gx_379, gx_380, gx_381, gx_382, gx_383, gx_384, gx_385, gx_386, gx_387, gx_388, gx_389, gx_390, gx_391, gx_392, gx_393, gx_394, gx_395, gx_396, gx_397, gx_398, gx_399, gx_400, gx_401, gx_402, gx_403, gn_368, gn_369, gn_370, gn_371, gn_372, gn_373, gn_374, gn_375, gn_376, gn_377, gn_378, gn_379, gn_380, gn_381, gn_382, gn_383, gn_384, gn_385, gn_386, gn_387, gn_388, gn_389, gn_390, gn_391, gn_392, gn_393, gn_394, gn_395, gn_396, gn_397, gn_398, gn_399, gn_400, gn_401, gn_402, gn_403, v1, c1, c2, pl_i, pl_w, if_pos, if_neg]
  · intro k q ⟨e, e1, e2⟩
    show pfX12_placeOf_b4 pd_SH 5000 (k + 1) G 367 d q _ = _
    simp (disch := omega) only [pfX12_placeOf_b4, pl_l, pl_b, pl_iT, pl_t, pl_f, gx_367, gx_368, gx_369, gx_370, gx_371, gx_372, gx_373, gx_374, gx_375, gx_376, gx_377, gx_378, gx_379, gx_380, gx_381, gx_382, gx_383, gx_384, gx_385, gx_386, gx_387, gx_388, gx_389, gx_390, gx_391, gx_392, gx_393, gx_394, gx_395, gx_396, gx_397, gx_398, gx_399, gx_400, gx_401, gx_402, gx_403, gn_368, gn_369, gn_370, gn_371, gn_372, gn_373, gn_374, gn_375, gn_376, gn_377, gn_378, gn_379, gn_380, gn_381, gn_382, gn_383, gn_384, gn_385, gn_386, gn_387, gn_388, gn_389, gn_390, gn_391, gn_392, gn_393, gn_394, gn_395, gn_396, gn_397, gn_398, gn_399, gn_400, gn_401, gn_402, gn_403, v1, if_pos, if_neg]
    rw [e]; rfl
theorem q_ranked (h : rS D s F) {k : Int} : ∃ F' v, pfX12_ranked pd_SH 5000 F 367 k = some (v, F') ∧ pd_Ly F' ∧ qF F F' ∧ aRk D s k v := by
  have h' := h.th 0
  obtain ⟨G, f1, f2, f3, f4⟩ := q_lays h'
  have n := sD_12 (s := s) h.2.2.2.1
  have v1 := f2.2.2.1.1
  have fr := (qF.th F 0).tr f4.q
  unfold pfX12_ranked
  simp only [pl_l, pl_b, pl_iT, pl_t, pl_f, gx_367, gx_368, gx_369, gx_370, gx_371, gx_372, gx_373, gx_374, gx_375, gx_376, gx_377, gx_378, gx_379, gx_380, gx_381, gx_382, gx_383, gx_384, gx_385, gx_386, gx_387, gx_388, gx_389, gx_390, gx_391, gx_392, gx_393, gx_394, gx_395, gx_396, gx_397, gx_398, gx_399, gx_400, gx_401, gx_402, gx_403, gn_368, gn_369, gn_370, gn_371, gn_372, gn_373, gn_374, gn_375, gn_376, gn_377, gn_378, gn_379, gn_380, gn_381, gn_382, gn_383, gn_384, gn_385, gn_386, gn_387, gn_388, gn_389, gn_390, gn_391, gn_392, gn_393, gn_394, gn_395, gn_396, gn_397, gn_398, gn_399, gn_400, gn_401, gn_402, gn_403, f1]
  rcases pl_find (f := fun j i => pfX12_ranked_b11 pd_SH 5000 j G 367 k i) (Q := fun i => cPl D s i = k) (hit := fun i => some (i, G)) (miss := some (-1, G)) (N := sD D s) n.1 (fun j i a b c => by
      show pfX12_ranked_b11 pd_SH 5000 (j + 1) G 367 k i = _
      simp (disch := omega) only [pfX12_ranked_b11, pl_l, pl_b, pl_iT, pl_t, pl_f, gx_367, gx_368, gx_369, gx_370, gx_371, gx_372, gx_373, gx_374, gx_375, gx_376, gx_377, gx_378, gx_379, gx_380, gx_381, gx_382, gx_383, gx_384, gx_385, gx_386, gx_387, gx_388, gx_389, gx_390, gx_391, gx_392, gx_393, gx_394, gx_395, gx_396, gx_397, gx_398, gx_399, gx_400, gx_401, gx_402, gx_403, gn_368, gn_369, gn_370, gn_371, gn_372, gn_373, gn_374, gn_375, gn_376, gn_377, gn_378, gn_379, gn_380, gn_381, gn_382, gn_383, gn_384, gn_385, gn_386, gn_387, gn_388, gn_389, gn_390, gn_391, gn_392, gn_393, gn_394, gn_395, gn_396, gn_397, gn_398, gn_399, gn_400, gn_401, gn_402, gn_403, v1, r_placeOf f2 (show 0 ≤ i ∧ i < 12 by omega), pl_w, if_pos, if_neg]) (fun j i a b c => by
      show pfX12_ranked_b11 pd_SH 5000 (j + 1) G 367 k i = _
      simp (disch := omega) only [pfX12_ranked_b11, pl_l, pl_b, pl_iT, pl_t, pl_f, gx_367, gx_368, gx_369, gx_370, gx_371, gx_372, gx_373, gx_374, gx_375, gx_376, gx_377, gx_378, gx_379, gx_380, gx_381, gx_382, gx_383, gx_384, gx_385, gx_386, gx_387, gx_388, gx_389, gx_390, gx_391, gx_392, gx_393, gx_394, gx_395, gx_396, gx_397, gx_398, gx_399, gx_400, gx_401, gx_402, gx_403, gn_368, gn_369, gn_370, gn_371, gn_372, gn_373, gn_374, gn_375, gn_376, gn_377, gn_378, gn_379, gn_380, gn_381, gn_382, gn_383, gn_384, gn_385, gn_386, gn_387, gn_388, gn_389, gn_390, gn_391, gn_392, gn_393, gn_394, gn_395, gn_396, gn_397, gn_398, gn_399, gn_400, gn_401, gn_402, gn_403, v1, r_placeOf f2 (show 0 ≤ i ∧ i < 12 by omega), pl_w, if_pos, if_neg]) (fun j => by
      show pfX12_ranked_b11 pd_SH 5000 (j + 1) G 367 k _ = _
      simp (disch := omega) only [pfX12_ranked_b11, pl_l, pl_b, pl_iT, pl_t, pl_f, gx_367, gx_368, gx_369, gx_370, gx_371, gx_372, gx_373, gx_374, gx_375, gx_376, gx_377, gx_378, gx_379, gx_380, gx_381, gx_382, gx_383, gx_384, gx_385, gx_386, gx_387, gx_388, gx_389, gx_390, gx_391, gx_392, gx_393, gx_394, gx_395, gx_396, gx_397, gx_398, gx_399, gx_400, gx_401, gx_402, gx_403, gn_368, gn_369, gn_370, gn_371, gn_372, gn_373, gn_374, gn_375, gn_376, gn_377, gn_378, gn_379, gn_380, gn_381, gn_382, gn_383, gn_384, gn_385, gn_386, gn_387, gn_388, gn_389, gn_390, gn_391, gn_392, gn_393, gn_394, gn_395, gn_396, gn_397, gn_398, gn_399, gn_400, gn_401, gn_402, gn_403, v1, if_pos, if_neg]) 5000 (by omega) with ⟨i, a, b, c, e, f⟩ | ⟨e, f⟩
  · exact ⟨G, i, f, f3.1, fr, Or.inl ⟨a, b, c, e⟩⟩
  · exact ⟨G, -1, f, f3.1, fr, Or.inr ⟨e, rfl⟩⟩
theorem r_estateOf {G : pd_F} (w : rW D s G) {m d : Int} (hd : 0 ≤ d ∧ d < sD D s) (hm : 0 ≤ m ∧ m ≤ 99999999) : pfX12_estateOf pd_SH 5000 G 367 m d = some (aEs D s m d, G) := by
  obtain ⟨g1, g2, ⟨v1, v2, v3, v4, v5, v6⟩, hb, hs⟩ := id w
  have n := sD_12 (s := s) hb
  have hd2 : 0 ≤ d ∧ d < 12 := by omega
  have bP : 0 ≤ cPU D s (s 72) ∧ cPU D s (s 72) ≤ 1199999880 * sD D s := cPU_bd hb hs hs.2.2.2.1.1 n.1
  have b0 := cCn_bd hb hs (w := 0) n.1
  have b1 := cCn_bd hb hs (w := 1) n.1
  have i6 := v6 d hd2.1 hd2.2
  rw [show ci (sIn D s d) 1 0 = cI D s d from rfl] at i6
  have k0 := r_rank0 w
  have k1 := r_rank w (r := 1) (x := 0) (Or.inl ⟨rfl, rfl⟩)
  have k2 := r_rank w (r := 2) (x := 1) (Or.inr ⟨rfl, rfl⟩)
  have kc := r_claim w hd2
  have bc := cCl_bd hb hs d
  -- the sharing out
  have l87 : ∀ (left x : Int), cI D s d = x → 0 < left → left ≤ 99999999 → left < cCn D s x (sD D s) → pfX12_estateOf_b87 pd_SH 5000 5000 G 367 d left (cCn D s x (sD D s)) 0 0 = some (Int.tdiv (left * (cCn D s x d + cCl D s d)) (cCn D s x (sD D s)) - Int.tdiv (left * cCn D s x d) (cCn D s x (sD D s)), G) := by
    intro left x hx h0 h1 h2
    have bx := cCn_bd hb hs (w := x) n.1
    generalize hA : cCn D s x (sD D s) = A at h2 bx
    refine pl_for (f := fun j (q : Int) i => pfX12_estateOf_b87 pd_SH 5000 j G 367 d left A q i) (P := fun i q => q = cCn D s x i) (N := d) (res := fun o => o = some (Int.tdiv (left * (cCn D s x d + cCl D s d)) A - Int.tdiv (left * cCn D s x d) A, G)) ?_ ?_ 5000 0 0 (by omega) hd.1 (by omega) rfl
    · intro j q i a b e
      have c1 := cCn_bd hb hs (w := x) a
      have c2 := cCl_bd hb hs i
      have c3 := v6 i a (by omega)
      rw [show ci (sIn D s i) 1 0 = cI D s i from rfl] at c3
      refine Or.inl ⟨q + (if cI D s i = x then cCl D s i else 0), by rw [e]; unfold cCn; rw [Sm_s a], ?_⟩
      show pfX12_estateOf_b87 pd_SH 5000 (j + 1) G 367 d left A q i = pfX12_estateOf_b87 pd_SH 5000 j G 367 d left A _ (i + 1)
      by_cases z : cI D s i = x
      · simp (disch := omega) only [pfX12_estateOf_b87, pfX12_estateOf_b121, pl_l, pl_b, pl_iT, pl_t, pl_f, gx_367, gx_368, gx_369, gx_370, gx_371, gx_372, gx_373, gx_374, gx_375, gx_376, gx_377, gx_378, gx_379, gx_380, gx_381, gx_382, gx_383, gx_384, gx_385, gx_386, gx_387, gx_388, gx_389, gx_390, gx_391, gx_392, gx_393, gx_394, gx_395, gx_396, gx_397, gx_398, gx_399, gx_400, gx_401, gx_402, gx_403, gn_368, gn_369, gn_370, gn_371, gn_372, gn_373, gn_374, gn_375, gn_376, gn_377, gn_378, gn_379, gn_380, gn_381, gn_382, gn_383, gn_384, gn_385, gn_386, gn_387, gn_388, gn_389, gn_390, gn_391, gn_392, gn_393, gn_394, gn_395, gn_396, gn_397, gn_398, gn_399, gn_400, gn_401, gn_402, gn_403, lm_1 g1, lm_14 g1, lm_15 g1, lm_16 g1, lm_17 g1, lm_18 g1, lm_19 g1, lm_20 g1, lm_21 g1, lm_22 g1, lm_23 g1, lm_24 g1, lm_25 g1, lm_26 g1, lm_27 g1, lm_28 g1, lm_29 g1, lm_30 g1, lm_31 g1, lm_32 g1, lm_33 g1, lm_34 g1, lm_35 g1, lm_36 g1, lm_37 g1, lm_39 g1, lm_40 g1, lm_42 g1, lm_43 g1, lm_44 g1, lm_45 g1, lm_47 g1, lm_48 g1, lm_49 g1, lm_50 g1, lm_51 g1, c3, i6, r_claim w (show 0 ≤ i ∧ i < 12 by omega), pl_i, pl_w, pl_W, if_pos, if_neg]
      · simp (disch := omega) only [pfX12_estateOf_b87, pfX12_estateOf_b121, pl_l, pl_b, pl_iT, pl_t, pl_f, gx_367, gx_368, gx_369, gx_370, gx_371, gx_372, gx_373, gx_374, gx_375, gx_376, gx_377, gx_378, gx_379, gx_380, gx_381, gx_382, gx_383, gx_384, gx_385, gx_386, gx_387, gx_388, gx_389, gx_390, gx_391, gx_392, gx_393, gx_394, gx_395, gx_396, gx_397, gx_398, gx_399, gx_400, gx_401, gx_402, gx_403, gn_368, gn_369, gn_370, gn_371, gn_372, gn_373, gn_374, gn_375, gn_376, gn_377, gn_378, gn_379, gn_380, gn_381, gn_382, gn_383, gn_384, gn_385, gn_386, gn_387, gn_388, gn_389, gn_390, gn_391, gn_392, gn_393, gn_394, gn_395, gn_396, gn_397, gn_398, gn_399, gn_400, gn_401, gn_402, gn_403, lm_1 g1, lm_14 g1, lm_15 g1, lm_16 g1, lm_17 g1, lm_18 g1, lm_19 g1, lm_20 g1, lm_21 g1, lm_22 g1, lm_23 g1, lm_24 g1, lm_25 g1, lm_26 g1, lm_27 g1, lm_28 g1, lm_29 g1, lm_30 g1, lm_31 g1, lm_32 g1, lm_33 g1, lm_34 g1, lm_35 g1, lm_36 g1, lm_37 g1, lm_39 g1, lm_40 g1, lm_42 g1, lm_43 g1, lm_44 g1, lm_45 g1, lm_47 g1, lm_48 g1, lm_49 g1, lm_50 g1, lm_51 g1, c3, i6, pl_i, pl_w, pl_W, if_pos, if_neg]
    · intro j q e
      have c1 := cCn_bd hb hs (w := x) hd.1
      have m1 : 0 ≤ left * (q + cCl D s d) ∧ left * (q + cCl D s d) ≤ 99999999 * 20000000000 := ⟨Int.mul_nonneg (by omega) (by omega), Int.mul_le_mul h1 (by omega) (by omega) (by decide)⟩
      have m2 : 0 ≤ left * q ∧ left * q ≤ 99999999 * 20000000000 := ⟨Int.mul_nonneg (by omega) (by omega), Int.mul_le_mul h1 (by omega) (by omega) (by decide)⟩
      have d1 : 0 ≤ Int.tdiv (left * (q + cCl D s d)) A ∧ Int.tdiv (left * (q + cCl D s d)) A ≤ left * (q + cCl D s d) := by
        rw [Int.tdiv_eq_ediv_of_nonneg m1.1]
        exact ⟨Int.ediv_nonneg m1.1 (by omega), Int.ediv_le_self _ m1.1⟩
      have d2 : 0 ≤ Int.tdiv (left * q) A ∧ Int.tdiv (left * q) A ≤ left * q := by
        rw [Int.tdiv_eq_ediv_of_nonneg m2.1]
        exact ⟨Int.ediv_nonneg m2.1 (by omega), Int.ediv_le_self _ m2.1⟩
      show pfX12_estateOf_b87 pd_SH 5000 (j + 1) G 367 d left A q d = _
      rw [← e]
      simp (disch := omega) only [pfX12_estateOf_b87, pfX12_estateOf_b130, pl_l, pl_b, pl_iT, pl_t, pl_f, gx_367, gx_368, gx_369, gx_370, gx_371, gx_372, gx_373, gx_374, gx_375, gx_376, gx_377, gx_378, gx_379, gx_380, gx_381, gx_382, gx_383, gx_384, gx_385, gx_386, gx_387, gx_388, gx_389, gx_390, gx_391, gx_392, gx_393, gx_394, gx_395, gx_396, gx_397, gx_398, gx_399, gx_400, gx_401, gx_402, gx_403, gn_368, gn_369, gn_370, gn_371, gn_372, gn_373, gn_374, gn_375, gn_376, gn_377, gn_378, gn_379, gn_380, gn_381, gn_382, gn_383, gn_384, gn_385, gn_386, gn_387, gn_388, gn_389, gn_390, gn_391, gn_392, gn_393, gn_394, gn_395, gn_396, gn_397, gn_398, gn_399, gn_400, gn_401, gn_402, gn_403, kc, pl_i, pl_w, pl_W, if_pos, if_neg]
  unfold pfX12_estateOf aEs
  simp only [pl_l, pl_b, pl_iT, pl_t, pl_f, gx_367, gx_368, gx_369, gx_370, gx_371, gx_372, gx_373, gx_374, gx_375, gx_376, gx_377, gx_378, gx_379, gx_380, gx_381, gx_382, gx_383, gx_384, gx_385, gx_386, gx_387, gx_388, gx_389, gx_390, gx_391, gx_392, gx_393, gx_394, gx_395, gx_396, gx_397, gx_398, gx_399, gx_400, gx_401, gx_402, gx_403, gn_368, gn_369, gn_370, gn_371, gn_372, gn_373, gn_374, gn_375, gn_376, gn_377, gn_378, gn_379, gn_380, gn_381, gn_382, gn_383, gn_384, gn_385, gn_386, gn_387, gn_388, gn_389, gn_390, gn_391, gn_392, gn_393, gn_394, gn_395, gn_396, gn_397, gn_398, gn_399, gn_400, gn_401, gn_402, gn_403, k0, lm_1 g1, lm_14 g1, lm_15 g1, lm_16 g1, lm_17 g1, lm_18 g1, lm_19 g1, lm_20 g1, lm_21 g1, lm_22 g1, lm_23 g1, lm_24 g1, lm_25 g1, lm_26 g1, lm_27 g1, lm_28 g1, lm_29 g1, lm_30 g1, lm_31 g1, lm_32 g1, lm_33 g1, lm_34 g1, lm_35 g1, lm_36 g1, lm_37 g1, lm_39 g1, lm_40 g1, lm_42 g1, lm_43 g1, lm_44 g1, lm_45 g1, lm_47 g1, lm_48 g1, lm_49 g1, lm_50 g1, lm_51 g1, i6]
  rw [pl_W (by omega)]
  rcases cI_01 D s d with z | z
  · have el : cLf D s m d = m - cPU D s (s 72) := by unfold cLf; rw [if_neg (by omega)]; omega
    rw [z, el]
    by_cases q1 : m - cPU D s (s 72) ≤ 0
    · rw [if_neg (by omega), if_pos q1]
    · rw [if_pos (by omega), if_neg q1, pl_i (by omega), if_pos rfl]
      unfold pfX12_estateOf_b32 pfX12_estateOf_b50
      rw [if_pos (by decide), if_pos (by omega)]
      simp only [pl_l, pl_b, pl_iT, pl_t, pl_f, gx_367, gx_368, gx_369, gx_370, gx_371, gx_372, gx_373, gx_374, gx_375, gx_376, gx_377, gx_378, gx_379, gx_380, gx_381, gx_382, gx_383, gx_384, gx_385, gx_386, gx_387, gx_388, gx_389, gx_390, gx_391, gx_392, gx_393, gx_394, gx_395, gx_396, gx_397, gx_398, gx_399, gx_400, gx_401, gx_402, gx_403, gn_368, gn_369, gn_370, gn_371, gn_372, gn_373, gn_374, gn_375, gn_376, gn_377, gn_378, gn_379, gn_380, gn_381, gn_382, gn_383, gn_384, gn_385, gn_386, gn_387, gn_388, gn_389, gn_390, gn_391, gn_392, gn_393, gn_394, gn_395, gn_396, gn_397, gn_398, gn_399, gn_400, gn_401, gn_402, gn_403, k1, kc]
      by_cases q2 : cCn D s 0 (sD D s) ≤ m - cPU D s (s 72)
      · rw [if_neg (by omega), if_pos q2]
      · rw [if_pos (by omega), if_neg q2, l87 _ 0 z (by omega) (by omega) (by omega)]
  · have el : cLf D s m d = m - cPU D s (s 72) - cCn D s 0 (sD D s) := by unfold cLf; rw [if_pos z]
    rw [z, el]
    by_cases q1 : m - cPU D s (s 72) ≤ 0
    · rw [if_neg (by omega), if_pos (by omega)]
    · rw [if_pos (by omega), pl_i (by omega), if_neg (by decide)]
      unfold pfX12_estateOf_b32
      rw [if_neg (by decide)]
      simp only [pl_l, pl_b, pl_iT, pl_t, pl_f, gx_367, gx_368, gx_369, gx_370, gx_371, gx_372, gx_373, gx_374, gx_375, gx_376, gx_377, gx_378, gx_379, gx_380, gx_381, gx_382, gx_383, gx_384, gx_385, gx_386, gx_387, gx_388, gx_389, gx_390, gx_391, gx_392, gx_393, gx_394, gx_395, gx_396, gx_397, gx_398, gx_399, gx_400, gx_401, gx_402, gx_403, gn_368, gn_369, gn_370, gn_371, gn_372, gn_373, gn_374, gn_375, gn_376, gn_377, gn_378, gn_379, gn_380, gn_381, gn_382, gn_383, gn_384, gn_385, gn_386, gn_387, gn_388, gn_389, gn_390, gn_391, gn_392, gn_393, gn_394, gn_395, gn_396, gn_397, gn_398, gn_399, gn_400, gn_401, gn_402, gn_403, k1]
      rw [pl_W (by omega)]
      unfold pfX12_estateOf_b50
      by_cases q3 : m - cPU D s (s 72) - cCn D s 0 (sD D s) ≤ 0
      · rw [if_neg (by omega), if_pos q3]
      · rw [if_pos (by omega), if_neg q3]
        simp only [pl_l, pl_b, pl_iT, pl_t, pl_f, gx_367, gx_368, gx_369, gx_370, gx_371, gx_372, gx_373, gx_374, gx_375, gx_376, gx_377, gx_378, gx_379, gx_380, gx_381, gx_382, gx_383, gx_384, gx_385, gx_386, gx_387, gx_388, gx_389, gx_390, gx_391, gx_392, gx_393, gx_394, gx_395, gx_396, gx_397, gx_398, gx_399, gx_400, gx_401, gx_402, gx_403, gn_368, gn_369, gn_370, gn_371, gn_372, gn_373, gn_374, gn_375, gn_376, gn_377, gn_378, gn_379, gn_380, gn_381, gn_382, gn_383, gn_384, gn_385, gn_386, gn_387, gn_388, gn_389, gn_390, gn_391, gn_392, gn_393, gn_394, gn_395, gn_396, gn_397, gn_398, gn_399, gn_400, gn_401, gn_402, gn_403, k2, kc]
        by_cases q2 : cCn D s 1 (sD D s) ≤ m - cPU D s (s 72) - cCn D s 0 (sD D s)
        · rw [if_neg (by omega), if_pos q2]
        · rw [if_pos (by omega), if_neg q2, l87 _ 1 z (by omega) (by omega) (by omega)]
theorem q_estate (h : rS D s F) {m d : Int} : ∃ F', pfX12_estate pd_SH 5000 F 367 m d = some (aEst D s m d, F') ∧ pd_Ly F' ∧ qF F F' := by
  have h' := h.th 0
  obtain ⟨G, f1, f2, f3, f4⟩ := q_lays h'
  have n := sD_12 (s := s) h.2.2.2.1
  have v1 := f2.2.2.1.1
  refine ⟨G, ?_, f3.1, (qF.th F 0).tr f4.q⟩
  unfold pfX12_estate aEst
  simp only [pl_l, pl_b, pl_iT, pl_t, pl_f, gx_367, gx_368, gx_369, gx_370, gx_371, gx_372, gx_373, gx_374, gx_375, gx_376, gx_377, gx_378, gx_379, gx_380, gx_381, gx_382, gx_383, gx_384, gx_385, gx_386, gx_387, gx_388, gx_389, gx_390, gx_391, gx_392, gx_393, gx_394, gx_395, gx_396, gx_397, gx_398, gx_399, gx_400, gx_401, gx_402, gx_403, gn_368, gn_369, gn_370, gn_371, gn_372, gn_373, gn_374, gn_375, gn_376, gn_377, gn_378, gn_379, gn_380, gn_381, gn_382, gn_383, gn_384, gn_385, gn_386, gn_387, gn_388, gn_389, gn_390, gn_391, gn_392, gn_393, gn_394, gn_395, gn_396, gn_397, gn_398, gn_399, gn_400, gn_401, gn_402, gn_403, f1, r_within, v1, r_rank0 f2]
  rw [pl_w (by omega)]
  by_cases k : 0 ≤ m ∧ m ≤ 99999999
  · rw [if_pos k, if_neg (by decide)]
    by_cases k2 : -1 ≤ d ∧ d < sD D s
    · rw [if_pos (show -1 ≤ d ∧ d ≤ sD D s - 1 by omega), if_pos (show (1 : Int) ≠ 0 by decide), if_pos (show (0 ≤ m ∧ m ≤ 99999999) ∧ -1 ≤ d ∧ d < sD D s from ⟨k, k2⟩)]
      by_cases k3 : d = -1
      · rw [if_neg (show ¬ d ≠ -1 from fun z => z k3), if_pos k3]
        by_cases k4 : m ≥ cPU D s (s 72)
        · rw [if_pos k4, Int.min_eq_right k4]
        · rw [if_neg k4, Int.min_eq_left (by omega)]
      · rw [if_pos (show d ≠ -1 from k3), if_neg k3, r_estateOf f2 (by omega) k]
        simp only [pl_l, pl_b, pl_iT, pl_t, pl_f]
    · rw [if_neg (show ¬ (-1 ≤ d ∧ d ≤ sD D s - 1) by omega), if_neg (by decide), if_neg (fun z => k2 z.2)]
  · rw [if_neg k, if_pos rfl, if_neg (fun z => k z.1)]
theorem q_enough (h : rS D s F) {r : Int} : ∃ F', pfX12_enough pd_SH 5000 F 367 r = some (aEn D s r, F') ∧ pd_Ly F' ∧ qF F F' := by
  have h' := h.th 0
  obtain ⟨G, f1, f2, f3, f4⟩ := q_lays h'
  have n := sD_12 (s := s) h.2.2.2.1
  obtain ⟨g1, g2, ⟨v1, v2, v3, v4, v5, v6⟩, hb, hs⟩ := id f2
  have fr := (qF.th F 0).tr f4.q
  have bP : 0 ≤ cPU D s (s 72) ∧ cPU D s (s 72) ≤ 1199999880 * sD D s := cPU_bd hb hs hs.2.2.2.1.1 n.1
  have b0 := cCn_bd hb hs (w := 0) n.1
  have b1 := cCn_bd hb hs (w := 1) n.1
  have k0 := r_rank0 f2
  have k1 := r_rank f2 (r := 1) (x := 0) (Or.inl ⟨rfl, rfl⟩)
  have k2 := r_rank f2 (r := 2) (x := 1) (Or.inr ⟨rfl, rfl⟩)
  have go : ∀ (j : Nat) (r q i : Int), i > r → pfX12_enough_b30 pd_SH 5000 (j + 1) G 367 r q i = some (q, G) := fun j r q i z => by
    simp (disch := omega) only [pfX12_enough_b30, if_pos]
  have st : ∀ (j : Nat) (r q i x y q' i' : Int), q' = q + y → i' = i + 1 → 0 ≤ i → i ≤ 2 → i ≤ r → pfX12_rank pd_SH 5000 G 367 r = some (x, G) → pfX12_rank pd_SH 5000 G 367 i = some (y, G) → 0 < x → 0 ≤ q → q ≤ 100000000000 → 0 ≤ y → y ≤ 100000000000 → pfX12_enough_b30 pd_SH 5000 (j + 1) G 367 r q i = pfX12_enough_b30 pd_SH 5000 j G 367 r q' i' := fun j r q i x y q' i' hq hi a0 a1 a b c e f g h1 h2 => by
    subst hq hi
    simp (disch := omega) only [pfX12_enough_b30, pl_l, pl_b, pl_iT, pl_t, pl_f, gx_367, gx_368, gx_369, gx_370, gx_371, gx_372, gx_373, gx_374, gx_375, gx_376, gx_377, gx_378, gx_379, gx_380, gx_381, gx_382, gx_383, gx_384, gx_385, gx_386, gx_387, gx_388, gx_389, gx_390, gx_391, gx_392, gx_393, gx_394, gx_395, gx_396, gx_397, gx_398, gx_399, gx_400, gx_401, gx_402, gx_403, gn_368, gn_369, gn_370, gn_371, gn_372, gn_373, gn_374, gn_375, gn_376, gn_377, gn_378, gn_379, gn_380, gn_381, gn_382, gn_383, gn_384, gn_385, gn_386, gn_387, gn_388, gn_389, gn_390, gn_391, gn_392, gn_393, gn_394, gn_395, gn_396, gn_397, gn_398, gn_399, gn_400, gn_401, gn_402, gn_403, b, c, pl_w, pl_W, if_neg]
  have sz : ∀ (j : Nat) (r q i x : Int), i ≤ r → pfX12_rank pd_SH 5000 G 367 r = some (x, G) → x ≤ 0 → pfX12_enough_b30 pd_SH 5000 (j + 1) G 367 r q i = some (q, G) := fun j r q i x a b c => by
    simp (disch := omega) only [pfX12_enough_b30, pl_l, pl_b, pl_iT, pl_t, pl_f, gx_367, gx_368, gx_369, gx_370, gx_371, gx_372, gx_373, gx_374, gx_375, gx_376, gx_377, gx_378, gx_379, gx_380, gx_381, gx_382, gx_383, gx_384, gx_385, gx_386, gx_387, gx_388, gx_389, gx_390, gx_391, gx_392, gx_393, gx_394, gx_395, gx_396, gx_397, gx_398, gx_399, gx_400, gx_401, gx_402, gx_403, gn_368, gn_369, gn_370, gn_371, gn_372, gn_373, gn_374, gn_375, gn_376, gn_377, gn_378, gn_379, gn_380, gn_381, gn_382, gn_383, gn_384, gn_385, gn_386, gn_387, gn_388, gn_389, gn_390, gn_391, gn_392, gn_393, gn_394, gn_395, gn_396, gn_397, gn_398, gn_399, gn_400, gn_401, gn_402, gn_403, b, if_pos, if_neg]
  unfold pfX12_enough aEn
  simp only [pl_l, pl_b, pl_iT, pl_t, pl_f, gx_367, gx_368, gx_369, gx_370, gx_371, gx_372, gx_373, gx_374, gx_375, gx_376, gx_377, gx_378, gx_379, gx_380, gx_381, gx_382, gx_383, gx_384, gx_385, gx_386, gx_387, gx_388, gx_389, gx_390, gx_391, gx_392, gx_393, gx_394, gx_395, gx_396, gx_397, gx_398, gx_399, gx_400, gx_401, gx_402, gx_403, gn_368, gn_369, gn_370, gn_371, gn_372, gn_373, gn_374, gn_375, gn_376, gn_377, gn_378, gn_379, gn_380, gn_381, gn_382, gn_383, gn_384, gn_385, gn_386, gn_387, gn_388, gn_389, gn_390, gn_391, gn_392, gn_393, gn_394, gn_395, gn_396, gn_397, gn_398, gn_399, gn_400, gn_401, gn_402, gn_403, r_within]
  by_cases k : 0 ≤ r ∧ r ≤ 2
  · rw [if_pos k, if_pos (by decide), f1]
    simp only [pl_l, pl_b, pl_iT, pl_t, pl_f]
    refine ⟨G, ?_, f3.1, fr⟩
    by_cases r0 : r = 0
    · subst r0
      rw [if_pos rfl]
      by_cases z : cPU D s (s 72) ≤ 0
      · rw [sz 4999 0 0 0 _ (by omega) k0 z, show cPU D s (s 72) = 0 by omega]
      · rw [st 4999 0 0 0 _ _ _ 1 rfl rfl (by omega) (by omega) (by omega) k0 k0 (by omega) (by omega) (by omega) (by omega) (by omega), go 4998 _ _ _ (by omega), Int.zero_add]
    by_cases r1 : r = 1
    · subst r1
      rw [if_neg r0, if_pos rfl]
      by_cases z : cCn D s 0 (sD D s) ≤ 0
      · rw [sz 4999 1 0 0 _ (by omega) k1 z, if_pos z]
      · rw [st 4999 1 0 0 _ _ (cPU D s (s 72)) 1 (Int.zero_add _).symm rfl (by omega) (by omega) (by omega) k1 k0 (by omega) (by omega) (by omega) (by omega) (by omega), st 4998 1 (cPU D s (s 72)) 1 _ _ _ 2 rfl rfl (by omega) (by omega) (by omega) k1 k1 (by omega) (by omega) (by omega) (by omega) (by omega), go 4997 _ _ _ (by omega), if_neg z]
    · have r2 : r = 2 := by omega
      subst r2
      rw [if_neg r0, if_neg r1, if_pos rfl]
      by_cases z : cCn D s 1 (sD D s) ≤ 0
      · rw [sz 4999 2 0 0 _ (by omega) k2 z, if_pos z]
      · rw [st 4999 2 0 0 _ _ (cPU D s (s 72)) 1 (Int.zero_add _).symm rfl (by omega) (by omega) (by omega) k2 k0 (by omega) (by omega) (by omega) (by omega) (by omega), st 4998 2 (cPU D s (s 72)) 1 _ _ _ 2 rfl rfl (by omega) (by omega) (by omega) k2 k1 (by omega) (by omega) (by omega) (by omega) (by omega), st 4997 2 (cPU D s (s 72) + cCn D s 0 (sD D s)) 2 _ _ _ 3 rfl rfl (by omega) (by omega) (by omega) k2 k2 (by omega) (by omega) (by omega) (by omega) (by omega), go 4996 _ _ _ (by omega), if_neg z]
  · rw [if_neg k, if_neg (by decide), if_neg (by omega), if_neg (by omega), if_neg (by omega)]
    exact ⟨_, rfl, h'.1, qF.th F 0⟩
theorem q_coverFor (h : rS D s F) {hu : Int} : ∃ F' v, pfX12_coverFor pd_SH 5000 F 367 hu = some (v, F') ∧ pd_Ly F' ∧ qF F F' ∧ ((¬ (1 ≤ hu ∧ hu ≤ 100) ∧ v = -1) ∨ ((1 ≤ hu ∧ hu ≤ 100) ∧ aCv D s hu v)) := by
  have h' := h.th 0
  obtain ⟨G, f1, f2, f3, f4⟩ := q_lays h'
  have n := sD_12 (s := s) h.2.2.2.1
  obtain ⟨g1, g2, ⟨v1, v2, v3, v4, v5, v6⟩, hb, hs⟩ := id f2
  have fr := (qF.th F 0).tr f4.q
  have bN : 0 ≤ cNa D s ∧ cNa D s ≤ 1199999880 * sD D s := cNa_bd hb hs n.1
  unfold pfX12_coverFor
  simp only [pl_l, pl_b, pl_iT, pl_t, pl_f, gx_367, gx_368, gx_369, gx_370, gx_371, gx_372, gx_373, gx_374, gx_375, gx_376, gx_377, gx_378, gx_379, gx_380, gx_381, gx_382, gx_383, gx_384, gx_385, gx_386, gx_387, gx_388, gx_389, gx_390, gx_391, gx_392, gx_393, gx_394, gx_395, gx_396, gx_397, gx_398, gx_399, gx_400, gx_401, gx_402, gx_403, gn_368, gn_369, gn_370, gn_371, gn_372, gn_373, gn_374, gn_375, gn_376, gn_377, gn_378, gn_379, gn_380, gn_381, gn_382, gn_383, gn_384, gn_385, gn_386, gn_387, gn_388, gn_389, gn_390, gn_391, gn_392, gn_393, gn_394, gn_395, gn_396, gn_397, gn_398, gn_399, gn_400, gn_401, gn_402, gn_403, r_within]
  by_cases k : 1 ≤ hu ∧ hu ≤ 100
  · rw [if_pos k, if_pos (by decide), f1]
    simp only [pl_l, pl_b, pl_iT, pl_t, pl_f]
    have hw : 0 ≤ cNa D s * hu ∧ cNa D s * hu ≤ 20000000000 * 100 := ⟨Int.mul_nonneg bN.1 (by omega), Int.mul_le_mul (by omega) k.2 (by omega) (by decide)⟩
    have l60 : ∃ v, pfX12_coverFor_b60 pd_SH 5000 5000 G 367 hu (cNa D s) 0 (cNa D s) = some (v, G) ∧ aCv D s hu v := by
      refine pl_whl (f := fun j (q : Int × Int) => pfX12_coverFor_b60 pd_SH 5000 j G 367 hu (cNa D s) q.1 q.2)
        (P := fun m q => 0 ≤ q.1 ∧ q.1 ≤ q.2 ∧ q.2 ≤ cNa D s ∧ q.2 - q.1 < ((2 ^ m : Nat) : Int) ∧ cNa D s * hu ≤ cPU D s q.2 * 100 ∧ ∀ u, 0 ≤ u → u < q.1 → cPU D s u * 100 < cNa D s * hu)
        (res := fun o => ∃ v, o = some (v, G) ∧ aCv D s hu v) ?_ 5000 34 (0, cNa D s) (by omega) ⟨by omega, bN.1, by omega, by show cNa D s - 0 < _; omega, by show _ ≤ cPU D s (cNa D s) * 100; rw [cPU_top hb hs]; exact Int.mul_le_mul_of_nonneg_left k.2 bN.1, fun u a b => by omega⟩
      intro j m ⟨lo, hi⟩ ⟨p1, p2, p3, p4, p5, p6⟩
      simp only at p1 p2 p3 p4 p5 p6
      by_cases c : lo ≥ hi
      · right
        refine ⟨lo, ?_, p1, by omega, by rw [show lo = hi by omega]; exact p5, p6⟩
        show pfX12_coverFor_b60 pd_SH 5000 (j + 1) G 367 hu (cNa D s) lo hi = _
        simp (disch := omega) only [pfX12_coverFor_b60, if_pos]
      · left
        match m, p4 with
        | 0, p4 => exact absurd p4 (by show ¬ hi - lo < ((1 : Nat) : Int); omega)
        | m + 1, p4 =>
          rw [Nat.pow_succ] at p4
          have hm : Int.tdiv (lo + hi) 2 = (lo + hi) / 2 := Int.tdiv_eq_ediv_of_nonneg (by omega)
          generalize hmid : (lo + hi) / 2 = mid at hm
          have hmid2 : lo ≤ mid ∧ mid < hi ∧ 2 * mid ≤ lo + hi ∧ lo + hi ≤ 2 * mid + 1 := by omega
          have bm : 0 ≤ cPU D s mid ∧ cPU D s mid ≤ 1199999880 * sD D s := cPU_bd hb hs (by omega) n.1
          have hp := r_paidAll f2 (c := mid) (by omega)
          by_cases z : cPU D s mid * 100 < cNa D s * hu
          · refine ⟨m, (mid + 1, hi), by omega, ⟨by omega, by omega, p3, by omega, p5, fun u a b => ?_⟩, ?_⟩
            · have := cPU_mono (s := s) hb (a := u) (b := mid) (by omega)
              omega
            · show pfX12_coverFor_b60 pd_SH 5000 (j + 1) G 367 hu (cNa D s) lo hi = _
              simp (disch := omega) only [pfX12_coverFor_b60, pfX12_coverFor_b110, pl_l, pl_b, pl_iT, pl_t, pl_f, gx_367, gx_368, gx_369, gx_370, gx_371, gx_372, gx_373, gx_374, gx_375, gx_376, gx_377, gx_378, gx_379, gx_380, gx_381, gx_382, gx_383, gx_384, gx_385, gx_386, gx_387, gx_388, gx_389, gx_390, gx_391, gx_392, gx_393, gx_394, gx_395, gx_396, gx_397, gx_398, gx_399, gx_400, gx_401, gx_402, gx_403, gn_368, gn_369, gn_370, gn_371, gn_372, gn_373, gn_374, gn_375, gn_376, gn_377, gn_378, gn_379, gn_380, gn_381, gn_382, gn_383, gn_384, gn_385, gn_386, gn_387, gn_388, gn_389, gn_390, gn_391, gn_392, gn_393, gn_394, gn_395, gn_396, gn_397, gn_398, gn_399, gn_400, gn_401, gn_402, gn_403, hm, hp, pl_W, if_pos, if_neg]
          · refine ⟨m, (lo, mid), by omega, ⟨p1, by omega, by omega, by omega, by show _ ≤ cPU D s mid * 100; omega, p6⟩, ?_⟩
            show pfX12_coverFor_b60 pd_SH 5000 (j + 1) G 367 hu (cNa D s) lo hi = _
            simp (disch := omega) only [pfX12_coverFor_b60, pfX12_coverFor_b110, pl_l, pl_b, pl_iT, pl_t, pl_f, gx_367, gx_368, gx_369, gx_370, gx_371, gx_372, gx_373, gx_374, gx_375, gx_376, gx_377, gx_378, gx_379, gx_380, gx_381, gx_382, gx_383, gx_384, gx_385, gx_386, gx_387, gx_388, gx_389, gx_390, gx_391, gx_392, gx_393, gx_394, gx_395, gx_396, gx_397, gx_398, gx_399, gx_400, gx_401, gx_402, gx_403, gn_368, gn_369, gn_370, gn_371, gn_372, gn_373, gn_374, gn_375, gn_376, gn_377, gn_378, gn_379, gn_380, gn_381, gn_382, gn_383, gn_384, gn_385, gn_386, gn_387, gn_388, gn_389, gn_390, gn_391, gn_392, gn_393, gn_394, gn_395, gn_396, gn_397, gn_398, gn_399, gn_400, gn_401, gn_402, gn_403, hm, hp, pl_W, if_pos, if_neg]
    obtain ⟨v, e1, e2⟩ := l60
    refine ⟨G, v, ?_, f3.1, fr, Or.inr ⟨k, e2⟩⟩
    refine pl_for (f := fun j (q : Int) i => pfX12_coverFor_b30 pd_SH 5000 j G 367 hu q i) (P := fun i q => q = Sm (cNt D s) i) (N := sD D s) (res := fun o => o = some (v, G)) ?_ ?_ 5000 0 0 (by omega) n.1 (by omega) rfl
    · intro j q i a b e
      have b1 := cNa_bd hb hs a
      have b2 := cNt_bd hb hs i
      refine Or.inl ⟨q + cNt D s i, by rw [e, Sm_s a], ?_⟩
      show pfX12_coverFor_b30 pd_SH 5000 (j + 1) G 367 hu q i = _
      simp (disch := omega) only [pfX12_coverFor_b30, pl_l, pl_b, pl_iT, pl_t, pl_f, gx_367, gx_368, gx_369, gx_370, gx_371, gx_372, gx_373, gx_374, gx_375, gx_376, gx_377, gx_378, gx_379, gx_380, gx_381, gx_382, gx_383, gx_384, gx_385, gx_386, gx_387, gx_388, gx_389, gx_390, gx_391, gx_392, gx_393, gx_394, gx_395, gx_396, gx_397, gx_398, gx_399, gx_400, gx_401, gx_402, gx_403, gn_368, gn_369, gn_370, gn_371, gn_372, gn_373, gn_374, gn_375, gn_376, gn_377, gn_378, gn_379, gn_380, gn_381, gn_382, gn_383, gn_384, gn_385, gn_386, gn_387, gn_388, gn_389, gn_390, gn_391, gn_392, gn_393, gn_394, gn_395, gn_396, gn_397, gn_398, gn_399, gn_400, gn_401, gn_402, gn_403, v1, r_net f2 (show 0 ≤ i ∧ i < 12 by omega), pl_w, pl_W, if_pos, if_neg]
    · intro j q e
      show pfX12_coverFor_b30 pd_SH 5000 (j + 1) G 367 hu q _ = _
      simp (disch := omega) only [pfX12_coverFor_b30, pfX12_coverFor_b54, pl_l, pl_b, pl_iT, pl_t, pl_f, gx_367, gx_368, gx_369, gx_370, gx_371, gx_372, gx_373, gx_374, gx_375, gx_376, gx_377, gx_378, gx_379, gx_380, gx_381, gx_382, gx_383, gx_384, gx_385, gx_386, gx_387, gx_388, gx_389, gx_390, gx_391, gx_392, gx_393, gx_394, gx_395, gx_396, gx_397, gx_398, gx_399, gx_400, gx_401, gx_402, gx_403, gn_368, gn_369, gn_370, gn_371, gn_372, gn_373, gn_374, gn_375, gn_376, gn_377, gn_378, gn_379, gn_380, gn_381, gn_382, gn_383, gn_384, gn_385, gn_386, gn_387, gn_388, gn_389, gn_390, gn_391, gn_392, gn_393, gn_394, gn_395, gn_396, gn_397, gn_398, gn_399, gn_400, gn_401, gn_402, gn_403, v1, if_pos, if_neg]
      rw [e]; exact e1
  · rw [if_neg k, if_neg (by decide)]
    exact ⟨_, _, rfl, h'.1, qF.th F 0, Or.inl ⟨k, rfl⟩⟩
end RA

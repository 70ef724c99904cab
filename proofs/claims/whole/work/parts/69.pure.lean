/-! what a book and a row of acts come to -/
noncomputable def sC (D : pd_F) (s : Int → Int) : Int → Int → Prop := Cn (D 369 0) (Bs (D 375) (D 376) s)
noncomputable def sN (D : pd_F) (s : Int → Int) (p : Int) : Int := DN (D 369 0) (sC D s) p
noncomputable def sD (D : pd_F) (s : Int → Int) : Int := DC (D 369 0) (sC D s)
noncomputable def gA (D : pd_F) (s : Int → Int) (a p : Int) : Int := ci (lFl (D 381) (D 382) (D 383) 8 (5 + a)) 0 (lGv (D 381) (D 382) (D 383) 8 (5 + a) (s a) p)
noncomputable def sG (D : pd_F) (s : Int → Int) (p : Int) : Int := Sm (fun a => gA D s a p) (D 371 0)
noncomputable def gH (D : pd_F) (s : Int → Int) (h p : Int) : Int := ci (lFl (D 381) (D 382) (D 383) 8 (5 + D 384 h)) 0 (lGv (D 381) (D 382) (D 383) 8 (5 + D 384 h) (min (D 385 h) (s (D 384 h))) p)
noncomputable def gT (D : pd_F) (s : Int → Int) (h p : Int) : Int := if D 386 h ≤ s 71 ∧ s 71 ≤ D 387 h then gH D s h p else 0
noncomputable def sHg (D : pd_F) (s : Int → Int) (p : Int) : Int := Sm (fun h => gT D s h p) (D 372 0)
noncomputable def sHas (D : pd_F) (s : Int → Int) (d : Int) : Int := Sm (fun p => if sN D s p = d then sG D s p else 0) (D 369 0)
noncomputable def sHi (D : pd_F) (s : Int → Int) (d : Int) : Int := Sm (fun p => if sN D s p = d then sHg D s p else 0) (D 369 0)
noncomputable def oT (D : pd_F) (s : Int → Int) (d l : Int) : Int := if D 390 l ≤ s 71 ∧ sN D s (D 388 l) = d then D 389 l else 0
noncomputable def sOw (D : pd_F) (s : Int → Int) (d : Int) : Int := Sm (oT D s d) (D 373 0)
def sIn (D : pd_F) (s : Int → Int) (d : Int) : Prop := ∃ p, 0 ≤ p ∧ p < D 369 0 ∧ D 377 p ≠ 0 ∧ sN D s p = d
/-- a book in its bounds -/
def bOk (D : pd_F) : Prop := lWf (D 369 0) (D 370 0) (D 371 0) (D 381) (D 382) (D 383) ∧ (∀ p, 0 ≤ p → p < D 369 0 → 0 ≤ D 375 p ∧ D 375 p ≤ 3) ∧ (0 ≤ D 372 0 ∧ D 372 0 ≤ 6) ∧ (0 ≤ D 373 0 ∧ D 373 0 ≤ 8) ∧
  (∀ h, 0 ≤ h → h < D 372 0 → (0 ≤ D 384 h ∧ D 384 h < D 371 0) ∧ 0 ≤ D 385 h ∧ D 385 h ≤ 9999999) ∧ (∀ l, 0 ≤ l → l < D 373 0 → (0 ≤ D 388 l ∧ D 388 l < D 369 0) ∧ 0 ≤ D 389 l ∧ D 389 l ≤ 9999999) ∧ (∀ p, 0 ≤ p → p < D 369 0 → D 377 p = 0 ∨ D 377 p = 1)
/-- a row of acts in its bounds -/
def aOk (D : pd_F) (s : Int → Int) : Prop := (∀ a, 0 ≤ a → a < D 371 0 → 0 ≤ s a ∧ s a ≤ 9999999) ∧ (0 ≤ s 70 ∧ s 70 ≤ 30) ∧ (0 ≤ s 110 ∧ s 110 ≤ 36) ∧ (0 ≤ s 72 ∧ s 72 ≤ 9999999) ∧ (0 ≤ s 73 ∧ s 73 ≤ 9999999)
theorem sN_bd {D : pd_F} {s : Int → Int} (hn : 0 ≤ D 369 0) {p : Int} (h0 : 0 ≤ p) (h1 : p < D 369 0) : 0 ≤ sN D s p ∧ sN D s p < sD D s := by
  obtain ⟨i1, i2, i3, i4, i5⟩ := dn_inv (np := D 369 0) (C := sC D s) (fun p _ _ => Cn_rf) (D 369 0).toNat (by omega)
  exact ⟨i5 p h0 (by omega), (i3 p).2⟩
theorem sD_bd {D : pd_F} {s : Int → Int} (hn : 0 ≤ D 369 0) : 0 ≤ sD D s ∧ sD D s ≤ D 369 0 := by
  obtain ⟨i1, i2, i3, i4, i5⟩ := dn_inv (np := D 369 0) (C := sC D s) (fun p _ _ => Cn_rf) (D 369 0).toNat (by omega)
  refine ⟨i1, ?_⟩
  have : sD D s ≤ ((D 369 0).toNat : Int) := i2
  omega
theorem bOk_ac {D : pd_F} (h : bOk D) {a : Int} (h0 : 0 ≤ a) (h1 : a < D 371 0) : lOk (D 369 0) (D 381) (D 382) (D 383) (5 + a) (D 370 0) := h.1.2.2.2.2.2.2.2 a h0 h1
theorem bOk_tr {D : pd_F} (h : bOk D) : ∀ t, 0 ≤ t → t < D 370 0 → lOk (D 369 0) (D 381) (D 382) (D 383) t t := h.1.2.2.2.2.2.2.1
theorem lGv8_bd {D : pd_F} (h : bOk D) {a v p : Int} (h0 : 0 ≤ a) (h1 : a < D 371 0) (hv : 0 ≤ v) (hf : ¬ lFl (D 381) (D 382) (D 383) 8 (5 + a)) : 0 ≤ lGv (D 381) (D 382) (D 383) 8 (5 + a) v p ∧ lGv (D 381) (D 382) (D 383) 8 (5 + a) v p ≤ v := by
  obtain ⟨⟨b0, b1, b2, b3, b4, b5, b6, b7⟩, -⟩ := id h
  exact lGv_bd (k := 7) b1 (b7 a h0 h1) b6 (by omega) hf hv
theorem gA_bd {D : pd_F} {s : Int → Int} (h : bOk D) (hs : aOk D s) {a p : Int} (h0 : 0 ≤ a) (h1 : a < D 371 0) : 0 ≤ gA D s a p ∧ gA D s a p ≤ 9999999 := by
  unfold gA
  have b := hs.1 a h0 h1
  rcases ci_o (lFl (D 381) (D 382) (D 383) 8 (5 + a)) 0 (lGv (D 381) (D 382) (D 383) 8 (5 + a) (s a) p) with c | c
  · rw [c.2]; omega
  · rw [c.2]
    have := lGv8_bd h h0 h1 b.1 c.1 (p := p)
    omega
theorem gT_bd {D : pd_F} {s : Int → Int} (h : bOk D) (hs : aOk D s) {i p : Int} (h0 : 0 ≤ i) (h1 : i < D 372 0) : 0 ≤ gT D s i p ∧ gT D s i p ≤ 9999999 := by
  unfold gT
  split
  · unfold gH
    have hb := h.2.2.2.2.1 i h0 h1
    have b := hs.1 (D 384 i) hb.1.1 hb.1.2
    rcases ci_o (lFl (D 381) (D 382) (D 383) 8 (5 + D 384 i)) 0 (lGv (D 381) (D 382) (D 383) 8 (5 + D 384 i) (min (D 385 i) (s (D 384 i))) p) with c | c
    · rw [c.2]; omega
    · rw [c.2]
      have := lGv8_bd h hb.1.1 hb.1.2 (show 0 ≤ min (D 385 i) (s (D 384 i)) by omega) c.1 (p := p)
      omega
  · omega
theorem sG_bd {D : pd_F} {s : Int → Int} (h : bOk D) (hs : aOk D s) {p : Int} : 0 ≤ sG D s p ∧ sG D s p ≤ 99999990 := by
  obtain ⟨⟨b0, b1, b2, b3, b4, b5, b6, b7⟩, -⟩ := id h
  have := Sm_bd (f := fun a => gA D s a p) (lo := 0) (hi := 9999999) b4 (fun a c d => gA_bd h hs c d)
  unfold sG
  omega
theorem sHg_bd {D : pd_F} {s : Int → Int} (h : bOk D) (hs : aOk D s) {p : Int} : 0 ≤ sHg D s p ∧ sHg D s p ≤ 99999990 := by
  have b := h.2.2.1
  have := Sm_bd (f := fun a => gT D s a p) (lo := 0) (hi := 9999999) b.1 (fun a c d => gT_bd h hs c d)
  unfold sHg
  omega
theorem Sm_if {f g : Int → Int} {d n : Int} (hn : 0 ≤ n) (h : ∀ p, 0 ≤ p → p < n → 0 ≤ g p ∧ g p ≤ 99999990) : 0 ≤ Sm (fun p => if f p = d then g p else 0) n ∧ Sm (fun p => if f p = d then g p else 0) n ≤ 99999990 * n := by
  have := Sm_bd (f := fun p => if f p = d then g p else 0) (lo := 0) (hi := 99999990) hn (fun p a b => by
    have := h p a b
    split <;> omega)
  omega
/-- the frame of the views: all but got, depositorOf, far, has, owes, high, isIn, depositors -/
def vF (F G : pd_F) : Prop := (∀ b, b ≠ 367 → (b < 397 ∨ 403 < b) → G b = F b) ∧ ∀ j, j ≠ 46 → G 367 j = F 367 j
theorem vF.rf (F : pd_F) : vF F F := ⟨fun _ _ _ => rfl, fun _ _ => rfl⟩
theorem vF.tr {F G H : pd_F} (h : vF F G) (g : vF G H) : vF F H := ⟨fun b a c => (g.1 b a c).trans (h.1 b a c), fun j a => (g.2 j a).trans (h.2 j a)⟩
theorem vF.up {F G : pd_F} (h : vF F G) {a i v : Int} (ha : 397 ≤ a ∧ a ≤ 403) : vF F (pd_up G a i v) := ⟨fun b x y => by rw [pu_a (by omega)]; exact h.1 b x y, fun j x => by rw [pu_a (by omega)]; exact h.2 j x⟩
theorem vF.r {F G : pd_F} (h : vF F G) {b : Int} (hb : b ≠ 367 ∧ (b < 397 ∨ 403 < b)) : G b = F b := h.1 b hb.1 hb.2
theorem or01 {x y : Int} (hx : x = 0 ∨ x = 1) (hy : y = 0 ∨ y = 1) : pd_or x y = if x = 0 ∧ y = 0 then 0 else 1 := by
  rcases hx with rfl | rfl <;> rcases hy with rfl | rfl <;> decide +kernel
/-- what laysViews lays -/
def vP (F : pd_F) (s : Int → Int) (G : pd_F) : Prop := G 367 46 = sD F s ∧ (∀ p, 0 ≤ p → p < F 369 0 → G 398 p = sN F s p) ∧ (∀ d, 0 ≤ d → d < 12 → G 400 d = sHas F s d) ∧ (∀ d, 0 ≤ d → d < 12 → G 401 d = sOw F s d) ∧ (∀ d, 0 ≤ d → d < 12 → G 402 d = sHi F s d) ∧ ∀ d, 0 ≤ d → d < 12 → G 403 d = ci (sIn F s d) 1 0
section Views
variable {F : pd_F}
theorem r_v303 (hb : bOk F) {G : pd_F} (g1 : pd_Ly G) (g2 : vF F G) (h1 : G 367 46 = sD F (F 393)) (h2 : ∀ p, 0 ≤ p → p < F 369 0 → G 398 p = sN F (F 393) p) (h3 : ∀ d, 0 ≤ d → d < 12 → G 400 d = sHas F (F 393) d) (h4 : ∀ d, 0 ≤ d → d < 12 → G 401 d = 0) (h5 : ∀ d, 0 ≤ d → d < 12 → G 402 d = sHi F (F 393) d) (h6 : ∀ d, 0 ≤ d → d < 12 → G 403 d = ci (sIn F (F 393) d) 1 0) :
    ∃ F', pfX12_laysViews_b303 pd_SH 5000 5000 G 367 0 = some F' ∧ pd_Ly F' ∧ vF F F' ∧ vP F (F 393) F' := by
  obtain ⟨⟨b0, b1, b2, b3, b4, b5, b6, b7⟩, -, -, c1, -, c2, -⟩ := id hb
  refine pl_for (f := fun j (q : pd_F) i => pfX12_laysViews_b303 pd_SH 5000 j q 367 i)
    (P := fun i q => pd_Ly q ∧ vF F q ∧ q 367 46 = sD F (F 393) ∧ (∀ p, 0 ≤ p → p < F 369 0 → q 398 p = sN F (F 393) p) ∧ (∀ d, 0 ≤ d → d < 12 → q 400 d = sHas F (F 393) d) ∧ (∀ d, 0 ≤ d → d < 12 → q 401 d = Sm (oT F (F 393) d) i) ∧ (∀ d, 0 ≤ d → d < 12 → q 402 d = sHi F (F 393) d) ∧ ∀ d, 0 ≤ d → d < 12 → q 403 d = ci (sIn F (F 393) d) 1 0) (N := F 373 0)
    (res := fun o => ∃ F', o = some F' ∧ pd_Ly F' ∧ vF F F' ∧ vP F (F 393) F') ?_ ?_ 5000 G 0 (by omega) c1.1 (by omega) ⟨g1, g2, h1, h2, h3, fun d a b => by rw [h4 d a b, Sm_0], h5, h6⟩
  · intro j G i a b ⟨q1, q2, q3, q4, q5, q6, q7, q8⟩
    left
    have e0 : G 373 = F 373 := q2.r (by decide)
    have e1 : G 388 = F 388 := q2.r (by decide)
    have e2 : G 389 = F 389 := q2.r (by decide)
    have e3 : G 390 = F 390 := q2.r (by decide)
    have e4 : G 393 = F 393 := q2.r (by decide)
    have c := c2 i a b
    have n := sN_bd (D := F) (s := F 393) b0 c.1.1 c.1.2
    have n2 := sD_bd (D := F) (s := F 393) b0
    have n3 := q4 (F 388 i) c.1.1 c.1.2
    by_cases k : F 390 i ≤ F 393 71
    · refine ⟨pd_up G 401 (sN F (F 393) (F 388 i)) (Sm (oT F (F 393) (sN F (F 393) (F 388 i))) i + F 389 i), ⟨q1.up (pl_rc0 sx_401 (by decide)), q2.up (by decide), by rw [pu_a (by decide)]; exact q3, by rw [pu_a (by decide)]; exact q4, by rw [pu_a (by decide)]; exact q5, ?_, by rw [pu_a (by decide)]; exact q7, by rw [pu_a (by decide)]; exact q8⟩, ?_⟩
      · intro d x y
        rw [pu_r, Sm_s a]
        by_cases z : d = sN F (F 393) (F 388 i)
        · rw [if_pos z, z]
          congr 1
          unfold oT
          rw [if_pos ⟨k, rfl⟩]
        · rw [if_neg z, q6 d x y]
          have : oT F (F 393) d i = 0 := by unfold oT; rw [if_neg (fun e => z e.2.symm)]
          omega
      · have bd := Sm_bd (f := oT F (F 393) (sN F (F 393) (F 388 i))) (lo := 0) (hi := 9999999) a (fun l x y => by
          have := c2 l x (by omega)
          unfold oT
          split <;> omega)
        have q6' := q6 (sN F (F 393) (F 388 i)) (by omega) (by omega)
        show pfX12_laysViews_b303 pd_SH 5000 (j + 1) G 367 i = pfX12_laysViews_b303 pd_SH 5000 j _ 367 (i + 1)
        simp (disch := omega) only [pfX12_laysViews_b303, pfX12_laysViews_b355, pl_l, pl_b, pl_iT, pl_t, pl_f, lm_1 q1, lm_14 q1, lm_15 q1, lm_16 q1, lm_17 q1, lm_18 q1, lm_19 q1, lm_20 q1, lm_21 q1, lm_22 q1, lm_23 q1, lm_24 q1, lm_25 q1, lm_26 q1, lm_27 q1, lm_28 q1, lm_29 q1, lm_30 q1, lm_31 q1, lm_32 q1, lm_33 q1, lm_34 q1, lm_35 q1, lm_36 q1, lm_37 q1, lm_39 q1, lm_40 q1, lm_42 q1, lm_43 q1, lm_44 q1, lm_45 q1, lm_47 q1, lm_48 q1, lm_49 q1, lm_50 q1, lm_51 q1, gx_367, gx_368, gx_369, gx_370, gx_371, gx_372, gx_373, gx_374, gx_375, gx_376, gx_377, gx_378, gx_379, gx_380, gx_381, gx_382, gx_383, gx_384, gx_385, gx_386, gx_387, gx_388, gx_389, gx_390, gx_391, gx_392, gx_393, gx_394, gx_395, gx_396, gx_397, gx_398, gx_399, gx_400, gx_401, gx_402, gx_403, gn_368, gn_369, gn_370, gn_371, gn_372, gn_373, gn_374, gn_375, gn_376, gn_377, gn_378, gn_379, gn_380, gn_381, gn_382, gn_383, gn_384, gn_385, gn_386, gn_387, gn_388, gn_389, gn_390, gn_391, gn_392, gn_393, gn_394, gn_395, gn_396, gn_397, gn_398, gn_399, gn_400, gn_401, gn_402, gn_403, e0, e1, e2, e3, e4, n3, q6', pl_w, pl_W, pl_i, if_pos, if_neg]
    · refine ⟨G, ⟨q1, q2, q3, q4, q5, fun d x y => ?_, q7, q8⟩, ?_⟩
      · rw [Sm_s a, q6 d x y]
        have : oT F (F 393) d i = 0 := by unfold oT; rw [if_neg (fun e => k e.1)]
        omega
      · show pfX12_laysViews_b303 pd_SH 5000 (j + 1) G 367 i = pfX12_laysViews_b303 pd_SH 5000 j _ 367 (i + 1)
        simp (disch := omega) only [pfX12_laysViews_b303, pfX12_laysViews_b355, pl_l, pl_b, pl_iT, pl_t, pl_f, lm_1 q1, lm_14 q1, lm_15 q1, lm_16 q1, lm_17 q1, lm_18 q1, lm_19 q1, lm_20 q1, lm_21 q1, lm_22 q1, lm_23 q1, lm_24 q1, lm_25 q1, lm_26 q1, lm_27 q1, lm_28 q1, lm_29 q1, lm_30 q1, lm_31 q1, lm_32 q1, lm_33 q1, lm_34 q1, lm_35 q1, lm_36 q1, lm_37 q1, lm_39 q1, lm_40 q1, lm_42 q1, lm_43 q1, lm_44 q1, lm_45 q1, lm_47 q1, lm_48 q1, lm_49 q1, lm_50 q1, lm_51 q1, gx_367, gx_368, gx_369, gx_370, gx_371, gx_372, gx_373, gx_374, gx_375, gx_376, gx_377, gx_378, gx_379, gx_380, gx_381, gx_382, gx_383, gx_384, gx_385, gx_386, gx_387, gx_388, gx_389, gx_390, gx_391, gx_392, gx_393, gx_394, gx_395, gx_396, gx_397, gx_398, gx_399, gx_400, gx_401, gx_402, gx_403, gn_368, gn_369, gn_370, gn_371, gn_372, gn_373, gn_374, gn_375, gn_376, gn_377, gn_378, gn_379, gn_380, gn_381, gn_382, gn_383, gn_384, gn_385, gn_386, gn_387, gn_388, gn_389, gn_390, gn_391, gn_392, gn_393, gn_394, gn_395, gn_396, gn_397, gn_398, gn_399, gn_400, gn_401, gn_402, gn_403, e0, e1, e2, e3, e4, pl_w, pl_i, if_pos, if_neg]
  · intro j G ⟨q1, q2, q3, q4, q5, q6, q7, q8⟩
    have e0 : G 373 = F 373 := q2.r (by decide)
    refine ⟨G, ?_, q1, q2, q3, q4, q5, q6, q7, q8⟩
    show pfX12_laysViews_b303 pd_SH 5000 (j + 1) G 367 _ = _
    simp (disch := omega) only [pfX12_laysViews_b303, pl_l, pl_b, pl_iT, pl_t, pl_f, lm_1 q1, lm_14 q1, lm_15 q1, lm_16 q1, lm_17 q1, lm_18 q1, lm_19 q1, lm_20 q1, lm_21 q1, lm_22 q1, lm_23 q1, lm_24 q1, lm_25 q1, lm_26 q1, lm_27 q1, lm_28 q1, lm_29 q1, lm_30 q1, lm_31 q1, lm_32 q1, lm_33 q1, lm_34 q1, lm_35 q1, lm_36 q1, lm_37 q1, lm_39 q1, lm_40 q1, lm_42 q1, lm_43 q1, lm_44 q1, lm_45 q1, lm_47 q1, lm_48 q1, lm_49 q1, lm_50 q1, lm_51 q1, gx_367, gx_368, gx_369, gx_370, gx_371, gx_372, gx_373, gx_374, gx_375, gx_376, gx_377, gx_378, gx_379, gx_380, gx_381, gx_382, gx_383, gx_384, gx_385, gx_386, gx_387, gx_388, gx_389, gx_390, gx_391, gx_392, gx_393, gx_394, gx_395, gx_396, gx_397, gx_398, gx_399, gx_400, gx_401, gx_402, gx_403, gn_368, gn_369, gn_370, gn_371, gn_372, gn_373, gn_374, gn_375, gn_376, gn_377, gn_378, gn_379, gn_380, gn_381, gn_382, gn_383, gn_384, gn_385, gn_386, gn_387, gn_388, gn_389, gn_390, gn_391, gn_392, gn_393, gn_394, gn_395, gn_396, gn_397, gn_398, gn_399, gn_400, gn_401, gn_402, gn_403, e0, pl_w, pl_i, if_pos, if_neg]
theorem r_v265 (hb : bOk F) (hs : aOk F (F 393)) {G : pd_F} (g1 : pd_Ly G) (g2 : vF F G) (h1 : G 367 46 = sD F (F 393)) (h2 : ∀ p, 0 ≤ p → p < F 369 0 → G 398 p = sN F (F 393) p) (h3 : ∀ d, 0 ≤ d → d < 12 → G 400 d = sHas F (F 393) d) (h4 : ∀ d, 0 ≤ d → d < 12 → G 401 d = 0) (h5 : ∀ d, 0 ≤ d → d < 12 → G 402 d = 0) (h6 : ∀ d, 0 ≤ d → d < 12 → G 403 d = ci (sIn F (F 393) d) 1 0)
    (h7 : ∀ p, 0 ≤ p → p < 12 → G 397 p = sHg F (F 393) p) :
    ∃ F', pfX12_laysViews_b265 pd_SH 5000 5000 G 367 0 = some F' ∧ pd_Ly F' ∧ vF F F' ∧ vP F (F 393) F' := by
  obtain ⟨⟨b0, b1, b2, b3, b4, b5, b6, b7⟩, -, -, c1, -, c2, -⟩ := id hb
  refine pl_for (f := fun j (q : pd_F) i => pfX12_laysViews_b265 pd_SH 5000 j q 367 i)
    (P := fun i q => pd_Ly q ∧ vF F q ∧ q 367 46 = sD F (F 393) ∧ (∀ p, 0 ≤ p → p < F 369 0 → q 398 p = sN F (F 393) p) ∧ (∀ d, 0 ≤ d → d < 12 → q 400 d = sHas F (F 393) d) ∧ (∀ d, 0 ≤ d → d < 12 → q 401 d = 0) ∧ (∀ d, 0 ≤ d → d < 12 → q 402 d = Sm (fun p => if sN F (F 393) p = d then sHg F (F 393) p else 0) i) ∧ (∀ d, 0 ≤ d → d < 12 → q 403 d = ci (sIn F (F 393) d) 1 0) ∧ ∀ p, 0 ≤ p → p < 12 → q 397 p = sHg F (F 393) p) (N := F 369 0)
    (res := fun o => ∃ F', o = some F' ∧ pd_Ly F' ∧ vF F F' ∧ vP F (F 393) F') ?_ ?_ 5000 G 0 (by omega) b0 (by omega) ⟨g1, g2, h1, h2, h3, h4, fun d a b => by rw [h5 d a b, Sm_0], h6, h7⟩
  · intro j G i a b ⟨q1, q2, q3, q4, q5, q6, q7, q8, q9⟩
    left
    have e0 : G 369 = F 369 := q2.r (by decide)
    have n := sN_bd (D := F) (s := F 393) b0 a b
    have n2 := sD_bd (D := F) (s := F 393) b0
    have n3 := q4 i a b
    have n4 := q9 i a (by omega)
    have n5 := q7 (sN F (F 393) i) (by omega) (by omega)
    have bd := Sm_if (f := sN F (F 393)) (g := sHg F (F 393)) (d := sN F (F 393) i) a (fun p _ _ => sHg_bd hb hs)
    have bd2 := sHg_bd hb hs (p := i)
    refine ⟨pd_up G 402 (sN F (F 393) i) (Sm (fun p => if sN F (F 393) p = sN F (F 393) i then sHg F (F 393) p else 0) i + sHg F (F 393) i), ⟨q1.up (pl_rc0 sx_402 (by decide)), q2.up (by decide), by rw [pu_a (by decide)]; exact q3, by rw [pu_a (by decide)]; exact q4, by rw [pu_a (by decide)]; exact q5, by rw [pu_a (by decide)]; exact q6, ?_, by rw [pu_a (by decide)]; exact q8, by rw [pu_a (by decide)]; exact q9⟩, ?_⟩
    · intro d x y
      rw [pu_r, Sm_s a]
      by_cases z : d = sN F (F 393) i
      · rw [if_pos z, z, if_pos rfl]
      · rw [if_neg z, q7 d x y, if_neg (fun e => z e.symm)]; omega
    · show pfX12_laysViews_b265 pd_SH 5000 (j + 1) G 367 i = pfX12_laysViews_b265 pd_SH 5000 j _ 367 (i + 1)
      simp (disch := omega) only [pfX12_laysViews_b265, pl_l, pl_b, pl_iT, pl_t, pl_f, lm_1 q1, lm_14 q1, lm_15 q1, lm_16 q1, lm_17 q1, lm_18 q1, lm_19 q1, lm_20 q1, lm_21 q1, lm_22 q1, lm_23 q1, lm_24 q1, lm_25 q1, lm_26 q1, lm_27 q1, lm_28 q1, lm_29 q1, lm_30 q1, lm_31 q1, lm_32 q1, lm_33 q1, lm_34 q1, lm_35 q1, lm_36 q1, lm_37 q1, lm_39 q1, lm_40 q1, lm_42 q1, lm_43 q1, lm_44 q1, lm_45 q1, lm_47 q1, lm_48 q1, lm_49 q1, lm_50 q1, lm_51 q1, gx_367, gx_368, gx_369, gx_370, gx_371, gx_372, gx_373, gx_374, gx_375, gx_376, gx_377, gx_378, gx_379, gx_380, gx_381, gx_382, gx_383, gx_384, gx_385, gx_386, gx_387, gx_388, gx_389, gx_390, gx_391, gx_392, gx_393, gx_394, gx_395, gx_396, gx_397, gx_398, gx_399, gx_400, gx_401, gx_402, gx_403, gn_368, gn_369, gn_370, gn_371, gn_372, gn_373, gn_374, gn_375, gn_376, gn_377, gn_378, gn_379, gn_380, gn_381, gn_382, gn_383, gn_384, gn_385, gn_386, gn_387, gn_388, gn_389, gn_390, gn_391, gn_392, gn_393, gn_394, gn_395, gn_396, gn_397, gn_398, gn_399, gn_400, gn_401, gn_402, gn_403, e0, n3, n4, n5, pl_w, pl_W, pl_i, if_pos, if_neg]
  · intro j G ⟨q1, q2, q3, q4, q5, q6, q7, q8, q9⟩
    have e0 : G 369 = F 369 := q2.r (by decide)
    obtain ⟨F', k1, k2⟩ := r_v303 hb q1 q2 q3 q4 q5 q6 q7 q8
    refine ⟨F', ?_, k2⟩
    show pfX12_laysViews_b265 pd_SH 5000 (j + 1) G 367 _ = _
    simp (disch := omega) only [pfX12_laysViews_b265, pfX12_laysViews_b301, pl_l, pl_b, pl_iT, pl_t, pl_f, lm_1 q1, lm_14 q1, lm_15 q1, lm_16 q1, lm_17 q1, lm_18 q1, lm_19 q1, lm_20 q1, lm_21 q1, lm_22 q1, lm_23 q1, lm_24 q1, lm_25 q1, lm_26 q1, lm_27 q1, lm_28 q1, lm_29 q1, lm_30 q1, lm_31 q1, lm_32 q1, lm_33 q1, lm_34 q1, lm_35 q1, lm_36 q1, lm_37 q1, lm_39 q1, lm_40 q1, lm_42 q1, lm_43 q1, lm_44 q1, lm_45 q1, lm_47 q1, lm_48 q1, lm_49 q1, lm_50 q1, lm_51 q1, gx_367, gx_368, gx_369, gx_370, gx_371, gx_372, gx_373, gx_374, gx_375, gx_376, gx_377, gx_378, gx_379, gx_380, gx_381, gx_382, gx_383, gx_384, gx_385, gx_386, gx_387, gx_388, gx_389, gx_390, gx_391, gx_392, gx_393, gx_394, gx_395, gx_396, gx_397, gx_398, gx_399, gx_400, gx_401, gx_402, gx_403, gn_368, gn_369, gn_370, gn_371, gn_372, gn_373, gn_374, gn_375, gn_376, gn_377, gn_378, gn_379, gn_380, gn_381, gn_382, gn_383, gn_384, gn_385, gn_386, gn_387, gn_388, gn_389, gn_390, gn_391, gn_392, gn_393, gn_394, gn_395, gn_396, gn_397, gn_398, gn_399, gn_400, gn_401, gn_402, gn_403, e0, pl_w, pl_i, if_pos, if_neg, k1]
end Views

/-! the reference's state, and its answers that change nothing kept -/
def bE (D F : pd_F) : Prop := ∀ b, 369 ≤ b → b ≤ 390 → F b = D b
section EQ
variable {D F : pd_F} {s : Int → Int}
theorem e_sN (h : bE D F) (p : Int) : sN F s p = sN D s p := by
  unfold sN sC
  rw [h 369 (by decide) (by decide), h 375 (by decide) (by decide), h 376 (by decide) (by decide)]
theorem e_sD (h : bE D F) : sD F s = sD D s := by
  unfold sD sC
  rw [h 369 (by decide) (by decide), h 375 (by decide) (by decide), h 376 (by decide) (by decide)]
theorem e_gA (h : bE D F) (a p : Int) : gA F s a p = gA D s a p := by
  unfold gA
  rw [h 381 (by decide) (by decide), h 382 (by decide) (by decide), h 383 (by decide) (by decide)]
theorem e_gT (h : bE D F) (i p : Int) : gT F s i p = gT D s i p := by
  unfold gT gH
  rw [h 381 (by decide) (by decide), h 382 (by decide) (by decide), h 383 (by decide) (by decide), h 384 (by decide) (by decide), h 385 (by decide) (by decide), h 386 (by decide) (by decide), h 387 (by decide) (by decide)]
theorem e_sHas (h : bE D F) (d : Int) : sHas F s d = sHas D s d := by
  unfold sHas sG
  simp only [e_sN h, e_gA h, h 369 (by decide) (by decide), h 371 (by decide) (by decide)]
theorem e_sHi (h : bE D F) (d : Int) : sHi F s d = sHi D s d := by
  unfold sHi sHg
  simp only [e_sN h, e_gT h, h 369 (by decide) (by decide), h 372 (by decide) (by decide)]
theorem e_sOw (h : bE D F) (d : Int) : sOw F s d = sOw D s d := by
  have e : oT F s d = oT D s d := by
    funext l
    unfold oT
    rw [h 390 (by decide) (by decide), h 388 (by decide) (by decide), h 389 (by decide) (by decide), e_sN h]
  unfold sOw
  rw [e, h 373 (by decide) (by decide)]
theorem e_sIn (h : bE D F) (d : Int) : sIn F s d ↔ sIn D s d := by
  unfold sIn
  simp only [e_sN h, h 369 (by decide) (by decide), h 377 (by decide) (by decide)]
theorem e_bOk (h : bE D F) : bOk D → bOk F := by
  unfold bOk
  rw [h 369 (by decide) (by decide), h 370 (by decide) (by decide), h 371 (by decide) (by decide), h 372 (by decide) (by decide), h 373 (by decide) (by decide), h 375 (by decide) (by decide), h 377 (by decide) (by decide), h 381 (by decide) (by decide), h 382 (by decide) (by decide), h 383 (by decide) (by decide), h 384 (by decide) (by decide), h 385 (by decide) (by decide), h 388 (by decide) (by decide), h 389 (by decide) (by decide)]
  exact id
theorem e_aOk (h : bE D F) : aOk D s → aOk F s := by
  unfold aOk
  rw [h 371 (by decide) (by decide)]
  exact id
theorem e_vP (h : bE D F) {G : pd_F} (v : vP F s G) : vP D s G := by
  obtain ⟨v1, v2, v3, v4, v5, v6⟩ := v
  refine ⟨v1.trans (e_sD h), fun p a b => (v2 p a (by rw [h 369 (by decide) (by decide)]; exact b)).trans (e_sN h p), fun d a b => (v3 d a b).trans (e_sHas h d), fun d a b => (v4 d a b).trans (e_sOw h d), fun d a b => (v5 d a b).trans (e_sHi h d), fun d a b => (v6 d a b).trans (ci_c (e_sIn h d))⟩
end EQ
/-- the reference with the book D and the row of acts s -/
def rS (D : pd_F) (s : Int → Int) (F : pd_F) : Prop := pd_Ly F ∧ bE D F ∧ F 393 = s ∧ bOk D ∧ aOk D s
/-- what a call that only answers leaves -/
def qF (F G : pd_F) : Prop := (∀ b, b ≠ 367 → (b < 397 ∨ 403 < b) → G b = F b) ∧ ∀ j, j ≠ 46 → j ≠ 0 → G 367 j = F 367 j
theorem vF.q {F G : pd_F} (h : vF F G) : qF F G := ⟨h.1, fun j a _ => h.2 j a⟩
theorem qF.tr {F G H : pd_F} (h : qF F G) (g : qF G H) : qF F H := ⟨fun b a c => (g.1 b a c).trans (h.1 b a c), fun j a b => (g.2 j a b).trans (h.2 j a b)⟩
theorem qF.rf (F : pd_F) : qF F F := ⟨fun _ _ _ => rfl, fun _ _ _ => rfl⟩
theorem qF.th (F : pd_F) (v : Int) : qF F (pd_up F 367 0 v) := ⟨fun b x y => by rw [pu_a x], fun j x y => by rw [pu_r, if_neg y]⟩
theorem rS.q {D : pd_F} {s : Int → Int} {F G : pd_F} (h : rS D s F) (g : pd_Ly G) (q : qF F G) : rS D s G :=
  ⟨g, fun b x y => (q.1 b (by omega) (by omega)).trans (h.2.1 b x y), (q.1 393 (by decide) (by decide)).trans h.2.2.1, h.2.2.2⟩
theorem rS.th {D : pd_F} {s : Int → Int} {F : pd_F} (h : rS D s F) (v : Int) : rS D s (pd_up F 367 0 v) := h.q (h.1.up (pl_rc4 sx_367 (by decide))) (qF.th F v)
theorem rS.v {D : pd_F} {s : Int → Int} {F G : pd_F} (h : rS D s F) (g : pd_Ly G) (q : vF F G) : rS D s G := h.q g q.q
theorem rS.np {D : pd_F} {s : Int → Int} {F : pd_F} (h : rS D s F) : 0 ≤ F 369 0 ∧ F 369 0 ≤ 12 := by
  rw [h.2.1 369 (by decide) (by decide)]; have := h.2.2.2.1.1; exact ⟨this.1, this.2.1⟩
theorem rS.na {D : pd_F} {s : Int → Int} {F : pd_F} (h : rS D s F) : 0 ≤ F 371 0 ∧ F 371 0 ≤ 12 := by
  rw [h.2.1 371 (by decide) (by decide)]; have := h.2.2.2.1.1; exact ⟨this.2.2.2.2.1, Int.le_trans this.2.2.2.2.2.1 (by decide)⟩
section RQ
variable {D : pd_F} {s : Int → Int} {F : pd_F}
theorem q_lays (h : rS D s F) : ∃ F', pfX12_laysViews pd_SH 5000 F 367 = some F' ∧ rW D s F' ∧ rS D s F' ∧ vF F F' := by
  obtain ⟨g1, g2, g3, g4, g5⟩ := id h
  obtain ⟨F', f1, f2, f3, f4⟩ := r_laysViews g1 (e_bOk g2 g4) (by rw [g3]; exact e_aOk g2 g5)
  rw [g3] at f4
  have hS := h.v f2 f3
  exact ⟨F', f1, ⟨f2, hS.2.2.1, e_vP g2 f4, g4, g5⟩, hS, f3⟩
theorem q_deps (h : rS D s F) : ∃ F', pfX12_laysDepositors pd_SH 5000 F 367 = some F' ∧ rS D s F' ∧ vF F F' ∧ F' 367 46 = sD D s ∧ ∀ p, 0 ≤ p → p < D 369 0 → F' 398 p = sN D s p := by
  obtain ⟨g1, g2, g3, g4, g5⟩ := id h
  have b := h.np
  have eb := (e_bOk g2 g4).2.1
  obtain ⟨F', f1, f2, f3, f4, f5, f6⟩ := r_laysDepositors g1 (np := F 369 0) ⟨rfl, b⟩ ⟨eb, by rw [g3]; exact g5.2.1, by rw [g3]; exact g5.2.2.1⟩
  have v : vF F F' := ⟨fun b x y => f3 b x (by omega) (by omega), f4⟩
  refine ⟨F', f1, h.v f2 v, v, ?_, fun p x y => ?_⟩
  · rw [f5, g3]; exact e_sD g2
  · rw [f6 p x (by rw [g2 369 (by decide) (by decide)]; exact y), g3]; exact e_sN g2 p
theorem q_paidNow (h : rS D s F) : ∃ F', pfX12_paidNow pd_SH 5000 F 367 = some (cPU D s (s 72), F') ∧ rW D s F' ∧ rS D s F' ∧ vF F F' := by
  obtain ⟨F', f1, f2, f3, f4⟩ := q_lays h
  have e := h.2.2.2.2.2.2.2.1
  refine ⟨F', ?_, f2, f3, f4⟩
  unfold pfX12_paidNow
  simp only [pl_l, pl_b, pl_iT, pl_t, pl_f, gx_367, gx_368, gx_369, gx_370, gx_371, gx_372, gx_373, gx_374, gx_375, gx_376, gx_377, gx_378, gx_379, gx_380, gx_381, gx_382, gx_383, gx_384, gx_385, gx_386, gx_387, gx_388, gx_389, gx_390, gx_391, gx_392, gx_393, gx_394, gx_395, gx_396, gx_397, gx_398, gx_399, gx_400, gx_401, gx_402, gx_403, gn_368, gn_369, gn_370, gn_371, gn_372, gn_373, gn_374, gn_375, gn_376, gn_377, gn_378, gn_379, gn_380, gn_381, gn_382, gn_383, gn_384, gn_385, gn_386, gn_387, gn_388, gn_389, gn_390, gn_391, gn_392, gn_393, gn_394, gn_395, gn_396, gn_397, gn_398, gn_399, gn_400, gn_401, gn_402, gn_403, f1, lm_1 f2.1, lm_14 f2.1, lm_15 f2.1, lm_16 f2.1, lm_17 f2.1, lm_18 f2.1, lm_19 f2.1, lm_20 f2.1, lm_21 f2.1, lm_22 f2.1, lm_23 f2.1, lm_24 f2.1, lm_25 f2.1, lm_26 f2.1, lm_27 f2.1, lm_28 f2.1, lm_29 f2.1, lm_30 f2.1, lm_31 f2.1, lm_32 f2.1, lm_33 f2.1, lm_34 f2.1, lm_35 f2.1, lm_36 f2.1, lm_37 f2.1, lm_39 f2.1, lm_40 f2.1, lm_42 f2.1, lm_43 f2.1, lm_44 f2.1, lm_45 f2.1, lm_47 f2.1, lm_48 f2.1, lm_49 f2.1, lm_50 f2.1, lm_51 f2.1, f2.2.1]
  rw [pl_i (by omega), r_paidAll f2 (by omega)]
  simp only [pl_l, pl_b, pl_iT, pl_t, pl_f]
theorem q_fails (h : rS D s F) {a : Int} (h0 : 0 ≤ a) (h1 : a < D 371 0) : pfX12_fails pd_SH 5000 8 F 367 (5 + a) = some (ci (lFl (D 381) (D 382) (D 383) 8 (5 + a)) 1 0, F) := by
  have e := r_fails8 h.2.2.2.1 h.1 (h.2.1 381 (by decide) (by decide)) (h.2.1 382 (by decide) (by decide)) (h.2.1 383 (by decide) (by decide)) h0 h1
  exact e
theorem q_trust (h : rS D s F) {t w : Int} : ∃ F', pfX12_trust pd_SH 5000 F 367 t w = some (if 0 ≤ t ∧ t < D 370 0 then (if w = 0 then D 381 t else if w = 1 then lW (D 383) t (D 381 t) else if w = 2 then ci (lFl (D 381) (D 382) (D 383) 8 t) 1 0 else if w = 3 then lDp (D 381) (D 382) 8 t else -1) else -1, F') ∧ pd_Ly F' ∧ qF F F' := by
  have h' := h.th 0
  refine ⟨_, ?_, h'.1, qF.th F 0⟩
  obtain ⟨g1, g2, g3, g4, g5⟩ := id h'
  obtain ⟨⟨b0, b1, b2, b3, b4, b5, b6, b7⟩, -⟩ := id g4
  unfold pfX12_trust
  simp only [pl_l, pl_b, pl_iT, pl_t, pl_f, gx_367, gx_368, gx_369, gx_370, gx_371, gx_372, gx_373, gx_374, gx_375, gx_376, gx_377, gx_378, gx_379, gx_380, gx_381, gx_382, gx_383, gx_384, gx_385, gx_386, gx_387, gx_388, gx_389, gx_390, gx_391, gx_392, gx_393, gx_394, gx_395, gx_396, gx_397, gx_398, gx_399, gx_400, gx_401, gx_402, gx_403, gn_368, gn_369, gn_370, gn_371, gn_372, gn_373, gn_374, gn_375, gn_376, gn_377, gn_378, gn_379, gn_380, gn_381, gn_382, gn_383, gn_384, gn_385, gn_386, gn_387, gn_388, gn_389, gn_390, gn_391, gn_392, gn_393, gn_394, gn_395, gn_396, gn_397, gn_398, gn_399, gn_400, gn_401, gn_402, gn_403, lm_1 g1, lm_14 g1, lm_15 g1, lm_16 g1, lm_17 g1, lm_18 g1, lm_19 g1, lm_20 g1, lm_21 g1, lm_22 g1, lm_23 g1, lm_24 g1, lm_25 g1, lm_26 g1, lm_27 g1, lm_28 g1, lm_29 g1, lm_30 g1, lm_31 g1, lm_32 g1, lm_33 g1, lm_34 g1, lm_35 g1, lm_36 g1, lm_37 g1, lm_39 g1, lm_40 g1, lm_42 g1, lm_43 g1, lm_44 g1, lm_45 g1, lm_47 g1, lm_48 g1, lm_49 g1, lm_50 g1, lm_51 g1, g2 370 (by decide) (by decide)]
  rw [pl_i (by omega), r_within, pl_w (by omega)]
  by_cases k : 0 ≤ t ∧ t < D 370 0
  · have ht := b6 t k.1 k.2
    have e1 := g2 381 (by decide) (by decide)
    have e2 := g2 382 (by decide) (by decide)
    have e3 := g2 383 (by decide) (by decide)
    have k1 := r_weights g1 (l := t) (by omega) (by rw [e1]; exact ⟨ht.1, ht.2.1⟩) (by rw [e1, e3]; exact fun i a b => (ht.2.2 i a b).2)
    have k2 := r_fails g1 (np := D 369 0) b1 8 t t (by omega) (by rw [e1, e2, e3]; exact ht) (by rw [e1, e2, e3]; exact fun x a b => b6 x a (by omega)) k.1 (by omega) (by omega)
    have k3 := r_deepOf g1 (np := D 369 0) b1 8 t t (by omega) (by omega) (by rw [e1, e2, e3]; exact ht) (by rw [e1, e2, e3]; exact fun x a b => b6 x a (by omega)) k.1 (by omega) (by omega)
    rw [e1, e3] at k1
    rw [e1, e2, e3] at k2
    rw [e1, e2] at k3
    rw [if_pos (show 0 ≤ t ∧ t ≤ D 370 0 - 1 by omega), if_pos k]
    simp only [pl_l, pl_b, pl_iT, pl_t, pl_f, gx_367, gx_368, gx_369, gx_370, gx_371, gx_372, gx_373, gx_374, gx_375, gx_376, gx_377, gx_378, gx_379, gx_380, gx_381, gx_382, gx_383, gx_384, gx_385, gx_386, gx_387, gx_388, gx_389, gx_390, gx_391, gx_392, gx_393, gx_394, gx_395, gx_396, gx_397, gx_398, gx_399, gx_400, gx_401, gx_402, gx_403, gn_368, gn_369, gn_370, gn_371, gn_372, gn_373, gn_374, gn_375, gn_376, gn_377, gn_378, gn_379, gn_380, gn_381, gn_382, gn_383, gn_384, gn_385, gn_386, gn_387, gn_388, gn_389, gn_390, gn_391, gn_392, gn_393, gn_394, gn_395, gn_396, gn_397, gn_398, gn_399, gn_400, gn_401, gn_402, gn_403, lm_1 g1, lm_14 g1, lm_15 g1, lm_16 g1, lm_17 g1, lm_18 g1, lm_19 g1, lm_20 g1, lm_21 g1, lm_22 g1, lm_23 g1, lm_24 g1, lm_25 g1, lm_26 g1, lm_27 g1, lm_28 g1, lm_29 g1, lm_30 g1, lm_31 g1, lm_32 g1, lm_33 g1, lm_34 g1, lm_35 g1, lm_36 g1, lm_37 g1, lm_39 g1, lm_40 g1, lm_42 g1, lm_43 g1, lm_44 g1, lm_45 g1, lm_47 g1, lm_48 g1, lm_49 g1, lm_50 g1, lm_51 g1, e1, k1, k2, k3]
    rw [if_pos (by decide), pl_i (by omega)]
    by_cases w0 : w = 0
    · rw [if_pos w0, if_pos w0]
    by_cases w1 : w = 1
    · rw [if_neg w0, if_pos w1, if_neg w0, if_pos w1]
    by_cases w2 : w = 2
    · rw [if_neg w0, if_neg w1, if_pos w2, if_neg w0, if_neg w1, if_pos w2]
      rcases ci_o (lFl (D 381) (D 382) (D 383) 8 t) (1 : Int) 0 with z | z
      · rw [z.2, if_neg (by decide)]
      · rw [z.2, if_pos rfl]
    by_cases w3 : w = 3
    · rw [if_neg w0, if_neg w1, if_neg w2, if_pos w3, if_neg w0, if_neg w1, if_neg w2, if_pos w3]
    · rw [if_neg w0, if_neg w1, if_neg w2, if_neg w3, if_neg w0, if_neg w1, if_neg w2, if_neg w3]
  · rw [if_neg (show ¬ (0 ≤ t ∧ t ≤ D 370 0 - 1) by omega), if_neg k]
    simp only [pl_l, pl_b, pl_iT, pl_t, pl_f]
    rw [if_neg (by decide)]
theorem q_waysOf (h : rS D s F) {a p : Int} (h0 : 0 ≤ a) (h1 : a < D 371 0) : pfX12_waysOf pd_SH 5000 8 F 367 (5 + a) p = some (lWy (D 381) (D 382) 8 (5 + a) p, F) := by
  obtain ⟨g1, g2, g3, g4, g5⟩ := id h
  obtain ⟨⟨b0, b1, b2, b3, b4, b5, b6, b7⟩, -⟩ := id g4
  have e1 := g2 381 (by decide) (by decide)
  have e2 := g2 382 (by decide) (by decide)
  have e3 := g2 383 (by decide) (by decide)
  have := r_waysOf g1 (np := D 369 0) (p := p) b1 8 (5 + a) (D 370 0) (by omega) (by omega) (by rw [e1, e2, e3]; exact b7 a h0 h1) (by rw [e1, e2, e3]; exact b6) b2 (by omega) b3
  rw [e1, e2] at this
  exact this
theorem q_ways (h : rS D s F) {a p : Int} : ∃ F', pfX12_ways pd_SH 5000 F 367 a p = some (if (0 ≤ a ∧ a < D 371 0) ∧ 0 ≤ p ∧ p < D 369 0 then lWy (D 381) (D 382) 8 (5 + a) p else -1, F') ∧ pd_Ly F' ∧ qF F F' := by
  have h' := h.th 0
  refine ⟨_, ?_, h'.1, qF.th F 0⟩
  have n1 := h'.np
  have n2 := h'.na
  unfold pfX12_ways
  simp only [pl_l, pl_b, pl_iT, pl_t, pl_f, gx_367, gx_368, gx_369, gx_370, gx_371, gx_372, gx_373, gx_374, gx_375, gx_376, gx_377, gx_378, gx_379, gx_380, gx_381, gx_382, gx_383, gx_384, gx_385, gx_386, gx_387, gx_388, gx_389, gx_390, gx_391, gx_392, gx_393, gx_394, gx_395, gx_396, gx_397, gx_398, gx_399, gx_400, gx_401, gx_402, gx_403, gn_368, gn_369, gn_370, gn_371, gn_372, gn_373, gn_374, gn_375, gn_376, gn_377, gn_378, gn_379, gn_380, gn_381, gn_382, gn_383, gn_384, gn_385, gn_386, gn_387, gn_388, gn_389, gn_390, gn_391, gn_392, gn_393, gn_394, gn_395, gn_396, gn_397, gn_398, gn_399, gn_400, gn_401, gn_402, gn_403, r_isAccount h'.1 n2, r_isPerson h'.1 n1]
  rw [h'.2.1 371 (by decide) (by decide), h'.2.1 369 (by decide) (by decide)]
  rw [h'.2.1 371 (by decide) (by decide)] at n2
  by_cases k : 0 ≤ a ∧ a < D 371 0
  · rw [if_pos k, if_neg (by decide)]
    by_cases k2 : 0 ≤ p ∧ p < D 369 0
    · rw [if_pos k2, if_neg (by decide), if_pos ⟨k, k2⟩, r_listOf (by omega)]
      simp only [pl_l, pl_b, pl_iT, pl_t, pl_f, q_waysOf h' k.1 k.2]
    · rw [if_neg k2, if_pos rfl, if_neg (fun z => k2 z.2)]
  · rw [if_neg k, if_pos rfl, if_neg (fun z => k z.1)]
theorem q_reaches (h : rS D s F) {a : Int} (h0 : 0 ≤ a) (h1 : a < D 371 0) : pfX12_reaches pd_SH 5000 F 367 a = some (Sm (fun p => if lWy (D 381) (D 382) 8 (5 + a) p ≤ 0 then 0 else 1) (D 369 0), F) := by
  have n1 := h.np
  have n2 := h.na
  rw [h.2.1 369 (by decide) (by decide)] at n1
  rw [h.2.1 371 (by decide) (by decide)] at n2
  unfold pfX12_reaches
  refine pl_for (f := fun k (q : Int) i => pfX12_reaches_b4 pd_SH 5000 k F 367 a q i) (P := fun i q => q = Sm (fun p => if lWy (D 381) (D 382) 8 (5 + a) p ≤ 0 then 0 else 1) i ∧ 0 ≤ q ∧ q ≤ i) (N := D 369 0) (res := fun o => o = some (Sm (fun p => if lWy (D 381) (D 382) 8 (5 + a) p ≤ 0 then 0 else 1) (D 369 0), F)) ?_ ?_ 5000 0 0 (by omega) n1.1 (by omega) ⟨rfl, by omega, by omega⟩
  · intro k q i x y ⟨e, e1, e2⟩
    refine Or.inl ⟨q + (if lWy (D 381) (D 382) 8 (5 + a) i ≤ 0 then 0 else 1), ⟨by rw [e, Sm_s x], by split <;> omega, by split <;> omega⟩, ?_⟩
    show pfX12_reaches_b4 pd_SH 5000 (k + 1) F 367 a q i = pfX12_reaches_b4 pd_SH 5000 k F 367 a _ (i + 1)
    by_cases z : lWy (D 381) (D 382) 8 (5 + a) i ≤ 0
    · simp (disch := omega) only [pfX12_reaches_b4, pfX12_reaches_b32, pl_l, pl_b, pl_iT, pl_t, pl_f, gx_367, gx_368, gx_369, gx_370, gx_371, gx_372, gx_373, gx_374, gx_375, gx_376, gx_377, gx_378, gx_379, gx_380, gx_381, gx_382, gx_383, gx_384, gx_385, gx_386, gx_387, gx_388, gx_389, gx_390, gx_391, gx_392, gx_393, gx_394, gx_395, gx_396, gx_397, gx_398, gx_399, gx_400, gx_401, gx_402, gx_403, gn_368, gn_369, gn_370, gn_371, gn_372, gn_373, gn_374, gn_375, gn_376, gn_377, gn_378, gn_379, gn_380, gn_381, gn_382, gn_383, gn_384, gn_385, gn_386, gn_387, gn_388, gn_389, gn_390, gn_391, gn_392, gn_393, gn_394, gn_395, gn_396, gn_397, gn_398, gn_399, gn_400, gn_401, gn_402, gn_403, lm_1 h.1, lm_14 h.1, lm_15 h.1, lm_16 h.1, lm_17 h.1, lm_18 h.1, lm_19 h.1, lm_20 h.1, lm_21 h.1, lm_22 h.1, lm_23 h.1, lm_24 h.1, lm_25 h.1, lm_26 h.1, lm_27 h.1, lm_28 h.1, lm_29 h.1, lm_30 h.1, lm_31 h.1, lm_32 h.1, lm_33 h.1, lm_34 h.1, lm_35 h.1, lm_36 h.1, lm_37 h.1, lm_39 h.1, lm_40 h.1, lm_42 h.1, lm_43 h.1, lm_44 h.1, lm_45 h.1, lm_47 h.1, lm_48 h.1, lm_49 h.1, lm_50 h.1, lm_51 h.1, h.2.1 369 (by decide) (by decide), r_listOf (G := F) (a := a) (by omega), q_waysOf h h0 h1, pl_i, pl_w, if_pos, if_neg]
    · simp (disch := omega) only [pfX12_reaches_b4, pfX12_reaches_b32, pl_l, pl_b, pl_iT, pl_t, pl_f, gx_367, gx_368, gx_369, gx_370, gx_371, gx_372, gx_373, gx_374, gx_375, gx_376, gx_377, gx_378, gx_379, gx_380, gx_381, gx_382, gx_383, gx_384, gx_385, gx_386, gx_387, gx_388, gx_389, gx_390, gx_391, gx_392, gx_393, gx_394, gx_395, gx_396, gx_397, gx_398, gx_399, gx_400, gx_401, gx_402, gx_403, gn_368, gn_369, gn_370, gn_371, gn_372, gn_373, gn_374, gn_375, gn_376, gn_377, gn_378, gn_379, gn_380, gn_381, gn_382, gn_383, gn_384, gn_385, gn_386, gn_387, gn_388, gn_389, gn_390, gn_391, gn_392, gn_393, gn_394, gn_395, gn_396, gn_397, gn_398, gn_399, gn_400, gn_401, gn_402, gn_403, lm_1 h.1, lm_14 h.1, lm_15 h.1, lm_16 h.1, lm_17 h.1, lm_18 h.1, lm_19 h.1, lm_20 h.1, lm_21 h.1, lm_22 h.1, lm_23 h.1, lm_24 h.1, lm_25 h.1, lm_26 h.1, lm_27 h.1, lm_28 h.1, lm_29 h.1, lm_30 h.1, lm_31 h.1, lm_32 h.1, lm_33 h.1, lm_34 h.1, lm_35 h.1, lm_36 h.1, lm_37 h.1, lm_39 h.1, lm_40 h.1, lm_42 h.1, lm_43 h.1, lm_44 h.1, lm_45 h.1, lm_47 h.1, lm_48 h.1, lm_49 h.1, lm_50 h.1, lm_51 h.1, h.2.1 369 (by decide) (by decide), r_listOf (G := F) (a := a) (by omega), q_waysOf h h0 h1, pl_i, pl_w, if_pos, if_neg]
  · intro k q ⟨e, e1, e2⟩
    show pfX12_reaches_b4 pd_SH 5000 (k + 1) F 367 a q _ = _
    simp (disch := omega) only [pfX12_reaches_b4, pl_l, pl_b, pl_iT, pl_t, pl_f, gx_367, gx_368, gx_369, gx_370, gx_371, gx_372, gx_373, gx_374, gx_375, gx_376, gx_377, gx_378, gx_379, gx_380, gx_381, gx_382, gx_383, gx_384, gx_385, gx_386, gx_387, gx_388, gx_389, gx_390, gx_391, gx_392, gx_393, gx_394, gx_395, gx_396, gx_397, gx_398, gx_399, gx_400, gx_401, gx_402, gx_403, gn_368, gn_369, gn_370, gn_371, gn_372, gn_373, gn_374, gn_375, gn_376, gn_377, gn_378, gn_379, gn_380, gn_381, gn_382, gn_383, gn_384, gn_385, gn_386, gn_387, gn_388, gn_389, gn_390, gn_391, gn_392, gn_393, gn_394, gn_395, gn_396, gn_397, gn_398, gn_399, gn_400, gn_401, gn_402, gn_403, lm_1 h.1, lm_14 h.1, lm_15 h.1, lm_16 h.1, lm_17 h.1, lm_18 h.1, lm_19 h.1, lm_20 h.1, lm_21 h.1, lm_22 h.1, lm_23 h.1, lm_24 h.1, lm_25 h.1, lm_26 h.1, lm_27 h.1, lm_28 h.1, lm_29 h.1, lm_30 h.1, lm_31 h.1, lm_32 h.1, lm_33 h.1, lm_34 h.1, lm_35 h.1, lm_36 h.1, lm_37 h.1, lm_39 h.1, lm_40 h.1, lm_42 h.1, lm_43 h.1, lm_44 h.1, lm_45 h.1, lm_47 h.1, lm_48 h.1, lm_49 h.1, lm_50 h.1, lm_51 h.1, h.2.1 369 (by decide) (by decide), pl_i, pl_w, if_pos, if_neg]
    rw [e]
theorem q_account (h : rS D s F) {a w : Int} : ∃ F', pfX12_account pd_SH 5000 F 367 a w = some (if 0 ≤ a ∧ a < D 371 0 then (if w = 0 then s a else if w = 1 then D 381 (5 + a) else if w = 2 then ci (lFl (D 381) (D 382) (D 383) 8 (5 + a)) 1 0 else if w = 3 then Sm (fun p => if lWy (D 381) (D 382) 8 (5 + a) p ≤ 0 then 0 else 1) (D 369 0) else -1) else -1, F') ∧ pd_Ly F' ∧ qF F F' := by
  have h' := h.th 0
  refine ⟨_, ?_, h'.1, qF.th F 0⟩
  have n2 := h'.na
  unfold pfX12_account
  simp only [pl_l, pl_b, pl_iT, pl_t, pl_f, gx_367, gx_368, gx_369, gx_370, gx_371, gx_372, gx_373, gx_374, gx_375, gx_376, gx_377, gx_378, gx_379, gx_380, gx_381, gx_382, gx_383, gx_384, gx_385, gx_386, gx_387, gx_388, gx_389, gx_390, gx_391, gx_392, gx_393, gx_394, gx_395, gx_396, gx_397, gx_398, gx_399, gx_400, gx_401, gx_402, gx_403, gn_368, gn_369, gn_370, gn_371, gn_372, gn_373, gn_374, gn_375, gn_376, gn_377, gn_378, gn_379, gn_380, gn_381, gn_382, gn_383, gn_384, gn_385, gn_386, gn_387, gn_388, gn_389, gn_390, gn_391, gn_392, gn_393, gn_394, gn_395, gn_396, gn_397, gn_398, gn_399, gn_400, gn_401, gn_402, gn_403, r_isAccount h'.1 n2]
  rw [h'.2.1 371 (by decide) (by decide)] at n2 ⊢
  by_cases k : 0 ≤ a ∧ a < D 371 0
  · rw [if_pos k, if_pos (by decide), if_pos k]
    simp only [r_listOf (a := a) (show 0 ≤ a ∧ a < 1000 by omega), pl_l, pl_b, pl_iT, pl_t, pl_f, gx_367, gx_368, gx_369, gx_370, gx_371, gx_372, gx_373, gx_374, gx_375, gx_376, gx_377, gx_378, gx_379, gx_380, gx_381, gx_382, gx_383, gx_384, gx_385, gx_386, gx_387, gx_388, gx_389, gx_390, gx_391, gx_392, gx_393, gx_394, gx_395, gx_396, gx_397, gx_398, gx_399, gx_400, gx_401, gx_402, gx_403, gn_368, gn_369, gn_370, gn_371, gn_372, gn_373, gn_374, gn_375, gn_376, gn_377, gn_378, gn_379, gn_380, gn_381, gn_382, gn_383, gn_384, gn_385, gn_386, gn_387, gn_388, gn_389, gn_390, gn_391, gn_392, gn_393, gn_394, gn_395, gn_396, gn_397, gn_398, gn_399, gn_400, gn_401, gn_402, gn_403, lm_1 h'.1, lm_14 h'.1, lm_15 h'.1, lm_16 h'.1, lm_17 h'.1, lm_18 h'.1, lm_19 h'.1, lm_20 h'.1, lm_21 h'.1, lm_22 h'.1, lm_23 h'.1, lm_24 h'.1, lm_25 h'.1, lm_26 h'.1, lm_27 h'.1, lm_28 h'.1, lm_29 h'.1, lm_30 h'.1, lm_31 h'.1, lm_32 h'.1, lm_33 h'.1, lm_34 h'.1, lm_35 h'.1, lm_36 h'.1, lm_37 h'.1, lm_39 h'.1, lm_40 h'.1, lm_42 h'.1, lm_43 h'.1, lm_44 h'.1, lm_45 h'.1, lm_47 h'.1, lm_48 h'.1, lm_49 h'.1, lm_50 h'.1, lm_51 h'.1, h'.2.2.1, h'.2.1 381 (by decide) (by decide), q_fails h' k.1 k.2, q_reaches h' k.1 k.2]
    by_cases w0 : w = 0
    · rw [if_pos w0, if_pos w0, pl_i (by omega)]
    by_cases w1 : w = 1
    · rw [if_neg w0, if_pos w1, if_neg w0, if_pos w1, pl_i (by omega)]
    by_cases w2 : w = 2
    · rw [if_neg w0, if_neg w1, if_pos w2, if_neg w0, if_neg w1, if_pos w2]
      rcases ci_o (lFl (D 381) (D 382) (D 383) 8 (5 + a)) (1 : Int) 0 with z | z
      · rw [z.2, if_neg (by decide)]
      · rw [z.2, if_pos rfl]
    by_cases w3 : w = 3
    · rw [if_neg w0, if_neg w1, if_neg w2, if_pos w3, if_neg w0, if_neg w1, if_neg w2, if_pos w3]
    · rw [if_neg w0, if_neg w1, if_neg w2, if_neg w3, if_neg w0, if_neg w1, if_neg w2, if_neg w3]
  · rw [if_neg k, if_neg (by decide), if_neg k]
theorem q_share (h : rS D s F) {a p : Int} : ∃ F' v, pfX12_share pd_SH 5000 F 367 a p = some (v, F') ∧ pd_Ly F' ∧ qF F F' ∧ ((((0 ≤ a ∧ a < D 371 0) ∧ 0 ≤ p ∧ p < D 369 0) ∧ F' 367 0 = 0 ∧ v = gA D s a p) ∨ (¬ ((0 ≤ a ∧ a < D 371 0) ∧ 0 ≤ p ∧ p < D 369 0) ∧ F' 367 0 = 1)) := by
  have n1 := h.np
  have n2 := h.na
  unfold pfX12_share
  simp only [pl_l, pl_b, pl_iT, pl_t, pl_f, gx_367, gx_368, gx_369, gx_370, gx_371, gx_372, gx_373, gx_374, gx_375, gx_376, gx_377, gx_378, gx_379, gx_380, gx_381, gx_382, gx_383, gx_384, gx_385, gx_386, gx_387, gx_388, gx_389, gx_390, gx_391, gx_392, gx_393, gx_394, gx_395, gx_396, gx_397, gx_398, gx_399, gx_400, gx_401, gx_402, gx_403, gn_368, gn_369, gn_370, gn_371, gn_372, gn_373, gn_374, gn_375, gn_376, gn_377, gn_378, gn_379, gn_380, gn_381, gn_382, gn_383, gn_384, gn_385, gn_386, gn_387, gn_388, gn_389, gn_390, gn_391, gn_392, gn_393, gn_394, gn_395, gn_396, gn_397, gn_398, gn_399, gn_400, gn_401, gn_402, gn_403, r_isAccount h.1 n2, r_isPerson h.1 n1, pfX12_share_b21]
  rw [h.2.1 371 (by decide) (by decide)] at n2 ⊢
  rw [h.2.1 369 (by decide) (by decide)] at n1 ⊢
  have bad : ∃ F' v, pfX12_share_b22 pd_SH 5000 F 367 a p 1 367 = some (v, F') ∧ pd_Ly F' ∧ qF F F' ∧ F' 367 0 = 1 := by
    refine ⟨pd_up F 367 0 1, 0, ?_, (h.th 1).1, qF.th F 1, by rw [pu_r, if_pos rfl]⟩
    unfold pfX12_share_b22
    simp only [pl_l, pl_b, pl_iT, pl_t, pl_f, gx_367, gx_368, gx_369, gx_370, gx_371, gx_372, gx_373, gx_374, gx_375, gx_376, gx_377, gx_378, gx_379, gx_380, gx_381, gx_382, gx_383, gx_384, gx_385, gx_386, gx_387, gx_388, gx_389, gx_390, gx_391, gx_392, gx_393, gx_394, gx_395, gx_396, gx_397, gx_398, gx_399, gx_400, gx_401, gx_402, gx_403, gn_368, gn_369, gn_370, gn_371, gn_372, gn_373, gn_374, gn_375, gn_376, gn_377, gn_378, gn_379, gn_380, gn_381, gn_382, gn_383, gn_384, gn_385, gn_386, gn_387, gn_388, gn_389, gn_390, gn_391, gn_392, gn_393, gn_394, gn_395, gn_396, gn_397, gn_398, gn_399, gn_400, gn_401, gn_402, gn_403]
    rw [if_pos (by rw [pu_r, if_pos rfl])]
  by_cases k : 0 ≤ a ∧ a < D 371 0
  · rw [if_pos k, if_neg (by decide)]
    by_cases k2 : 0 ≤ p ∧ p < D 369 0
    · rw [if_pos k2, if_neg (by decide)]
      have h' := h.th 0
      have t0 : pd_up F 367 0 0 367 0 = 0 := by rw [pu_r, if_pos rfl]
      unfold pfX12_share_b22
      simp only [pl_l, pl_b, pl_iT, pl_t, pl_f, gx_367, gx_368, gx_369, gx_370, gx_371, gx_372, gx_373, gx_374, gx_375, gx_376, gx_377, gx_378, gx_379, gx_380, gx_381, gx_382, gx_383, gx_384, gx_385, gx_386, gx_387, gx_388, gx_389, gx_390, gx_391, gx_392, gx_393, gx_394, gx_395, gx_396, gx_397, gx_398, gx_399, gx_400, gx_401, gx_402, gx_403, gn_368, gn_369, gn_370, gn_371, gn_372, gn_373, gn_374, gn_375, gn_376, gn_377, gn_378, gn_379, gn_380, gn_381, gn_382, gn_383, gn_384, gn_385, gn_386, gn_387, gn_388, gn_389, gn_390, gn_391, gn_392, gn_393, gn_394, gn_395, gn_396, gn_397, gn_398, gn_399, gn_400, gn_401, gn_402, gn_403, t0, r_listOf (a := a) (show 0 ≤ a ∧ a < 1000 by omega), q_fails h' k.1 k.2]
      rw [if_neg (by decide)]
      rcases ci_o (lFl (D 381) (D 382) (D 383) 8 (5 + a)) (1 : Int) 0 with z | z
      · rw [z.2, if_neg (by decide)]
        exact ⟨_, _, rfl, h'.1, qF.th F 0, Or.inl ⟨⟨k, k2⟩, t0, by unfold gA; rw [ci_t z.1]⟩⟩
      · rw [z.2, if_pos rfl]
        obtain ⟨G, f1, f2, f3, f4⟩ := r_sharesNothing h'.1
        have v1 : vF (pd_up F 367 0 0) G := (vF.rf _).row (by decide) f3
        have h2 := h'.v f2 v1
        have sb := h.2.2.2.2.1 a k.1 k.2
        obtain ⟨H, g1, g2, g3, g4⟩ := r_gives8 h.2.2.2.1 f2 (h2.2.1 381 (by decide) (by decide)) (h2.2.1 382 (by decide) (by decide)) (h2.2.1 383 (by decide) (by decide)) (v := s a) k.1 k.2 z.1 sb (fun p x y => by rw [f4 p x y]; omega)
        simp only [f1, pl_l, pl_b, pl_iT, pl_t, pl_f, gx_367, gx_368, gx_369, gx_370, gx_371, gx_372, gx_373, gx_374, gx_375, gx_376, gx_377, gx_378, gx_379, gx_380, gx_381, gx_382, gx_383, gx_384, gx_385, gx_386, gx_387, gx_388, gx_389, gx_390, gx_391, gx_392, gx_393, gx_394, gx_395, gx_396, gx_397, gx_398, gx_399, gx_400, gx_401, gx_402, gx_403, gn_368, gn_369, gn_370, gn_371, gn_372, gn_373, gn_374, gn_375, gn_376, gn_377, gn_378, gn_379, gn_380, gn_381, gn_382, gn_383, gn_384, gn_385, gn_386, gn_387, gn_388, gn_389, gn_390, gn_391, gn_392, gn_393, gn_394, gn_395, gn_396, gn_397, gn_398, gn_399, gn_400, gn_401, gn_402, gn_403, lm_1 f2, lm_14 f2, lm_15 f2, lm_16 f2, lm_17 f2, lm_18 f2, lm_19 f2, lm_20 f2, lm_21 f2, lm_22 f2, lm_23 f2, lm_24 f2, lm_25 f2, lm_26 f2, lm_27 f2, lm_28 f2, lm_29 f2, lm_30 f2, lm_31 f2, lm_32 f2, lm_33 f2, lm_34 f2, lm_35 f2, lm_36 f2, lm_37 f2, lm_39 f2, lm_40 f2, lm_42 f2, lm_43 f2, lm_44 f2, lm_45 f2, lm_47 f2, lm_48 f2, lm_49 f2, lm_50 f2, lm_51 f2, h2.2.2.1, r_listOf (a := a) (show 0 ≤ a ∧ a < 1000 by omega)]
        rw [pl_i (by omega), g1]
        have lb := lGv8_bd h.2.2.2.1 k.1 k.2 sb.1 z.1 (p := p)
        have gp := g4 p k2.1 (by omega)
        rw [f4 p k2.1 (by omega)] at gp
        simp only [pl_l, pl_b, pl_iT, pl_t, pl_f, gx_367, gx_368, gx_369, gx_370, gx_371, gx_372, gx_373, gx_374, gx_375, gx_376, gx_377, gx_378, gx_379, gx_380, gx_381, gx_382, gx_383, gx_384, gx_385, gx_386, gx_387, gx_388, gx_389, gx_390, gx_391, gx_392, gx_393, gx_394, gx_395, gx_396, gx_397, gx_398, gx_399, gx_400, gx_401, gx_402, gx_403, gn_368, gn_369, gn_370, gn_371, gn_372, gn_373, gn_374, gn_375, gn_376, gn_377, gn_378, gn_379, gn_380, gn_381, gn_382, gn_383, gn_384, gn_385, gn_386, gn_387, gn_388, gn_389, gn_390, gn_391, gn_392, gn_393, gn_394, gn_395, gn_396, gn_397, gn_398, gn_399, gn_400, gn_401, gn_402, gn_403, lm_1 g2, lm_14 g2, lm_15 g2, lm_16 g2, lm_17 g2, lm_18 g2, lm_19 g2, lm_20 g2, lm_21 g2, lm_22 g2, lm_23 g2, lm_24 g2, lm_25 g2, lm_26 g2, lm_27 g2, lm_28 g2, lm_29 g2, lm_30 g2, lm_31 g2, lm_32 g2, lm_33 g2, lm_34 g2, lm_35 g2, lm_36 g2, lm_37 g2, lm_39 g2, lm_40 g2, lm_42 g2, lm_43 g2, lm_44 g2, lm_45 g2, lm_47 g2, lm_48 g2, lm_49 g2, lm_50 g2, lm_51 g2, gp]
        rw [pl_i (by omega)]
        refine ⟨_, _, rfl, g2, ?_, Or.inl ⟨⟨k, k2⟩, ?_, ?_⟩⟩
        · exact (qF.th F 0).tr (v1.row (by decide) g3).q
        · rw [g3 367 (by decide), f3 367 (by decide)]; exact t0
        · rw [pl_w (by omega)]
          unfold gA
          rw [ci_f z.1]; omega
    · rw [if_neg k2, if_pos rfl]
      obtain ⟨F', v, h1, h2, h3, h4⟩ := bad
      exact ⟨F', v, h1, h2, h3, Or.inr ⟨fun z => k2 z.2, h4⟩⟩
  · rw [if_neg k, if_pos rfl]
    obtain ⟨F', v, h1, h2, h3, h4⟩ := bad
    exact ⟨F', v, h1, h2, h3, Or.inr ⟨fun z => k z.1, h4⟩⟩
theorem q_who (h : rS D s F) {d : Int} : ∃ F' v, pfX12_who pd_SH 5000 F 367 d = some (v, F') ∧ pd_Ly F' ∧ qF F F' ∧ ((¬ (0 ≤ d ∧ d < sD D s) ∧ v = -1) ∨ ((0 ≤ d ∧ d < sD D s) ∧ (0 ≤ v ∧ v < 4096) ∧ ∀ p, 0 ≤ p → p < 12 → (tb v p ↔ (p < D 369 0 ∧ sN D s p = d)))) := by
  have h' := h.th 0
  obtain ⟨G, f1, f2, f3, f4, f5⟩ := q_deps h'
  have n := sD_12 (s := s) h.2.2.2.1
  have n1 := f2.np
  rw [f2.2.1 369 (by decide) (by decide)] at n1
  have fr := (qF.th F 0).tr f3.q
  unfold pfX12_who
  simp only [pl_l, pl_b, pl_iT, pl_t, pl_f, gx_367, gx_368, gx_369, gx_370, gx_371, gx_372, gx_373, gx_374, gx_375, gx_376, gx_377, gx_378, gx_379, gx_380, gx_381, gx_382, gx_383, gx_384, gx_385, gx_386, gx_387, gx_388, gx_389, gx_390, gx_391, gx_392, gx_393, gx_394, gx_395, gx_396, gx_397, gx_398, gx_399, gx_400, gx_401, gx_402, gx_403, gn_368, gn_369, gn_370, gn_371, gn_372, gn_373, gn_374, gn_375, gn_376, gn_377, gn_378, gn_379, gn_380, gn_381, gn_382, gn_383, gn_384, gn_385, gn_386, gn_387, gn_388, gn_389, gn_390, gn_391, gn_392, gn_393, gn_394, gn_395, gn_396, gn_397, gn_398, gn_399, gn_400, gn_401, gn_402, gn_403, f1, r_within, f4]
  rw [pl_w (by omega)]
  by_cases k : 0 ≤ d ∧ d < sD D s
  · rw [if_pos (show 0 ≤ d ∧ d ≤ sD D s - 1 by omega), if_pos (by decide)]
    have key : ∃ v, pfX12_who_b31 pd_SH 5000 5000 G 367 d 0 0 = some (v, G) ∧ (0 ≤ v ∧ v < 4096) ∧ ∀ p, 0 ≤ p → p < 12 → (tb v p ↔ (p < D 369 0 ∧ sN D s p = d)) := by
      refine pl_for (f := fun j (q : Int) i => pfX12_who_b31 pd_SH 5000 j G 367 d q i) (P := fun i q => (0 ≤ q ∧ q < 4096) ∧ ∀ p, 0 ≤ p → p < 12 → (tb q p ↔ (p < i ∧ sN D s p = d))) (N := D 369 0) (res := fun o => ∃ v, o = some (v, G) ∧ (0 ≤ v ∧ v < 4096) ∧ ∀ p, 0 ≤ p → p < 12 → (tb v p ↔ (p < D 369 0 ∧ sN D s p = d))) ?_ ?_ 5000 0 0 (by omega) n1.1 (by omega)
        ⟨by omega, fun p x y => ⟨fun z => absurd z (tb_0 p), fun z => by omega⟩⟩
      · intro j q i x y ⟨q1, q2⟩
        left
        have gi := f5 i x y
        by_cases z : sN D s i = d
        · have o1 := tb_one (p := i) (by omega)
          have o2 := tb_or q1 o1.1
          refine ⟨pd_or q (pd_shl 1 i), ⟨o2.1, fun p u v => ?_⟩, ?_⟩
          · rw [o2.2 p, q2 p u v, o1.2 p u]
            constructor
            · rintro (⟨a, b⟩ | a)
              · exact ⟨by omega, b⟩
              · exact ⟨by omega, a ▸ z⟩
            · rintro ⟨a, b⟩
              by_cases e : p = i
              · exact Or.inr e
              · exact Or.inl ⟨by omega, b⟩
          · show pfX12_who_b31 pd_SH 5000 (j + 1) G 367 d q i = _
            simp (disch := omega) only [pfX12_who_b31, pfX12_who_b59, pl_l, pl_b, pl_iT, pl_t, pl_f, gx_367, gx_368, gx_369, gx_370, gx_371, gx_372, gx_373, gx_374, gx_375, gx_376, gx_377, gx_378, gx_379, gx_380, gx_381, gx_382, gx_383, gx_384, gx_385, gx_386, gx_387, gx_388, gx_389, gx_390, gx_391, gx_392, gx_393, gx_394, gx_395, gx_396, gx_397, gx_398, gx_399, gx_400, gx_401, gx_402, gx_403, gn_368, gn_369, gn_370, gn_371, gn_372, gn_373, gn_374, gn_375, gn_376, gn_377, gn_378, gn_379, gn_380, gn_381, gn_382, gn_383, gn_384, gn_385, gn_386, gn_387, gn_388, gn_389, gn_390, gn_391, gn_392, gn_393, gn_394, gn_395, gn_396, gn_397, gn_398, gn_399, gn_400, gn_401, gn_402, gn_403, lm_1 f2.1, lm_14 f2.1, lm_15 f2.1, lm_16 f2.1, lm_17 f2.1, lm_18 f2.1, lm_19 f2.1, lm_20 f2.1, lm_21 f2.1, lm_22 f2.1, lm_23 f2.1, lm_24 f2.1, lm_25 f2.1, lm_26 f2.1, lm_27 f2.1, lm_28 f2.1, lm_29 f2.1, lm_30 f2.1, lm_31 f2.1, lm_32 f2.1, lm_33 f2.1, lm_34 f2.1, lm_35 f2.1, lm_36 f2.1, lm_37 f2.1, lm_39 f2.1, lm_40 f2.1, lm_42 f2.1, lm_43 f2.1, lm_44 f2.1, lm_45 f2.1, lm_47 f2.1, lm_48 f2.1, lm_49 f2.1, lm_50 f2.1, lm_51 f2.1, f2.2.1 369 (by decide) (by decide), gi, pl_i, pl_w, if_pos, if_neg]
        · have o2 := tb_or q1 (show 0 ≤ (0 : Int) ∧ (0 : Int) < 4096 by omega)
          refine ⟨pd_or q 0, ⟨o2.1, fun p u v => ?_⟩, ?_⟩
          · rw [o2.2 p, q2 p u v]
            constructor
            · rintro (⟨a, b⟩ | a)
              · exact ⟨by omega, b⟩
              · exact absurd a (tb_0 p)
            · rintro ⟨a, b⟩
              by_cases e : p = i
              · exact absurd (e ▸ b) z
              · exact Or.inl ⟨by omega, b⟩
          · show pfX12_who_b31 pd_SH 5000 (j + 1) G 367 d q i = _
            simp (disch := omega) only [pfX12_who_b31, pfX12_who_b59, pl_l, pl_b, pl_iT, pl_t, pl_f, gx_367, gx_368, gx_369, gx_370, gx_371, gx_372, gx_373, gx_374, gx_375, gx_376, gx_377, gx_378, gx_379, gx_380, gx_381, gx_382, gx_383, gx_384, gx_385, gx_386, gx_387, gx_388, gx_389, gx_390, gx_391, gx_392, gx_393, gx_394, gx_395, gx_396, gx_397, gx_398, gx_399, gx_400, gx_401, gx_402, gx_403, gn_368, gn_369, gn_370, gn_371, gn_372, gn_373, gn_374, gn_375, gn_376, gn_377, gn_378, gn_379, gn_380, gn_381, gn_382, gn_383, gn_384, gn_385, gn_386, gn_387, gn_388, gn_389, gn_390, gn_391, gn_392, gn_393, gn_394, gn_395, gn_396, gn_397, gn_398, gn_399, gn_400, gn_401, gn_402, gn_403, lm_1 f2.1, lm_14 f2.1, lm_15 f2.1, lm_16 f2.1, lm_17 f2.1, lm_18 f2.1, lm_19 f2.1, lm_20 f2.1, lm_21 f2.1, lm_22 f2.1, lm_23 f2.1, lm_24 f2.1, lm_25 f2.1, lm_26 f2.1, lm_27 f2.1, lm_28 f2.1, lm_29 f2.1, lm_30 f2.1, lm_31 f2.1, lm_32 f2.1, lm_33 f2.1, lm_34 f2.1, lm_35 f2.1, lm_36 f2.1, lm_37 f2.1, lm_39 f2.1, lm_40 f2.1, lm_42 f2.1, lm_43 f2.1, lm_44 f2.1, lm_45 f2.1, lm_47 f2.1, lm_48 f2.1, lm_49 f2.1, lm_50 f2.1, lm_51 f2.1, f2.2.1 369 (by decide) (by decide), gi, pl_i, pl_w, if_pos, if_neg]
      · intro j q ⟨q1, q2⟩
        refine ⟨q, ?_, q1, q2⟩
        show pfX12_who_b31 pd_SH 5000 (j + 1) G 367 d q _ = _
        simp (disch := omega) only [pfX12_who_b31, pl_l, pl_b, pl_iT, pl_t, pl_f, gx_367, gx_368, gx_369, gx_370, gx_371, gx_372, gx_373, gx_374, gx_375, gx_376, gx_377, gx_378, gx_379, gx_380, gx_381, gx_382, gx_383, gx_384, gx_385, gx_386, gx_387, gx_388, gx_389, gx_390, gx_391, gx_392, gx_393, gx_394, gx_395, gx_396, gx_397, gx_398, gx_399, gx_400, gx_401, gx_402, gx_403, gn_368, gn_369, gn_370, gn_371, gn_372, gn_373, gn_374, gn_375, gn_376, gn_377, gn_378, gn_379, gn_380, gn_381, gn_382, gn_383, gn_384, gn_385, gn_386, gn_387, gn_388, gn_389, gn_390, gn_391, gn_392, gn_393, gn_394, gn_395, gn_396, gn_397, gn_398, gn_399, gn_400, gn_401, gn_402, gn_403, lm_1 f2.1, lm_14 f2.1, lm_15 f2.1, lm_16 f2.1, lm_17 f2.1, lm_18 f2.1, lm_19 f2.1, lm_20 f2.1, lm_21 f2.1, lm_22 f2.1, lm_23 f2.1, lm_24 f2.1, lm_25 f2.1, lm_26 f2.1, lm_27 f2.1, lm_28 f2.1, lm_29 f2.1, lm_30 f2.1, lm_31 f2.1, lm_32 f2.1, lm_33 f2.1, lm_34 f2.1, lm_35 f2.1, lm_36 f2.1, lm_37 f2.1, lm_39 f2.1, lm_40 f2.1, lm_42 f2.1, lm_43 f2.1, lm_44 f2.1, lm_45 f2.1, lm_47 f2.1, lm_48 f2.1, lm_49 f2.1, lm_50 f2.1, lm_51 f2.1, f2.2.1 369 (by decide) (by decide), pl_i, pl_w, if_pos, if_neg]
    obtain ⟨v, k1, k2, k3⟩ := key
    rw [k1]
    exact ⟨_, _, rfl, f2.1, fr, Or.inr ⟨k, k2, k3⟩⟩
  · rw [if_neg (show ¬ (0 ≤ d ∧ d ≤ sD D s - 1) by omega), if_neg (by decide)]
    exact ⟨_, _, rfl, f2.1, fr, Or.inl ⟨k, rfl⟩⟩
theorem q_apart (h : rS D s F) {p o : Int} : ∃ F' v, pfX12_apart pd_SH 5000 F 367 p o = some (v, F') ∧ pd_Ly F' ∧ qF F F' ∧
    ((¬ ((0 ≤ p ∧ p < D 369 0) ∧ 0 ≤ o ∧ o < D 369 0) ∧ v = -1) ∨ (((0 ≤ p ∧ p < D 369 0) ∧ 0 ≤ o ∧ o < D 369 0) ∧ ((∃ e : Nat, v = e ∧ fL (D 369 0) (Bs (D 375) (D 376) s) p e o) ∨ (¬ sC D s p o ∧ v = -1)))) := by
  have h' := h.th 0
  have n1 := h'.np
  have eb := (e_bOk h'.2.1 h.2.2.2.1).2.1
  unfold pfX12_apart
  simp only [pl_l, pl_b, pl_iT, pl_t, pl_f, gx_367, gx_368, gx_369, gx_370, gx_371, gx_372, gx_373, gx_374, gx_375, gx_376, gx_377, gx_378, gx_379, gx_380, gx_381, gx_382, gx_383, gx_384, gx_385, gx_386, gx_387, gx_388, gx_389, gx_390, gx_391, gx_392, gx_393, gx_394, gx_395, gx_396, gx_397, gx_398, gx_399, gx_400, gx_401, gx_402, gx_403, gn_368, gn_369, gn_370, gn_371, gn_372, gn_373, gn_374, gn_375, gn_376, gn_377, gn_378, gn_379, gn_380, gn_381, gn_382, gn_383, gn_384, gn_385, gn_386, gn_387, gn_388, gn_389, gn_390, gn_391, gn_392, gn_393, gn_394, gn_395, gn_396, gn_397, gn_398, gn_399, gn_400, gn_401, gn_402, gn_403, r_isPerson h'.1 n1]
  have e369 := h'.2.1 369 (by decide) (by decide)
  rw [e369] at n1 eb ⊢
  by_cases k : 0 ≤ p ∧ p < D 369 0
  · rw [if_pos k, if_neg (by decide)]
    by_cases k2 : 0 ≤ o ∧ o < D 369 0
    · rw [if_pos k2, if_pos (by decide)]
      obtain ⟨G, f1, f2, f3, f4⟩ := r_laysFar h'.1 (np := D 369 0) (p := p) ⟨by rw [e369], n1.2⟩ ⟨eb, by rw [h'.2.2.1]; exact h.2.2.2.2.2.1, by rw [h'.2.2.1]; exact h.2.2.2.2.2.2.1⟩ k
      rw [h'.2.1 375 (by decide) (by decide), h'.2.1 376 (by decide) (by decide), h'.2.2.1] at f4
      simp only [f1, pl_l, pl_b, pl_iT, pl_t, pl_f, gx_367, gx_368, gx_369, gx_370, gx_371, gx_372, gx_373, gx_374, gx_375, gx_376, gx_377, gx_378, gx_379, gx_380, gx_381, gx_382, gx_383, gx_384, gx_385, gx_386, gx_387, gx_388, gx_389, gx_390, gx_391, gx_392, gx_393, gx_394, gx_395, gx_396, gx_397, gx_398, gx_399, gx_400, gx_401, gx_402, gx_403, gn_368, gn_369, gn_370, gn_371, gn_372, gn_373, gn_374, gn_375, gn_376, gn_377, gn_378, gn_379, gn_380, gn_381, gn_382, gn_383, gn_384, gn_385, gn_386, gn_387, gn_388, gn_389, gn_390, gn_391, gn_392, gn_393, gn_394, gn_395, gn_396, gn_397, gn_398, gn_399, gn_400, gn_401, gn_402, gn_403, lm_1 f2, lm_14 f2, lm_15 f2, lm_16 f2, lm_17 f2, lm_18 f2, lm_19 f2, lm_20 f2, lm_21 f2, lm_22 f2, lm_23 f2, lm_24 f2, lm_25 f2, lm_26 f2, lm_27 f2, lm_28 f2, lm_29 f2, lm_30 f2, lm_31 f2, lm_32 f2, lm_33 f2, lm_34 f2, lm_35 f2, lm_36 f2, lm_37 f2, lm_39 f2, lm_40 f2, lm_42 f2, lm_43 f2, lm_44 f2, lm_45 f2, lm_47 f2, lm_48 f2, lm_49 f2, lm_50 f2, lm_51 f2]
      rw [pl_i (by omega)]
      refine ⟨_, _, rfl, f2, (qF.th F 0).tr ((vF.rf _).row (by decide) f3).q, Or.inr ⟨⟨k, k2⟩, ?_⟩⟩
      rcases f4 o k2.1 k2.2 with z | z
      · exact Or.inl z
      · exact Or.inr z
    · rw [if_neg k2, if_neg (by decide)]
      exact ⟨_, _, rfl, h'.1, qF.th F 0, Or.inl ⟨fun z => k2 z.2, rfl⟩⟩
  · rw [if_neg k, if_pos rfl]
    exact ⟨_, _, rfl, h'.1, qF.th F 0, Or.inl ⟨fun z => k z.1, rfl⟩⟩
end RQ

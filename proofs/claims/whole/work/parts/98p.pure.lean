/-! the beginning and the end of a book read -/
def dflt (w : Int) : Int := if w = 0 then 0 else if w = 1 then 100000 else 50000
def sv (B : pd_F) (w : Int) : Int := if B 392 w = 0 then dflt w else B 391 w
/-- the book told, settings and all -/
def Kf (b : Int) (F B : pd_F) : Prop := Kp b F B ∧ Kl b F B ∧ Kh b F B ∧ Ko b F B ∧ ∀ w, 0 ≤ w → w < 3 → F (b + 7) w = sv B w ∧ 0 ≤ sv B w ∧ sv B w ≤ tMx w
section RD
variable {b : Int} {F G : pd_F}
theorem c_clear (hL : pd_Ly F) (hb : aB b) : ∃ F', pfX0_clear pd_SH 5000 F b = some F' ∧ pd_Ly F' ∧ (∀ a, a ≠ b → a ≠ b + 7 → F' a = F a) ∧ (∀ j, 9 ≤ j → j ≤ 14 → F' b j = 0) ∧ ∀ w, 0 ≤ w → w < 3 → F' (b + 7) w = -1 := by
  obtain ⟨s0, -, -, -, -, -, -, s7, -⟩ := sh_b hb
  have l6 : ∀ {H : pd_F}, pd_Ly H → H b 6 = b + 7 := fun hH => (ly_b hH hb).2.2.2.2.2.2.1
  obtain ⟨P, hP⟩ : ∃ P, pd_up (pd_up (pd_up (pd_up (pd_up (pd_up F b 9 0) b 10 0) b 11 0) b 12 0) b 13 0) b 14 0 = P := ⟨_, rfl⟩
  have fP : pd_Ly P := by rw [← hP]; exact (((((hL.up (pl_rc4 s0 (by decide))).up (pl_rc4 s0 (by decide))).up (pl_rc4 s0 (by decide))).up (pl_rc4 s0 (by decide))).up (pl_rc4 s0 (by decide))).up (pl_rc4 s0 (by decide))
  have g1 : pd_Ly (pd_up P (b + 7) 0 (-1)) := fP.up (pl_rc0 s7 (by decide))
  have g2 : pd_Ly (pd_up (pd_up P (b + 7) 0 (-1)) (b + 7) 1 (-1)) := g1.up (pl_rc0 s7 (by decide))
  refine ⟨_, ?_, g2.up (pl_rc0 s7 (by decide)) (i := 2) (v := -1), fun a x y => ?_, fun j x y => ?_, fun w x y => ?_⟩
  · unfold pfX0_clear
    simp only [pl_l, pl_b, pl_iT, pl_t, pl_f, pl_ob s0, hP, l6 fP, pl_ib s7, l6 g1, l6 g2]
    rw [pl_i (by decide), pl_i (by decide), pl_i (by decide)]
  · rw [pu_a y, pu_a y, pu_a y, ← hP, pu_a x, pu_a x, pu_a x, pu_a x, pu_a x, pu_a x]
  · rw [pu_a (by omega), pu_a (by omega), pu_a (by omega), ← hP]
    have c : j = 9 ∨ j = 10 ∨ j = 11 ∨ j = 12 ∨ j = 13 ∨ j = 14 := by omega
    rw [pu_r, pu_r, pu_r, pu_r, pu_r, pu_r]
    rcases c with rfl | rfl | rfl | rfl | rfl | rfl <;> simp
  · rw [pu_r, pu_r, pu_r]
    have c : w = 0 ∨ w = 1 ∨ w = 2 := by omega
    rcases c with rfl | rfl | rfl <;> simp
theorem c_untold (hL : pd_Ly F) (hb : aB b) : ∃ F', pfX0_settleUntold pd_SH 5000 F b = some F' ∧ pd_Ly F' ∧ (∀ a, a ≠ b + 7 → F' a = F a) ∧ ∀ w, 0 ≤ w → w < 3 → F' (b + 7) w = if F (b + 7) w = -1 then dflt w else F (b + 7) w := by
  obtain ⟨s0, -, -, -, -, -, -, s7, -⟩ := sh_b hb
  have l6 : ∀ {H : pd_F}, pd_Ly H → H b 6 = b + 7 := fun hH => (ly_b hH hb).2.2.2.2.2.2.1
  have c35 : ∀ H, pd_Ly H → ∃ F', pfX0_settleUntold_b35 pd_SH 5000 H b = some F' ∧ pd_Ly F' ∧ (∀ a, a ≠ b + 7 → F' a = H a) ∧ ∀ w, F' (b + 7) w = if w = 2 ∧ H (b + 7) 2 = -1 then 50000 else H (b + 7) w := fun H hH => by
    unfold pfX0_settleUntold_b35
    simp only [pl_l, pl_b, pl_iT, pl_t, pl_f, pl_ob s0, l6 hH, pl_ib s7]
    rw [pl_i (by decide)]
    by_cases z : H (b + 7) 2 = -1
    · rw [if_neg (fun e => e z)]
      refine ⟨_, rfl, hH.up (pl_rc0 s7 (by decide)), fun a x => pu_a x, fun w => ?_⟩
      rw [pu_r]
      by_cases e : w = 2
      · rw [if_pos e, if_pos ⟨e, z⟩]
      · rw [if_neg e, if_neg (fun y => e y.1)]
    · rw [if_pos z]
      exact ⟨H, rfl, hH, fun _ _ => rfl, fun w => by rw [if_neg (fun y => z y.2)]⟩
  have c17 : ∀ H, pd_Ly H → ∃ F', pfX0_settleUntold_b17 pd_SH 5000 H b = some F' ∧ pd_Ly F' ∧ (∀ a, a ≠ b + 7 → F' a = H a) ∧ ∀ w, F' (b + 7) w = if w = 2 ∧ H (b + 7) 2 = -1 then 50000 else if w = 1 ∧ H (b + 7) 1 = -1 then 100000 else H (b + 7) w := fun H hH => by
    unfold pfX0_settleUntold_b17
    simp only [pl_l, pl_b, pl_iT, pl_t, pl_f, pl_ob s0, l6 hH, pl_ib s7]
    rw [pl_i (by decide)]
    by_cases z : H (b + 7) 1 = -1
    · rw [if_neg (fun e => e z)]
      obtain ⟨F', a1, a2, a3, a4⟩ := c35 (pd_up H (b + 7) 1 100000) (hH.up (pl_rc0 s7 (by decide)))
      refine ⟨F', a1, a2, fun a x => by rw [a3 a x, pu_a x], fun w => ?_⟩
      rw [a4, pu_r, pu_r, if_neg (show ¬ (2 : Int) = 1 by decide)]
      by_cases e : w = 2 ∧ H (b + 7) 2 = -1
      · rw [if_pos e, if_pos e]
      · rw [if_neg e, if_neg e]
        by_cases e2 : w = 1
        · rw [if_pos e2, if_pos ⟨e2, z⟩]
        · rw [if_neg e2, if_neg (fun y => e2 y.1)]
    · rw [if_pos z]
      obtain ⟨F', a1, a2, a3, a4⟩ := c35 H hH
      exact ⟨F', a1, a2, a3, fun w => by rw [a4, if_neg (show ¬ (w = 1 ∧ H (b + 7) 1 = -1) from fun y => z y.2)]⟩
  unfold pfX0_settleUntold
  simp only [pl_l, pl_b, pl_iT, pl_t, pl_f, pl_ob s0, l6 hL, pl_ib s7]
  rw [pl_i (by decide)]
  have fin : ∀ w : Int, 0 ≤ w → w < 3 → (w = 0 ∨ w = 1 ∨ w = 2) := fun w x y => by omega
  by_cases z : F (b + 7) 0 = -1
  · rw [if_neg (fun e => e z)]
    obtain ⟨F', a1, a2, a3, a4⟩ := c17 (pd_up F (b + 7) 0 0) (hL.up (pl_rc0 s7 (by decide)))
    refine ⟨F', a1, a2, fun a x => by rw [a3 a x, pu_a x], fun w x y => ?_⟩
    rw [a4]
    simp only [pu_r]
    unfold dflt
    rcases fin w x y with rfl | rfl | rfl <;> (repeat' split) <;> omega
  · rw [if_pos z]
    obtain ⟨F', a1, a2, a3, a4⟩ := c17 F hL
    refine ⟨F', a1, a2, a3, fun w x y => ?_⟩
    rw [a4]
    unfold dflt
    rcases fin w x y with rfl | rfl | rfl <;> (repeat' split) <;> omega
/-- what reading leaves in the reference -/
def bG (G G' : pd_F) : Prop := (∀ a, a ≠ 367 → (a < 369 ∨ 392 < a) → G' a = G a) ∧ (∀ j, 14 ≤ j ∨ j = 12 → j ≠ 38 → G' 367 j = G 367 j) ∧ (∀ a j, 369 ≤ a → a ≤ 390 → j < bs a → G' a j = G a j) ∧ (∀ k, (G 377 k = 0 ∨ G 377 k = 1) → (G' 377 k = 0 ∨ G' 377 k = 1)) ∧ G' 367 0 = 0 ∧ G' 367 2 = 0
theorem bG.w {G1 : pd_F} (h : bG F G) (w : wR G G1) : bG F G1 := ⟨fun a x y => (w.1 a x y).trans (h.1 a x y), fun j x y => (w.2.1 j (by omega) y).trans (h.2.1 j x y), fun a j x y z => (w.2.2.1 a j x y z).trans (h.2.2.1 a j x y z), fun k q => w.2.2.2 k (h.2.2.2.1 k q), (w.2.1 0 (by decide) (by decide)).trans h.2.2.2.2.1, (w.2.1 2 (by decide) (by decide)).trans h.2.2.2.2.2⟩
theorem Kf_K (h : K b F G) {F' : pd_F} (hb : aB b) (e : ∀ a, a ≠ b + 7 → F' a = F a) (e7 : ∀ w, 0 ≤ w → w < 3 → F' (b + 7) w = if F (b + 7) w = -1 then dflt w else F (b + 7) w) : Kf b F' G := by
  obtain ⟨k1, k2, k3, k4, k5, k6⟩ := h
  have b5 := aB_5 hb
  have eb := e b (by omega)
  refine ⟨k1.fr (by rw [eb]) (by rw [eb]) (fun a x y => e a (by omega)) rfl rfl rfl rfl rfl, k2.fr (by rw [eb]) (by rw [eb]) (e _ (by omega)) (fun a x y => e a (by omega)) (Int.le_refl _) rfl rfl rfl rfl rfl rfl, k3.fr (by rw [eb]) (fun a x y => e a (by omega)) (Int.le_refl _) rfl rfl rfl rfl rfl, k4.fr (by rw [eb]) (fun a x y => e a (by omega)) (Int.le_refl _) rfl rfl rfl rfl, fun w x y => ?_⟩
  rw [e7 w x y]
  unfold sv
  rcases k5 w x y with ⟨o1, o2⟩ | ⟨o1, o2, o3, o4⟩
  · rw [if_pos o2, if_pos o1]
    refine ⟨rfl, ?_⟩
    unfold dflt tMx
    have c : w = 0 ∨ w = 1 ∨ w = 2 := by omega
    rcases c with rfl | rfl | rfl <;> decide
  · rw [if_neg (by omega), if_neg (by omega)]
    exact ⟨o2, o3, o4⟩
/-- a book read by both -/
theorem j_read {n tp : Int} (f0 : pd_Ly F) (g0 : pd_Ly G) (hb : aB b) (h21 : F 2 1 = b) (ht : 0 ≤ tp ∧ tp ≤ 1000) (g2 : G 367 2 = tp) (tape : ∀ j, 0 ≤ j → j < tp → F 4 j = G 368 j ∧ -128 ≤ G 368 j ∧ G 368 j ≤ 127) (hn : 0 ≤ n ∧ n ≤ tp) :
    ∃ F', pd_Ly F' ∧ F' 2 1 = b ∧ (∀ a, a ≠ 2 → a ≠ 3 → (a < b ∨ b + 107 < a) → F' a = F a) ∧
      ((∃ v G', v < 0 ∧ pfX6_read pd_SH 5000 F 2 n = some (v, F') ∧ pfX12_book pd_SH 5000 G 367 n = some (v, G') ∧ pd_Ly G' ∧ bG G G') ∨
       ∃ N G', 1 ≤ N ∧ pfX6_read pd_SH 5000 F 2 n = some (N, F') ∧ pfX12_book pd_SH 5000 G 367 n = pfX12_book_b135 pd_SH 5000 G' 367 N 1 ∧ pd_Ly G' ∧ bG G G' ∧ Kf b F' (bn G')) := by
  have b5 := aB_5 hb
  obtain ⟨s0, -, -, -, -, -, -, s7, -⟩ := sh_b hb
  -- the class begins
  obtain ⟨C, c1, c2, c3, c4, c5⟩ := c_clear f0 hb
  obtain ⟨Fs, hFs⟩ : ∃ Fs, pd_up (pd_up (pd_up C 2 2 0) 3 2 n) 3 3 0 = Fs := ⟨_, rfl⟩
  have fu1 : pd_Ly (pd_up C 2 2 0) := c2.up (pl_rc4 sx_2 (by decide))
  have fs : pd_Ly Fs := by rw [← hFs]; exact (fu1.up (pl_rc4 sx_3 (by decide))).up (pl_rc4 sx_3 (by decide))
  have fsa : ∀ a, a ≠ 2 → a ≠ 3 → Fs a = C a := fun a x y => by rw [← hFs, pu_a y, pu_a y, pu_a x]
  have fs21 : Fs 2 1 = b := by rw [← hFs, pu_a (by decide), pu_a (by decide), pu_r, if_neg (by decide), c3 2 (by omega) (by omega)]; exact h21
  have fs32 : Fs 3 2 = n := by rw [← hFs, pu_r, if_neg (by decide), pu_r, if_pos rfl]
  have fs33 : Fs 3 3 = 0 := by rw [← hFs, pu_r, if_pos rfl]
  have fs4 : Fs 4 = F 4 := by rw [fsa 4 (by decide) (by decide), c3 4 (by omega) (by omega)]
  -- the reference begins
  obtain ⟨G1, hG1⟩ : ∃ G1, pd_up (pd_up (pd_up (pd_up (pd_up (pd_up G 367 0 0) 367 2 0) 367 3 n) 367 5 0) 367 9 0) 367 13 1 = G1 := ⟨_, rfl⟩
  have gl1 : pd_Ly G1 := by rw [← hG1]; exact (((((g0.up (pl_rc4 sx_367 (by decide))).up (pl_rc4 sx_367 (by decide))).up (pl_rc4 sx_367 (by decide))).up (pl_rc4 sx_367 (by decide))).up (pl_rc4 sx_367 (by decide))).up (pl_rc4 sx_367 (by decide))
  have g1a : ∀ a, a ≠ 367 → G1 a = G a := fun a x => by rw [← hG1, pu_a x, pu_a x, pu_a x, pu_a x, pu_a x, pu_a x]
  have g1s : ∀ j, G1 367 j = if j = 13 then 1 else if j = 9 then 0 else if j = 5 then 0 else if j = 3 then n else if j = 2 then 0 else if j = 0 then 0 else G 367 j := fun j => by rw [← hG1, pu_r, pu_r, pu_r, pu_r, pu_r, pu_r]
  obtain ⟨G2, hG2⟩ : ∃ G2, pd_up (pd_up (pd_up (pd_up (pd_up G1 369 1 0) 370 1 0) 371 1 0) 372 1 0) 373 1 0 = G2 := ⟨_, rfl⟩
  have gu1 : pd_Ly (pd_up G1 369 1 0) := gl1.up (rc_row (by decide))
  have gu2 : pd_Ly (pd_up (pd_up G1 369 1 0) 370 1 0) := gu1.up (rc_row (by decide))
  have gu3 : pd_Ly (pd_up (pd_up (pd_up G1 369 1 0) 370 1 0) 371 1 0) := gu2.up (rc_row (by decide))
  have gu4 : pd_Ly (pd_up (pd_up (pd_up (pd_up G1 369 1 0) 370 1 0) 371 1 0) 372 1 0) := gu3.up (rc_row (by decide))
  have gl2 : pd_Ly G2 := by rw [← hG2]; exact gu4.up (rc_row (by decide))
  have w12 : wR G1 G2 := by
    rw [← hG2]
    exact (((((wR.rf G1).up (by decide) (by decide)).up (by decide) (by decide)).up (by decide) (by decide)).up (by decide) (by decide)).up (by decide) (by decide)
  have e2 : G 367 2 = tp := g2
  have er : pfX12_book pd_SH 5000 G 367 n = pfX12_book_b83 pd_SH 5000 5000 G2 367 0 := by
    have u2 : pd_up G 367 0 0 367 2 = tp := by rw [pu_r, if_neg (by decide)]; exact e2
    unfold pfX12_book
    simp only [pl_l, pl_b, pl_iT, pl_t, pl_f, gx_367, gx_368, gx_369, gx_370, gx_371, gx_372, gx_373, gx_374, gx_375, gx_376, gx_377, gx_378, gx_379, gx_380, gx_381, gx_382, gx_383, gx_384, gx_385, gx_386, gx_387, gx_388, gx_389, gx_390, gx_391, gx_392, gx_393, gx_394, gx_395, gx_396, gx_397, gx_398, gx_399, gx_400, gx_401, gx_402, gx_403, gn_368, gn_369, gn_370, gn_371, gn_372, gn_373, gn_374, gn_375, gn_376, gn_377, gn_378, gn_379, gn_380, gn_381, gn_382, gn_383, gn_384, gn_385, gn_386, gn_387, gn_388, gn_389, gn_390, gn_391, gn_392, gn_393, gn_394, gn_395, gn_396, gn_397, gn_398, gn_399, gn_400, gn_401, gn_402, gn_403, u2, r_within]
    rw [if_pos hn, if_pos (show (1 : Int) ≠ 0 by decide), hG1]
    simp only [lm_1 gl1, lm_14 gl1, lm_15 gl1, lm_16 gl1, lm_17 gl1, lm_18 gl1, lm_19 gl1, lm_20 gl1, lm_21 gl1, lm_22 gl1, lm_23 gl1, lm_24 gl1, lm_25 gl1, lm_26 gl1, lm_27 gl1, lm_28 gl1, lm_29 gl1, lm_30 gl1, lm_31 gl1, lm_32 gl1, lm_33 gl1, lm_34 gl1, lm_35 gl1, lm_36 gl1, lm_37 gl1, lm_39 gl1, lm_40 gl1, lm_42 gl1, lm_43 gl1, lm_44 gl1, lm_45 gl1, lm_47 gl1, lm_48 gl1, lm_49 gl1, lm_50 gl1, lm_51 gl1, gx_367, gx_368, gx_369, gx_370, gx_371, gx_372, gx_373, gx_374, gx_375, gx_376, gx_377, gx_378, gx_379, gx_380, gx_381, gx_382, gx_383, gx_384, gx_385, gx_386, gx_387, gx_388, gx_389, gx_390, gx_391, gx_392, gx_393, gx_394, gx_395, gx_396, gx_397, gx_398, gx_399, gx_400, gx_401, gx_402, gx_403, gn_368, gn_369, gn_370, gn_371, gn_372, gn_373, gn_374, gn_375, gn_376, gn_377, gn_378, gn_379, gn_380, gn_381, gn_382, gn_383, gn_384, gn_385, gn_386, gn_387, gn_388, gn_389, gn_390, gn_391, gn_392, gn_393, gn_394, gn_395, gn_396, gn_397, gn_398, gn_399, gn_400, gn_401, gn_402, gn_403, pl_l, pl_b, pl_iT, pl_t, pl_f, lm_1 gu1, lm_14 gu1, lm_15 gu1, lm_16 gu1, lm_17 gu1, lm_18 gu1, lm_19 gu1, lm_20 gu1, lm_21 gu1, lm_22 gu1, lm_23 gu1, lm_24 gu1, lm_25 gu1, lm_26 gu1, lm_27 gu1, lm_28 gu1, lm_29 gu1, lm_30 gu1, lm_31 gu1, lm_32 gu1, lm_33 gu1, lm_34 gu1, lm_35 gu1, lm_36 gu1, lm_37 gu1, lm_39 gu1, lm_40 gu1, lm_42 gu1, lm_43 gu1, lm_44 gu1, lm_45 gu1, lm_47 gu1, lm_48 gu1, lm_49 gu1, lm_50 gu1, lm_51 gu1, lm_1 gu2, lm_14 gu2, lm_15 gu2, lm_16 gu2, lm_17 gu2, lm_18 gu2, lm_19 gu2, lm_20 gu2, lm_21 gu2, lm_22 gu2, lm_23 gu2, lm_24 gu2, lm_25 gu2, lm_26 gu2, lm_27 gu2, lm_28 gu2, lm_29 gu2, lm_30 gu2, lm_31 gu2, lm_32 gu2, lm_33 gu2, lm_34 gu2, lm_35 gu2, lm_36 gu2, lm_37 gu2, lm_39 gu2, lm_40 gu2, lm_42 gu2, lm_43 gu2, lm_44 gu2, lm_45 gu2, lm_47 gu2, lm_48 gu2, lm_49 gu2, lm_50 gu2, lm_51 gu2, lm_1 gu3, lm_14 gu3, lm_15 gu3, lm_16 gu3, lm_17 gu3, lm_18 gu3, lm_19 gu3, lm_20 gu3, lm_21 gu3, lm_22 gu3, lm_23 gu3, lm_24 gu3, lm_25 gu3, lm_26 gu3, lm_27 gu3, lm_28 gu3, lm_29 gu3, lm_30 gu3, lm_31 gu3, lm_32 gu3, lm_33 gu3, lm_34 gu3, lm_35 gu3, lm_36 gu3, lm_37 gu3, lm_39 gu3, lm_40 gu3, lm_42 gu3, lm_43 gu3, lm_44 gu3, lm_45 gu3, lm_47 gu3, lm_48 gu3, lm_49 gu3, lm_50 gu3, lm_51 gu3, lm_1 gu4, lm_14 gu4, lm_15 gu4, lm_16 gu4, lm_17 gu4, lm_18 gu4, lm_19 gu4, lm_20 gu4, lm_21 gu4, lm_22 gu4, lm_23 gu4, lm_24 gu4, lm_25 gu4, lm_26 gu4, lm_27 gu4, lm_28 gu4, lm_29 gu4, lm_30 gu4, lm_31 gu4, lm_32 gu4, lm_33 gu4, lm_34 gu4, lm_35 gu4, lm_36 gu4, lm_37 gu4, lm_39 gu4, lm_40 gu4, lm_42 gu4, lm_43 gu4, lm_44 gu4, lm_45 gu4, lm_47 gu4, lm_48 gu4, lm_49 gu4, lm_50 gu4, lm_51 gu4]
    rw [pl_i (by decide), pl_i (by decide), pl_i (by decide), pl_i (by decide), pl_i (by decide), hG2]
  -- none of the three told yet
  have e83 : ∃ G3, pfX12_book_b83 pd_SH 5000 5000 G2 367 0 = pfX12_book_b101 pd_SH 5000 G3 367 ∧ pd_Ly G3 ∧ (∀ a, a ≠ 392 → G3 a = G2 a) ∧ ∀ w, 0 ≤ w → w < 3 → G3 392 w = 0 := by
    refine pl_for (f := fun j (q : pd_F) i => pfX12_book_b83 pd_SH 5000 j q 367 i) (P := fun i q => pd_Ly q ∧ (∀ a, a ≠ 392 → q a = G2 a) ∧ ∀ w, 0 ≤ w → w < i → q 392 w = 0) (N := 3)
      (res := fun o => ∃ G3, o = pfX12_book_b101 pd_SH 5000 G3 367 ∧ pd_Ly G3 ∧ (∀ a, a ≠ 392 → G3 a = G2 a) ∧ ∀ w, 0 ≤ w → w < 3 → G3 392 w = 0) ?_ ?_ 5000 G2 0 (by omega) (by omega) (by omega) ⟨gl2, fun _ _ => rfl, fun w x y => by omega⟩
    · intro k q i a0 b0 ⟨q1, q2, q3⟩
      refine Or.inl ⟨pd_up q 392 i 0, ⟨q1.up (rc_row (by decide)), fun a x => by rw [pu_a x]; exact q2 a x, fun w x y => ?_⟩, ?_⟩
      · rw [pu_r]
        by_cases e : w = i
        · rw [if_pos e]
        · rw [if_neg e]; exact q3 w x (by omega)
      · show pfX12_book_b83 pd_SH 5000 (k + 1) q 367 i = _
        simp only [pfX12_book_b83, pl_l, pl_b, pl_iT, pl_t, pl_f, gx_367, gx_368, gx_369, gx_370, gx_371, gx_372, gx_373, gx_374, gx_375, gx_376, gx_377, gx_378, gx_379, gx_380, gx_381, gx_382, gx_383, gx_384, gx_385, gx_386, gx_387, gx_388, gx_389, gx_390, gx_391, gx_392, gx_393, gx_394, gx_395, gx_396, gx_397, gx_398, gx_399, gx_400, gx_401, gx_402, gx_403, gn_368, gn_369, gn_370, gn_371, gn_372, gn_373, gn_374, gn_375, gn_376, gn_377, gn_378, gn_379, gn_380, gn_381, gn_382, gn_383, gn_384, gn_385, gn_386, gn_387, gn_388, gn_389, gn_390, gn_391, gn_392, gn_393, gn_394, gn_395, gn_396, gn_397, gn_398, gn_399, gn_400, gn_401, gn_402, gn_403, lm_1 q1, lm_14 q1, lm_15 q1, lm_16 q1, lm_17 q1, lm_18 q1, lm_19 q1, lm_20 q1, lm_21 q1, lm_22 q1, lm_23 q1, lm_24 q1, lm_25 q1, lm_26 q1, lm_27 q1, lm_28 q1, lm_29 q1, lm_30 q1, lm_31 q1, lm_32 q1, lm_33 q1, lm_34 q1, lm_35 q1, lm_36 q1, lm_37 q1, lm_39 q1, lm_40 q1, lm_42 q1, lm_43 q1, lm_44 q1, lm_45 q1, lm_47 q1, lm_48 q1, lm_49 q1, lm_50 q1, lm_51 q1]
        rw [if_neg (by omega), pl_i (by omega), pl_w (by omega)]
    · intro k q ⟨q1, q2, q3⟩
      refine ⟨q, ?_, q1, q2, q3⟩
      show pfX12_book_b83 pd_SH 5000 (k + 1) q 367 _ = _
      simp only [pfX12_book_b83]
      rw [if_pos (by decide)]
  obtain ⟨G3, e3, gl3, g3a, g3z⟩ := e83
  have g367 : G3 367 = G1 367 := by rw [g3a 367 (by decide), ← hG2, pu_a (by decide), pu_a (by decide), pu_a (by decide), pu_a (by decide), pu_a (by decide)]
  have g368 : G3 368 = G 368 := by rw [g3a 368 (by decide), ← hG2, pu_a (by decide), pu_a (by decide), pu_a (by decide), pu_a (by decide), pu_a (by decide), g1a 368 (by decide)]
  have w23 : wR G2 G3 := ⟨fun a x y => g3a a (by omega), fun j x y => by rw [g3a 367 (by decide)], fun a j x y z => by rw [g3a a (by omega)], fun k q => by rw [g3a 377 (by decide)]; exact q⟩
  have w13 := w12.tr w23
  have bg3 : bG G G3 := ⟨fun a x y => (w13.1 a x y).trans (by rw [g1a a x]), fun j x y => by rw [g367, g1s, if_neg (by omega), if_neg (by omega), if_neg (by omega), if_neg (by omega), if_neg (by omega), if_neg (by omega)], fun a j x y z => (w13.2.2.1 a j x y z).trans (by rw [g1a a (by omega)]), fun k q => w13.2.2.2 k (by rw [g1a 377 (by decide)]; exact q), by rw [g367, g1s]; rfl, by rw [g367, g1s]; rfl⟩
  -- the first token
  have hS : jS Fs G3 := by
    refine ⟨by rw [fs32]; omega, ?_⟩
    rw [fs32, fs4]
    refine ⟨by rw [g367, g1s]; rfl, by omega, fun j x y => ?_⟩
    rw [g368]
    obtain ⟨t1, t2⟩ := tape j x (by omega)
    exact ⟨t1.symm, by rw [t1]; exact t2⟩
  obtain ⟨F0, G0, a1, a2, a3, a4, a5, a6, a7, a8⟩ := j_adv fs gl3 hS ⟨by rw [fs33, g367, g1s]; rfl, by rw [fs33, fs32]; omega⟩
  have J0 : J b F0 G0 := ⟨a3, a4, hb, by rw [a5.1 2 (by decide)]; exact fs21, a7, a8, by rw [a6.2 9 (by decide), g367, g1s]; rfl, by rw [a6.2 13 (by decide), g367, g1s]; rfl⟩
  have w30 : wR G3 G0 := (wR.rf G3).z a6.z
  have eF0 : ∀ a, a ≠ 2 → a ≠ 3 → F0 a = C a := fun a x y => by rw [a5.1 a y]; exact fsa a x y
  have eG0 : ∀ a, a ≠ 367 → a ≠ 392 → G0 a = G2 a := fun a x y => by rw [a6.1 a x]; exact g3a a y
  have cnt : ∀ j, 9 ≤ j → j ≤ 14 → F0 b j = 0 := fun j x y => by rw [eF0 b (by omega) (by omega)]; exact c4 j x y
  have B369 : bn G0 369 0 = 0 := by rw [bn_369, eG0 369 (by decide) (by decide), ← hG2, pu_a (by decide), pu_a (by decide), pu_a (by decide), pu_a (by decide), pu_r, if_pos rfl]
  have B370 : bn G0 370 0 = 0 := by rw [bn_370, eG0 370 (by decide) (by decide), ← hG2, pu_a (by decide), pu_a (by decide), pu_a (by decide), pu_r, if_pos rfl]
  have B371 : bn G0 371 0 = 0 := by rw [bn_371, eG0 371 (by decide) (by decide), ← hG2, pu_a (by decide), pu_a (by decide), pu_r, if_pos rfl]
  have B372 : bn G0 372 0 = 0 := by rw [bn_372, eG0 372 (by decide) (by decide), ← hG2, pu_a (by decide), pu_r, if_pos rfl]
  have B373 : bn G0 373 0 = 0 := by rw [bn_373, eG0 373 (by decide) (by decide), ← hG2, pu_r, if_pos rfl]
  have B392 : ∀ w, 0 ≤ w → w < 3 → bn G0 392 w = 0 := fun w x y => by rw [bn_392, a6.1 392 (by decide)]; exact g3z w x y
  have K0 : K b F0 (bn G0) := by
    have f9 := cnt 9 (by decide) (by decide)
    have f10 := cnt 10 (by decide) (by decide)
    have f11 := cnt 11 (by decide) (by decide)
    have f12 := cnt 12 (by decide) (by decide)
    have f13 := cnt 13 (by decide) (by decide)
    have f14 := cnt 14 (by decide) (by decide)
    refine ⟨⟨by rw [f9, B369], by rw [B369]; decide, fun p x y => by rw [B369] at y; omega, ⟨by rw [f14]; decide, fun i j x y => by rw [f14] at y; omega, fun i x y => by rw [f14] at y; omega, fun m ⟨p, x, y, _⟩ => by rw [B369] at y; omega, fun i x y => by rw [f14] at y; omega⟩, by rw [f14, B369]; decide⟩,
      ⟨⟨by rw [f10, B370], by rw [B370]; decide⟩, ⟨by rw [f11, B371], by rw [B371]; decide⟩, fun t x y => by rw [B370] at y; omega, fun t x y => by rw [B371] at y; omega⟩,
      ⟨by rw [f12, B372], by rw [B372]; decide, fun t x y => by rw [B372] at y; omega⟩, ⟨by rw [f13, B373], by rw [B373]; decide, fun t x y => by rw [B373] at y; omega⟩,
      fun w x y => Or.inl ⟨B392 w x y, ?_⟩, ⟨⟨by rw [f9, B369], by rw [f10, B370], by rw [f11, B371]⟩, ⟨by rw [B369]; decide, by rw [B370]; decide, by rw [B371]; decide⟩, fun p x y => by rw [B369] at y; omega, fun p x y => by rw [B370] at y; omega, fun p x y => by rw [B371] at y; omega, fun a p x y => by rw [B371] at y; omega, fun a p x y => by rw [B371] at y; omega⟩⟩
    rw [eF0 (b + 7) (by omega) (by omega)]
    exact c5 w x y
  have N0 : kN (bn G0) = 0 := by
    unfold kN
    rw [B369, B370, B371, B372, B373, B392 0 (by decide) (by decide), B392 1 (by decide) (by decide), B392 2 (by decide) (by decide)]
    rfl
  -- the first line
  obtain ⟨F1, H1, v, l1, l2, l3, l4, l5⟩ := j_line J0 K0
  have eC : pfX6_read pd_SH 5000 F 2 n = pfX6_read_b27 pd_SH 5000 5000 F1 2 0 v := by
    have x20 : C 2 0 = 3 := lx_2_0 c2
    have u20 : pd_up C 2 2 0 2 0 = 3 := lx_2_0 fu1
    have u30 : pd_up C 2 2 0 3 0 = 4 := lx_3_0 fu1
    unfold pfX6_read pfX9_open
    simp only [pl_l, pl_b, pl_iT, pl_t, pl_f, gx_1, gx_2, gx_3, gx_4, gx_113, gx_114, gx_115, gx_116, gx_212, gx_213, gx_224, gn_4, gn_114, gn_115, gn_116, gn_213, gn_224, h21, pl_ob s0, c1, u20, u30]
    rw [pl_i (by decide), show min n 1000 = n by omega, hFs, a1]
    simp only [pl_l, pl_b, pl_iT, pl_t, pl_f, l1]
  have eR : pfX12_book pd_SH 5000 G 367 n = pfX12_book_b109 pd_SH 5000 4999 H1 367 1 v := by
    rw [er, e3]
    unfold pfX12_book_b101
    simp only [pl_l, pl_b, pl_iT, pl_t, pl_f, gx_367, gx_368, gx_369, gx_370, gx_371, gx_372, gx_373, gx_374, gx_375, gx_376, gx_377, gx_378, gx_379, gx_380, gx_381, gx_382, gx_383, gx_384, gx_385, gx_386, gx_387, gx_388, gx_389, gx_390, gx_391, gx_392, gx_393, gx_394, gx_395, gx_396, gx_397, gx_398, gx_399, gx_400, gx_401, gx_402, gx_403, gn_368, gn_369, gn_370, gn_371, gn_372, gn_373, gn_374, gn_375, gn_376, gn_377, gn_378, gn_379, gn_380, gn_381, gn_382, gn_383, gn_384, gn_385, gn_386, gn_387, gn_388, gn_389, gn_390, gn_391, gn_392, gn_393, gn_394, gn_395, gn_396, gn_397, gn_398, gn_399, gn_400, gn_401, gn_402, gn_403, a2]
    rw [pfX12_book_b109]
    unfold pfX12_book_b124
    simp only [pl_l, pl_b, pl_iT, pl_t, pl_f, gx_367, gx_368, gx_369, gx_370, gx_371, gx_372, gx_373, gx_374, gx_375, gx_376, gx_377, gx_378, gx_379, gx_380, gx_381, gx_382, gx_383, gx_384, gx_385, gx_386, gx_387, gx_388, gx_389, gx_390, gx_391, gx_392, gx_393, gx_394, gx_395, gx_396, gx_397, gx_398, gx_399, gx_400, gx_401, gx_402, gx_403, gn_368, gn_369, gn_370, gn_371, gn_372, gn_373, gn_374, gn_375, gn_376, gn_377, gn_378, gn_379, gn_380, gn_381, gn_382, gn_383, gn_384, gn_385, gn_386, gn_387, gn_388, gn_389, gn_390, gn_391, gn_392, gn_393, gn_394, gn_395, gn_396, gn_397, gn_398, gn_399, gn_400, gn_401, gn_402, gn_403, l2]
    rw [if_neg (show ¬ (1 : Int) = 0 by decide), pl_w (by decide)]
    by_cases z : G0 367 6 ≠ 0
    · rw [if_pos z]; rfl
    · rw [if_neg z]; rfl
  have frF : ∀ F', wC b F0 F' → ∀ a, a ≠ 2 → a ≠ 3 → (a < b ∨ b + 107 < a) → F' a = F a := fun F' w a x y z => by rw [w.1 a x y z, eF0 a x y, c3 a (by omega) (by omega)]
  have fr21 : ∀ F', wC b F0 F' → F' 2 1 = b := fun F' w => by rw [w.2.1 1 (by decide)]; exact J0.2.2.2.1
  have bg0 := bg3.w w30
  have bad : ∀ (F' G' : pd_F) (N : Int), jF F' G' → wC b F0 F' → wR G0 G' → pfX6_read pd_SH 5000 F 2 n = some (-2 - F' 2 2, F') → pfX12_book pd_SH 5000 G 367 n = pfX12_book_b135 pd_SH 5000 G' 367 N 0 → ∃ F', pd_Ly F' ∧ F' 2 1 = b ∧ (∀ a, a ≠ 2 → a ≠ 3 → (a < b ∨ b + 107 < a) → F' a = F a) ∧
      ((∃ v G', v < 0 ∧ pfX6_read pd_SH 5000 F 2 n = some (v, F') ∧ pfX12_book pd_SH 5000 G 367 n = some (v, G') ∧ pd_Ly G' ∧ bG G G') ∨
       ∃ N G', 1 ≤ N ∧ pfX6_read pd_SH 5000 F 2 n = some (N, F') ∧ pfX12_book pd_SH 5000 G 367 n = pfX12_book_b135 pd_SH 5000 G' 367 N 1 ∧ pd_Ly G' ∧ bG G G' ∧ Kf b F' (bn G')) := fun F' G' N hF wc wr e1 e2 => by
    obtain ⟨j1, j2, j3, j4, j5⟩ := hF
    have hg := bg0.w wr
    have u9 : pd_up G' 367 13 0 367 9 = G' 367 9 := by rw [pu_r, if_neg (by decide)]
    have u10 : pd_up G' 367 13 0 367 10 = G' 367 10 := by rw [pu_r, if_neg (by decide)]
    refine ⟨F', j1, fr21 F' wc, frF F' wc, Or.inl ⟨-2 - F' 2 2, pd_up G' 367 13 0, by omega, e1, ?_, j2.up (pl_rc4 sx_367 (by decide)), ⟨fun a x y => by rw [pu_a x]; exact hg.1 a x y, fun j x y => by rw [pu_r, if_neg (by omega)]; exact hg.2.1 j x y, fun a j x y z => by rw [pu_a (by omega)]; exact hg.2.2.1 a j x y z, fun k q => by rw [pu_a (by decide)]; exact hg.2.2.2.1 k q, by rw [pu_r, if_neg (by decide)]; exact hg.2.2.2.2.1, by rw [pu_r, if_neg (by decide)]; exact hg.2.2.2.2.2⟩⟩⟩
    rw [e2]
    unfold pfX12_book_b135
    simp only [pl_l, pl_b, pl_iT, pl_t, pl_f, gx_367, gx_368, gx_369, gx_370, gx_371, gx_372, gx_373, gx_374, gx_375, gx_376, gx_377, gx_378, gx_379, gx_380, gx_381, gx_382, gx_383, gx_384, gx_385, gx_386, gx_387, gx_388, gx_389, gx_390, gx_391, gx_392, gx_393, gx_394, gx_395, gx_396, gx_397, gx_398, gx_399, gx_400, gx_401, gx_402, gx_403, gn_368, gn_369, gn_370, gn_371, gn_372, gn_373, gn_374, gn_375, gn_376, gn_377, gn_378, gn_379, gn_380, gn_381, gn_382, gn_383, gn_384, gn_385, gn_386, gn_387, gn_388, gn_389, gn_390, gn_391, gn_392, gn_393, gn_394, gn_395, gn_396, gn_397, gn_398, gn_399, gn_400, gn_401, gn_402, gn_403, u9, u10]
    rw [if_neg (show ¬ (0 : Int) ≠ 0 by decide), pl_w (x := 8 * G' 367 10) (by omega), pl_w (x := 8 * G' 367 10 + G' 367 9) (by omega), pl_w (by omega), j3]
  rcases l5 with ⟨rfl, J1, K1, N1⟩ | ⟨rfl, J1⟩
  · obtain ⟨F', G', N, m1, m2, m3⟩ := j_lines 5000 43 4999 F1 H1 0 (by decide) (by decide) (by decide) (Int.le_refl _) J1 K1 (by rw [N1, N0])
    rcases m3 with ⟨m4, m5, m6, m7, m8⟩ | ⟨m4, m5, m6⟩
    · have wc := l3.tr m1
      have e82 := m5.2.2.2.1
      obtain ⟨F'', o1, o2, o3, o4⟩ := c_untold m5.1 hb
      refine ⟨F'', o2, by rw [o3 2 (by omega)]; exact fr21 F' wc, fun a x y z => by rw [o3 a (by omega)]; exact frF F' wc a x y z, Or.inr ⟨N, G', m4.1, ?_, ?_, m5.2.1, bg0.w (l4.tr m2), Kf_K m6 hb o3 o4⟩⟩
      · rw [eC, m7]
        unfold pfX6_read_b50
        simp only [pl_l, pl_b, pl_iT, pl_t, pl_f, gx_1, gx_2, gx_3, gx_4, gx_113, gx_114, gx_115, gx_116, gx_212, gx_213, gx_224, gn_4, gn_114, gn_115, gn_116, gn_213, gn_224, e82, pl_ob s0, o1]
      · rw [eR]; exact m8
    · exact bad F' G' N m4 (l3.tr m1) (l4.tr m2) (by rw [eC]; exact m5) (by rw [eR]; exact m6)
  · refine bad F1 H1 1 J1 l3 l4 ?_ ?_
    · rw [eC, pfX6_read_b27]
      simp only [pl_l, pl_b, pl_iT, pl_t, pl_f, gx_1, gx_2, gx_3, gx_4, gx_113, gx_114, gx_115, gx_116, gx_212, gx_213, gx_224, gn_4, gn_114, gn_115, gn_116, gn_213, gn_224]
      obtain ⟨-, -, f1, f2, f3⟩ := J1
      rw [pl_w (by omega)]
    · rw [eR, pfX12_book_b109]
      simp only [pl_l, pl_b, pl_iT, pl_t, pl_f]
end RD

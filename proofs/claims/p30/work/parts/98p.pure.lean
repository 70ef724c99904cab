variable {sT : pd_S}
/-! the beginning and the end of a book read -/
def dflt (w : Int) : Int := if w = 0 then 0 else if w = 1 then 100000 else 50000
def sv (B : pd_F) (w : Int) : Int := if B 392 w = 0 then dflt w else B 391 w
/-- the book told, settings and all -/
def Kf (b : Int) (F B : pd_F) : Prop := Kp b F B ∧ Kl b F B ∧ Kh b F B ∧ Ko b F B ∧ ∀ w, 0 ≤ w → w < 3 → F (b + 7) w = sv B w ∧ 0 ≤ sv B w ∧ sv B w ≤ tMx w
section RD
variable {b : Int} {F G : pd_F}
theorem c_clear (hL : pd_Ly F) (hb : aB b) : ∃ F', pfX0_clear (pd_SH sT) 5000 F b = some F' ∧ pd_Ly F' ∧ (∀ a, a ≠ b → a ≠ b + 7 → F' a = F a) ∧ (∀ j, 9 ≤ j → j ≤ 14 → F' b j = 0) ∧ ∀ w, 0 ≤ w → w < 3 → F' (b + 7) w = -1 := by
  obtain ⟨s0, -, -, -, -, -, -, s7, -⟩ := sh_b (sT := sT) hb
  have l6 : ∀ {H : pd_F}, pd_Ly H → H b 6 = b + 7 := fun hH => (ly_b hH hb).2.2.2.2.2.2.1
  obtain ⟨P, hP⟩ : ∃ P, pd_up (pd_up (pd_up (pd_up (pd_up (pd_up F b 9 0) b 10 0) b 11 0) b 12 0) b 13 0) b 14 0 = P := ⟨_, rfl⟩
  have fP : pd_Ly P := by rw [← hP]; exact (((((hL.up (pl_rc4 s0 (by decide))).up (pl_rc4 s0 (by decide))).up (pl_rc4 s0 (by decide))).up (pl_rc4 s0 (by decide))).up (pl_rc4 s0 (by decide))).up (pl_rc4 s0 (by decide))
  have g1 : pd_Ly (pd_up P (b + 7) 0 (-1)) := fP.up (pl_rc0 s7 (by decide))
  have g2 : pd_Ly (pd_up (pd_up P (b + 7) 0 (-1)) (b + 7) 1 (-1)) := g1.up (pl_rc0 s7 (by decide))
  refine ⟨_, ?_, g2.up (pl_rc0 s7 (by decide)) (i := 2) (v := -1), fun a x y => ?_, fun j x y => ?_, fun w x y => ?_⟩
  · unfold pfX0_clear
    simp only [pl_l, pl_b, pl_iT, pl_t, pl_f, pl_ob s0, hP, l6 fP, pl_ib s7, l6 g1, l6 g2]
    rw [pl_i (by decide), pl_i (by decide), pl_i (by decide)]
  · rw [pu_a y, pu_a y, pu_a y, ← hP, pu_a x, pu_a x, pu_a x, pu_a x, pu_a x, pu_a x]
  · rw [pu_a (by omega), pu_a (by omega), pu_a (by omega), ← hP]
    have c : j = 9 ∨ j = 10 ∨ j = 11 ∨ j = 12 ∨ j = 13 ∨ j = 14 := by omega
    rw [pu_r, pu_r, pu_r, pu_r, pu_r, pu_r]
    rcases c with rfl | rfl | rfl | rfl | rfl | rfl <;> simp
  · rw [pu_r, pu_r, pu_r]
    have c : w = 0 ∨ w = 1 ∨ w = 2 := by omega
    rcases c with rfl | rfl | rfl <;> simp
theorem c_untold (hL : pd_Ly F) (hb : aB b) : ∃ F', pfX0_settleUntold (pd_SH sT) 5000 F b = some F' ∧ pd_Ly F' ∧ (∀ a, a ≠ b + 7 → F' a = F a) ∧ ∀ w, 0 ≤ w → w < 3 → F' (b + 7) w = if F (b + 7) w = -1 then dflt w else F (b + 7) w := by
  obtain ⟨s0, -, -, -, -, -, -, s7, -⟩ := sh_b (sT := sT) hb
  have l6 : ∀ {H : pd_F}, pd_Ly H → H b 6 = b + 7 := fun hH => (ly_b hH hb).2.2.2.2.2.2.1
  have c35 : ∀ H, pd_Ly H → ∃ F', pfX0_settleUntold_b35 (pd_SH sT) 5000 H b = some F' ∧ pd_Ly F' ∧ (∀ a, a ≠ b + 7 → F' a = H a) ∧ ∀ w, F' (b + 7) w = if w = 2 ∧ H (b + 7) 2 = -1 then 50000 else H (b + 7) w := fun H hH => by
    unfold pfX0_settleUntold_b35
    simp only [pl_l, pl_b, pl_iT, pl_t, pl_f, pl_ob s0, l6 hH, pl_ib s7]
    rw [pl_i (by decide)]
    by_cases z : H (b + 7) 2 = -1
    · rw [if_neg (fun e => e z)]
      refine ⟨_, rfl, hH.up (pl_rc0 s7 (by decide)), fun a x => pu_a x, fun w => ?_⟩
      rw [pu_r]
      by_cases e : w = 2
      · rw [if_pos e, if_pos ⟨e, z⟩]
      · rw [if_neg e, if_neg (fun y => e y.1)]
    · rw [if_pos z]
      exact ⟨H, rfl, hH, fun _ _ => rfl, fun w => by rw [if_neg (fun y => z y.2)]⟩
  have c17 : ∀ H, pd_Ly H → ∃ F', pfX0_settleUntold_b17 (pd_SH sT) 5000 H b = some F' ∧ pd_Ly F' ∧ (∀ a, a ≠ b + 7 → F' a = H a) ∧ ∀ w, F' (b + 7) w = if w = 2 ∧ H (b + 7) 2 = -1 then 50000 else if w = 1 ∧ H (b + 7) 1 = -1 then 100000 else H (b + 7) w := fun H hH => by
    unfold pfX0_settleUntold_b17
    simp only [pl_l, pl_b, pl_iT, pl_t, pl_f, pl_ob s0, l6 hH, pl_ib s7]
    rw [pl_i (by decide)]
    by_cases z : H (b + 7) 1 = -1
    · rw [if_neg (fun e => e z)]
      obtain ⟨F', a1, a2, a3, a4⟩ := c35 (pd_up H (b + 7) 1 100000) (hH.up (pl_rc0 s7 (by decide)))
      refine ⟨F', a1, a2, fun a x => by rw [a3 a x, pu_a x], fun w => ?_⟩
      rw [a4, pu_r, pu_r, if_neg (show ¬ (2 : Int) = 1 by decide)]
      by_cases e : w = 2 ∧ H (b + 7) 2 = -1
      · rw [if_pos e, if_pos e]
      · rw [if_neg e, if_neg e]
        by_cases e2 : w = 1
        · rw [if_pos e2, if_pos ⟨e2, z⟩]
        · rw [if_neg e2, if_neg (fun y => e2 y.1)]
    · rw [if_pos z]
      obtain ⟨F', a1, a2, a3, a4⟩ := c35 H hH
      exact ⟨F', a1, a2, a3, fun w => by rw [a4, if_neg (show ¬ (w = 1 ∧ H (b + 7) 1 = -1) from fun y => z y.2)]⟩
  unfold pfX0_settleUntold
  simp only [pl_l, pl_b, pl_iT, pl_t, pl_f, pl_ob s0, l6 hL, pl_ib s7]
  rw [pl_i (by decide)]
  have fin : ∀ w : Int, 0 ≤ w → w < 3 → (w = 0 ∨ w = 1 ∨ w = 2) := fun w x y => by omega
  by_cases z : F (b + 7) 0 = -1
  · rw [if_neg (fun e => e z)]
    obtain ⟨F', a1, a2, a3, a4⟩ := c17 (pd_up F (b + 7) 0 0) (hL.up (pl_rc0 s7 (by decide)))
    refine ⟨F', a1, a2, fun a x => by rw [a3 a x, pu_a x], fun w x y => ?_⟩
    rw [a4]
    simp only [pu_r]
    unfold dflt
    rcases fin w x y with rfl | rfl | rfl <;> (repeat' split) <;> omega
  · rw [if_pos z]
    obtain ⟨F', a1, a2, a3, a4⟩ := c17 F hL
    refine ⟨F', a1, a2, a3, fun w x y => ?_⟩
    rw [a4]
    unfold dflt
    rcases fin w x y with rfl | rfl | rfl <;> (repeat' split) <;> omega
theorem Kf_K (h : K b F G) {F' : pd_F} (hb : aB b) (e : ∀ a, a ≠ b + 7 → F' a = F a) (e7 : ∀ w, 0 ≤ w → w < 3 → F' (b + 7) w = if F (b + 7) w = -1 then dflt w else F (b + 7) w) : Kf b F' G := by
  obtain ⟨k1, k2, k3, k4, k5, k6⟩ := h
  have b5 := aB_5 hb
  have eb := e b (by omega)
  refine ⟨k1.fr (by rw [eb]) (by rw [eb]) (fun a x y => e a (by omega)) rfl rfl rfl rfl rfl, k2.fr (by rw [eb]) (by rw [eb]) (e _ (by omega)) (fun a x y => e a (by omega)) (Int.le_refl _) rfl rfl rfl rfl rfl rfl, k3.fr (by rw [eb]) (fun a x y => e a (by omega)) (Int.le_refl _) rfl rfl rfl rfl rfl, k4.fr (by rw [eb]) (fun a x y => e a (by omega)) (Int.le_refl _) rfl rfl rfl rfl, fun w x y => ?_⟩
  rw [e7 w x y]
  unfold sv
  rcases k5 w x y with ⟨o1, o2⟩ | ⟨o1, o2, o3, o4⟩
  · rw [if_pos o2, if_pos o1]
    refine ⟨rfl, ?_⟩
    unfold dflt tMx
    have c : w = 0 ∨ w = 1 ∨ w = 2 := by omega
    rcases c with rfl | rfl | rfl <;> decide
  · rw [if_neg (by omega), if_neg (by omega)]
    exact ⟨o2, o3, o4⟩
end RD

variable {sT : pd_S}
/-! loans and highs told -/
section LH
variable {b : Int} {F G : pd_F}
theorem K.lo {B F' B' : pd_F} (hK : K b F B) (ff : ∀ a, b < a → a < b + 100 → F' a = F a) (fb : ∀ j, j ≠ 13 → F' b j = F b j) (ra : ∀ a, a ≠ 373 → a ≠ 388 → a ≠ 389 → a ≠ 390 → B' a = B a) (ho : Ko b F' B') : K b F' B' := by
  obtain ⟨k1, k2, k3, k4, k5, k6⟩ := hK
  have n := k6.2.1
  have r : ∀ a, (a ≤ 372 ∨ (374 ≤ a ∧ a ≤ 387) ∨ 391 ≤ a) → B' a = B a := fun a x => ra a (by omega) (by omega) (by omega) (by omega)
  exact ⟨k1.fr (fb 9 (by decide)) (fb 14 (by decide)) (fun a x y => ff a (by omega) (by omega)) (by rw [r _ (by decide)]) (r _ (by decide)) (r _ (by decide)) (r _ (by decide)) (r _ (by decide)),
    k2.fr (fb 10 (by decide)) (fb 11 (by decide)) (ff _ (by omega) (by omega)) (fun a x y => ff a (by omega) (by omega)) (by rw [r _ (by decide)]; exact Int.le_refl _) (by rw [r _ (by decide)]) (by rw [r _ (by decide)]) (r _ (by decide)) (r _ (by decide)) (r _ (by decide)) (r _ (by decide)),
    k3.fr (fb 12 (by decide)) (fun a x y => ff a (by omega) (by omega)) (by rw [r _ (by decide)]; exact Int.le_refl _) (by rw [r _ (by decide)]) (r _ (by decide)) (r _ (by decide)) (r _ (by decide)) (r _ (by decide)),
    ho, k5.fr (ff _ (by omega) (by omega)) (r _ (by decide)) (r _ (by decide)),
    k6.fr ⟨fb 9 (by decide), fb 10 (by decide), fb 11 (by decide)⟩ ⟨by rw [r _ (by decide)], by rw [r _ (by decide)], by rw [r _ (by decide)]⟩ (fun p x y => ⟨by rw [ff _ (by omega) (by omega)], by rw [r _ (by decide)]⟩) (fun p x y => ⟨by rw [ff _ (by omega) (by omega)], by rw [r _ (by decide)]⟩) (fun p x y => ⟨by rw [ff _ (by omega) (by omega)], by rw [r _ (by decide)]⟩)⟩
theorem K.hi {B F' B' : pd_F} (hK : K b F B) (ff : ∀ a, b < a → (a < b + 94 ∨ b + 99 < a) → a ≤ b + 107 → F' a = F a) (fb : ∀ j, j ≠ 12 → F' b j = F b j) (ra : ∀ a, a ≠ 372 → a ≠ 384 → a ≠ 385 → a ≠ 386 → a ≠ 387 → B' a = B a) (ho : Kh b F' B') : K b F' B' := by
  obtain ⟨k1, k2, k3, k4, k5, k6⟩ := hK
  have n := k6.2.1
  have r : ∀ a, (a ≤ 371 ∨ (373 ≤ a ∧ a ≤ 383) ∨ 388 ≤ a) → B' a = B a := fun a x => ra a (by omega) (by omega) (by omega) (by omega) (by omega)
  exact ⟨k1.fr (fb 9 (by decide)) (fb 14 (by decide)) (fun a x y => ff a (by omega) (by omega) (by omega)) (by rw [r _ (by decide)]) (r _ (by decide)) (r _ (by decide)) (r _ (by decide)) (r _ (by decide)),
    k2.fr (fb 10 (by decide)) (fb 11 (by decide)) (ff _ (by omega) (by omega) (by omega)) (fun a x y => ff a (by omega) (by omega) (by omega)) (by rw [r _ (by decide)]; exact Int.le_refl _) (by rw [r _ (by decide)]) (by rw [r _ (by decide)]) (r _ (by decide)) (r _ (by decide)) (r _ (by decide)) (r _ (by decide)), ho,
    k4.fr (fb 13 (by decide)) (fun a x y => ff a (by omega) (by omega) (by omega)) (by rw [r _ (by decide)]; exact Int.le_refl _) (by rw [r _ (by decide)]) (r _ (by decide)) (r _ (by decide)) (r _ (by decide)),
    k5.fr (ff _ (by omega) (by omega) (by omega)) (r _ (by decide)) (r _ (by decide)),
    k6.fr ⟨fb 9 (by decide), fb 10 (by decide), fb 11 (by decide)⟩ ⟨by rw [r _ (by decide)], by rw [r _ (by decide)], by rw [r _ (by decide)]⟩ (fun p x y => ⟨by rw [ff _ (by omega) (by omega) (by omega)], by rw [r _ (by decide)]⟩) (fun p x y => ⟨by rw [ff _ (by omega) (by omega) (by omega)], by rw [r _ (by decide)]⟩) (fun p x y => ⟨by rw [ff _ (by omega) (by omega) (by omega)], by rw [r _ (by decide)]⟩)⟩
/-- what tell leaves -/
theorem c_dated (hL : pd_Ly F) {c v0 v1 v2 v3 : Int} (hc : pd_sh (pd_SH sT) c = some (4, 1, 4)) : pfX1_setTo (pd_SH sT) 5000 F c v0 v1 v2 v3 = some (pd_up (pd_up (pd_up (pd_up F c 0 v0) c 1 v1) c 2 v2) c 3 v3) ∧ pd_Ly (pd_up (pd_up (pd_up (pd_up F c 0 v0) c 1 v1) c 2 v2) c 3 v3) := by
  refine ⟨?_, (((hL.up (pl_rc4 hc (by decide))).up (pl_rc4 hc (by decide))).up (pl_rc4 hc (by decide))).up (pl_rc4 hc (by decide))⟩
  unfold pfX1_setTo
  simp only [pl_l, pl_b, pl_iT, pl_t, pl_f, pl_ob hc]
theorem d_4 {c v0 v1 v2 v3 : Int} {H : pd_F} (e : H = pd_up (pd_up (pd_up (pd_up F c 0 v0) c 1 v1) c 2 v2) c 3 v3) : H c 0 = v0 ∧ H c 1 = v1 ∧ H c 2 = v2 ∧ H c 3 = v3 ∧ ∀ a, a ≠ c → H a = F a := by
  subst e
  refine ⟨?_, ?_, ?_, ?_, fun a x => by rw [pu_a x, pu_a x, pu_a x, pu_a x]⟩
  · rw [pu_r, if_neg (by decide), pu_r, if_neg (by decide), pu_r, if_neg (by decide), pu_r, if_pos rfl]
  · rw [pu_r, if_neg (by decide), pu_r, if_neg (by decide), pu_r, if_pos rfl]
  · rw [pu_r, if_neg (by decide), pu_r, if_pos rfl]
  · rw [pu_r, if_pos rfl]
end LH

/-! the law looks at a depositor: what he has -/
section LD
variable {sT : pd_S} {D : pd_F} {s : Int → Int} {F : pd_F} {Ls : Int} {xs : Int → Int}
noncomputable def gd (D : pd_F) (s : Int → Int) (d p a : Int) : Int := if sN D s p = d then gA D s a p else 0
theorem gd_bd (h : cS D s F) {d p a : Int} (a0 : 0 ≤ a ∧ a < D 371 0) : 0 ≤ gd D s d p a ∧ gd D s d p a ≤ 9999999 := by
  have := h.gA (p := p) a0
  unfold gd
  by_cases e : sN D s p = d
  · rw [if_pos e]; exact this
  · rw [if_neg e]; decide
theorem gd_all {d p : Int} : Sm (gd D s d p) (D 371 0) = if sN D s p = d then sG D s p else 0 := by
  by_cases e : sN D s p = d
  · rw [if_pos e]
    exact Sm_congr fun a _ _ => if_pos e
  · rw [if_neg e]
    exact Sm_zero fun a _ _ => if_neg e
theorem k_263 (h : cS D s F) {x4 x5 x6 d p X : Int} (p0 : 0 ≤ p ∧ p < D 369 0) (hX : 0 ≤ X ∧ X ≤ 2000000000) {c237 : pd_S → pd_F → Int → Int → Int → Int → Int → Option Int} {c250 : pd_S → pd_F → Int → Int → Int → Int → Int → Int → Int → Option Int} : ∀ (k : Nat) (x11 : Int), 0 ≤ x11 ∧ x11 ≤ D 371 0 → D 371 0 - x11 < k → pfL_law_b263 Ls xs 5000 c237 c250 k (pd_SH sT) F 1 x4 x5 x6 d (X + Sm (gd D s d p) x11) p x11 = c250 (pd_SH sT) F 1 x4 x5 x6 d (X + if sN D s p = d then sG D s p else 0) (p + 1) := by
  have bb := h.b9
  intro k
  induction k with
  | zero => intro x11 h8 hk; omega
  | succ k ih =>
    intro x11 h8 hk
    have cnt : pfX11_count (pd_SH sT) 5000 F 1 2 = some (D 371 0, F) := p_count h
    have b5 := Sm_bd (f := gd D s d p) (lo := 0) (hi := 9999999) h8.1 (fun i x y => gd_bd h ⟨x, by omega⟩)
    rw [pfL_law_b263]
    simp only [gx_1, pl_iT, cnt, pl_b, pl_l]
    by_cases c : x11 ≥ D 371 0
    · rw [if_pos c, show x11 = D 371 0 by omega, gd_all]
      unfold pfL_law_b305
      rw [pl_l, pl_w (by omega)]
    · rw [if_neg c]
      have c0 : 0 ≤ x11 ∧ x11 < D 371 0 := by omega
      have g := h.gA (p := p) c0
      have pe : pfX11_person (pd_SH sT) 5000 F 1 p 5 = some (sN D s p, F) := by
        rw [p_person (sT := sT) h]
        unfold aPs
        rw [if_pos p0, if_neg (by decide), if_neg (by decide), if_neg (by decide), if_pos rfl]
      have on := ih (x11 + 1) (by omega) (by omega)
      rw [Sm_s h8.1] at on
      rw [pe]
      simp only [pl_b, pl_l]
      by_cases e : sN D s p = d
      · rw [if_neg (fun z => z e), p_share (sT := sT) h c0 p0]
        simp only [pl_b, pl_l]
        unfold pfL_law_b299
        rw [pl_l, pl_w (by omega), pl_W (by omega)]
        have ge : gd D s d p x11 = gA D s x11 p := if_pos e
        rw [ge, ← Int.add_assoc] at on
        exact on
      · rw [if_pos e]
        unfold pfL_law_b299
        rw [pl_l, pl_w (by omega)]
        have ge : gd D s d p x11 = 0 := if_neg e
        rw [ge, Int.add_zero] at on
        exact on
theorem k_250 (h : cS D s F) {x4 x5 x6 d : Int} {c237 : pd_S → pd_F → Int → Int → Int → Int → Int → Option Int} : ∀ (k : Nat) (x10 : Int), 0 ≤ x10 ∧ x10 ≤ D 369 0 → D 369 0 - x10 < k → pfL_law_b250 Ls xs 5000 c237 k (pd_SH sT) F 1 x4 x5 x6 d (Sm (fun p => if sN D s p = d then sG D s p else 0) x10) x10 = pfL_law_b311 Ls xs 5000 c237 (pd_SH sT) F 1 x4 x5 x6 d (sHas D s d) := by
  have bb := h.b9
  intro k
  induction k with
  | zero => intro x10 h8 hk; omega
  | succ k ih =>
    intro x10 h8 hk
    have cnt : pfX11_count (pd_SH sT) 5000 F 1 0 = some (D 369 0, F) := p_count h
    have gb : ∀ p, 0 ≤ p → p < D 369 0 → 0 ≤ (if sN D s p = d then sG D s p else 0) ∧ (if sN D s p = d then sG D s p else 0) ≤ 99999990 := fun p x y => by
      rw [← gd_all]
      have := Sm_bd (f := gd D s d p) (lo := 0) (hi := 9999999) bb.2.1 (fun i x y => gd_bd h ⟨x, y⟩)
      omega
    have b5 := Sm_bd (f := fun p => if sN D s p = d then sG D s p else 0) (lo := 0) (hi := 99999990) h8.1 (fun i x y => gb i x (by omega))
    rw [pfL_law_b250]
    simp only [gx_1, pl_iT, cnt, pl_b, pl_l]
    by_cases c : x10 ≥ D 369 0
    · rw [if_pos c, show x10 = D 369 0 by omega]
      rfl
    · rw [if_neg c]
      have e := k_263 (Ls := Ls) (xs := xs) (sT := sT) (x4 := x4) (x5 := x5) (x6 := x6) (d := d) h (p := x10) (X := Sm (fun p => if sN D s p = d then sG D s p else 0) x10) ⟨h8.1, by omega⟩ (by omega) (c237 := c237) (c250 := pfL_law_b250 Ls xs 5000 c237 k) 5000 0 (by omega) (by omega)
      rw [Sm_0, Int.add_zero] at e
      rw [e]
      have on := ih (x10 + 1) (by omega) (by omega)
      rw [Sm_s h8.1] at on
      exact on
end LD

/-! the law looks at a depositor: his views -/
section LE
variable {sT : pd_S} {D : pd_F} {s : Int → Int} {F : pd_F} {Ls : Int} {xs : Int → Int}
theorem vw {d : Int} (hd : 0 ≤ d ∧ d < sD D s) : aView D s d 0 = sHas D s d ∧ aView D s d 1 = sOw D s d ∧ aView D s d 2 = cSo D s d ∧ aView D s d 3 = cNt D s d ∧ aView D s d 4 = sHi D s d ∧ aView D s d 5 = cLm D s d (s 72) ∧ aView D s d 6 = cPd D s d (s 72) ∧ aView D s d 7 = cCl D s d ∧ aView D s d 8 = cI D s d := by
  unfold aView
  simp only [if_pos hd]
  exact ⟨rfl, rfl, rfl, rfl, rfl, rfl, rfl, rfl, rfl⟩
theorem k_311 (h : cS D s F) {x4 x6 d o : Int} (hd : 0 ≤ d ∧ d < sD D s) (ho : 366 < o) (so : pd_sh (pd_SH sT) o = some (1, 0, 4)) (hb : ∀ j, 0 ≤ j → j < 4 → 0 ≤ F o j ∧ F o j ≤ 100000000000) {c237 : pd_S → pd_F → Int → Int → Int → Int → Int → Option Int} :
    ∃ v H, pfL_law_b311 Ls xs 5000 c237 (pd_SH sT) F 1 x4 o x6 d (sHas D s d) = c237 (pd_SH sT) H 1 x4 o (pd_or x6 v) (d + 1) ∧ cS D s H ∧ (H o 0 = F o 0 + sHas D s d ∧ H o 1 = F o 1 + cSo D s d ∧ H o 2 = F o 2 + cPd D s d (s 72) ∧ H o 3 = F o 3 + cCl D s d) ∧ (0 ≤ v ∧ v < 4096) ∧ ∀ p, 0 ≤ p → p < 12 → (tb v p ↔ (p < D 369 0 ∧ sN D s p = d)) := by
  have hD := h.2.2.1
  have hs := h.2.2.2.2.1.1
  have bb := h.b9
  have sd := h.sd
  obtain ⟨v0, v1, v2, v3, v4, v5, v6, v7, -⟩ := vw (D := D) (s := s) hd
  have q : ∀ G : pd_F, (∀ a, a ≤ 366 → G a = F a) → ∀ w, pfX11_view (pd_SH sT) 5000 G 1 d w = some (aView D s d w, G) := fun G e w => p_view (h.hi e)
  have c6 : pfX11_count (pd_SH sT) 5000 F 1 6 = some (s 72, F) := p_count h
  have c7 : pfX11_count (pd_SH sT) 5000 F 1 7 = some (s 73, F) := p_count h
  have q0 := q F (fun _ _ => rfl)
  have b1 := sHas_bd hD hs d
  have b2 := cNt_bd hD hs d
  have b3 := sOw_bd (s := s) hD d
  have b4 := sHi_bd hD hs d
  have b5 := cPd_bd hD hs d (c := s 72) hs.2.2.2.1.1
  have b6 := cCl_bd hD hs d
  have e2 : cSo D s d = min (sHas D s d) (sOw D s d) := by unfold cSo; omega
  have e3 : cNt D s d = sHas D s d - cSo D s d := rfl
  have e5 : cLm D s d (s 72) = s 72 + min (sHi D s d) (s 73) := rfl
  have e6 : cPd D s d (s 72) = min (cNt D s d) (cLm D s d (s 72)) := rfl
  have e7 : cCl D s d = cNt D s d - cPd D s d (s 72) := rfl
  have h72 := hs.2.2.2.1
  have h73 := hs.2.2.2.2
  have r0 := hb 0 (by decide) (by decide)
  have r1 := hb 1 (by decide) (by decide)
  have r2 := hb 2 (by decide) (by decide)
  have r3 := hb 3 (by decide) (by decide)
  obtain ⟨G1, hG1⟩ : ∃ G, pd_up F o 0 (F o 0 + sHas D s d) = G := ⟨_, rfl⟩
  have g1 : ∀ a, a ≠ o → G1 a = F a := fun a x => by rw [← hG1, pu_a x]
  have g1r : ∀ j, G1 o j = if j = 0 then F o 0 + sHas D s d else F o j := fun j => by rw [← hG1, pu_r]
  have g11 : G1 o 1 = F o 1 := by rw [g1r, if_neg (by decide)]
  obtain ⟨G2, hG2⟩ : ∃ G, pd_up G1 o 1 (F o 1 + cSo D s d) = G := ⟨_, rfl⟩
  have g2 : ∀ a, a ≠ o → G2 a = F a := fun a x => by rw [← hG2, pu_a x]; exact g1 a x
  have g2r : ∀ j, G2 o j = if j = 1 then F o 1 + cSo D s d else G1 o j := fun j => by rw [← hG2, pu_r]
  have g22 : G2 o 2 = F o 2 := by rw [g2r, if_neg (by decide), g1r, if_neg (by decide)]
  obtain ⟨G3, hG3⟩ : ∃ G, pd_up G2 o 2 (F o 2 + cPd D s d (s 72)) = G := ⟨_, rfl⟩
  have g3 : ∀ a, a ≠ o → G3 a = F a := fun a x => by rw [← hG3, pu_a x]; exact g2 a x
  have g3r : ∀ j, G3 o j = if j = 2 then F o 2 + cPd D s d (s 72) else G2 o j := fun j => by rw [← hG3, pu_r]
  have g33 : G3 o 3 = F o 3 := by rw [g3r, if_neg (by decide), g2r, if_neg (by decide), g1r, if_neg (by decide)]
  obtain ⟨G4, hG4⟩ : ∃ G, pd_up G3 o 3 (F o 3 + cCl D s d) = G := ⟨_, rfl⟩
  have g4 : ∀ a, a ≠ o → G4 a = F a := fun a x => by rw [← hG4, pu_a x]; exact g3 a x
  have g4r : ∀ j, G4 o j = if j = 3 then F o 3 + cCl D s d else G3 o j := fun j => by rw [← hG4, pu_r]
  have q1 := q G1 (fun a x => g1 a (by omega))
  have q2 := q G2 (fun a x => g2 a (by omega))
  have q3 := q G3 (fun a x => g3 a (by omega))
  have h4 : cS D s G4 := h.hi (fun a x => g4 a (by omega))
  obtain ⟨v, w1, w2⟩ := p_who (sT := sT) h4 (d := d)
  rcases w2 with ⟨z, -⟩ | ⟨-, w3, w4⟩
  · exact absurd hd z
  refine ⟨v, G4, ?_, h4, ⟨?_, ?_, ?_, ?_⟩, w3, w4⟩
  · unfold pfL_law_b311
    simp only [gx_1, pl_iT, q0, v0, v1, v2, v3, v4, v5, v6, v7, c6, c7, pl_b, pl_l, pl_ib so]
    rw [if_neg (fun z => z rfl), if_neg (fun z => z e2), pl_W (x := sHas D s d - cSo D s d) (by omega), if_pos e3, pl_W (x := s 72 + min (sHi D s d) (s 73)) (by omega), if_neg (fun z => z e5), if_neg (fun z => z e6), pl_W (x := cNt D s d - cPd D s d (s 72)) (by omega), if_pos e7]
    rw [pl_i (by decide), pl_W (x := F o 0 + sHas D s d) (by omega), hG1, pl_i (by decide), q1, v2]
    simp only [pl_b, pl_l]
    rw [g11, pl_W (x := F o 1 + cSo D s d) (by omega), hG2, pl_i (by decide), q2, v6]
    simp only [pl_b, pl_l]
    rw [g22, pl_W (x := F o 2 + cPd D s d (s 72)) (by omega), hG3, pl_i (by decide), q3, v7]
    simp only [pl_b, pl_l]
    rw [g33, pl_W (x := F o 3 + cCl D s d) (by omega), hG4, w1]
    simp only [pl_b, pl_l]
    rw [pl_w (by omega)]
  · rw [g4r, if_neg (by decide), g3r, if_neg (by decide), g2r, if_neg (by decide), g1r, if_pos rfl]
  · rw [g4r, if_neg (by decide), g3r, if_neg (by decide), g2r, if_pos rfl]
  · rw [g4r, if_neg (by decide), g3r, if_pos rfl]
  · rw [g4r, if_pos rfl]
end LE

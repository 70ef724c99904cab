/-! the law answers 1 -/
section LZ
variable {Ls : Int} {xs : Int → Int}
theorem law_end (hL : 0 ≤ Ls) {sT : pd_S} {F D : pd_F} {np na : Int} (h : Ac D np na 4 F) (hnp : 3 ≤ np ∧ np ≤ 6) : pfL_law_b43 Ls xs 5000 5000 (pd_SH sT) F 1 0 0 = some 1 := by
  obtain ⟨s, u, R, K, KR, h1, h2, h3, h4, h5, h6, h7⟩ := h
  have bb := h1.b9
  have sd := h1.sd
  have n3 : 3 ≤ D 369 0 ∧ D 369 0 ≤ 6 := by omega
  have e1 := k_accts (Ls := Ls) (xs := xs) (sT := sT) h1 5000 0 ⟨by decide, bb.2.1⟩ (by omega)
  rw [Sm_0] at e1
  obtain ⟨G, o, e2, g1, g2, g3, g4⟩ := l_200 (Ls := Ls) (xs := xs) (sT := sT) h1
  obtain ⟨H, x6, e3, i1, i2, i3, i4⟩ := k_237 (Ls := Ls) (xs := xs) g1 g2 g3 5000 G 0 0 g1 ⟨by decide, sd.1⟩ (by omega) ⟨g4 0, g4 1, g4 2, g4 3⟩ (by decide) (fun p x y => ⟨fun z => absurd z (tb_0 p), fun z => absurd z.2 (by have := (h1.sn x z.1).1; omega)⟩)
  have e4 := l_535 (Ls := Ls) (xs := xs) i1 n3 g3 i2 i3 i4
  obtain ⟨sT', H', e5, j1⟩ := l_isPaid (Ls := Ls) (xs := xs) (sT := sT ++ [(1, 0, 4)]) hL i1 i2.2.2.1 i2.2.2.2
  rw [e1, e2, e3, e4, e5]
  simp only [pl_b, pl_l]
  rw [if_neg (by decide), l_isRanked j1]
  simp only [pl_b, pl_l]
  rw [if_neg (by decide)]
theorem law_one (hL : 0 ≤ Ls) : pfL_law Ls xs 5000 [] (fun _ _ => 0) = some 1 := law_begin hL fun _ _ _ _ _ h a _ => law_end hL h a
end LZ

/-! the law begins -/
section BG
variable {sT : pd_S} {F : pd_F} {b : Int} {Ls : Int} {xs : Int → Int}
/-- a class with a book, as the law has it -/
def Bn (o : Option (Int × pd_S × pd_F)) : Prop := ∃ sT' F' D np na, o = some (1, pd_SH sT', F') ∧ Ac D np na 4 F' ∧ (3 ≤ np ∧ np ≤ 6) ∧ 2 ≤ na ∧ na ≤ 5
theorem l_begins (hL : 0 ≤ Ls) (hF : pd_Ly F) (h31 : F 3 1 = 0) (hb0 : aB (F 1 8)) (hb : aB b) (hne : F 1 8 ≠ b) (h21 : F 2 1 = b) (h113 : 0 ≤ F 113 3 ∧ F 113 3 ≤ 16) : Bn (pfL_begins Ls xs (pd_SH sT) 5000 F 1) := by
  refine t_begins (P := Bn) (by decide) hL fun sh' F' np nt na x5 x6 w hnp hnt hna hB hw ht h5 => ?_
  obtain ⟨⟨⟨U, rfl⟩, f1⟩, t2, t3, t4⟩ := ht
  have l366 : (366 : Int) ≤ (pd_SH sT).length := by rw [pd_SH_l]; omega
  have t5 : ((pd_SH sT).length : Int) < x5 ∧ ((pd_SH sT).length : Int) < F' x5 0 := by omega
  have fa : ∀ a : Int, a ≤ 366 → F' a = F a := fun a x => f1 a (by omega)
  have hF' : pd_Ly F' := fun a j x => by
    have : a ≤ 366 := by
      apply Classical.byContradiction
      intro z
      rw [pd_rc_hi (Or.inl (by omega))] at x
      cases x
    rw [fa a this]; exact hF a j x
  rw [pd_SH_app] at t2 ⊢
  obtain ⟨v, -, v2, ev⟩ := s_some (Ls := Ls) (xs := xs) hL (x := 170) (m := 4) (by decide) (by decide)
  obtain ⟨sT', F1, D, s, e1, e2, ⟨R, K, KR, e3⟩, e4, e8, e5, e6, e7⟩ := f_feeds t3 (by omega) (by omega) t2 (by omega) hF' (by rw [fa 3 (by decide)]; exact h31) (by rw [fa 1 (by decide)]; exact hb0) hb (by rw [fa 1 (by decide)]; exact hne) (by rw [fa 2 (by decide)]; exact h21) (by rw [fa 113 (by decide)]; exact h113) hB
  have hA : Ac D np na 0 F1 := ⟨s, 0, R, K, KR, e2, e3, e4, by omega, e5, e6, e7⟩
  obtain ⟨F2, g1, g2⟩ := a_loop (sT := sT') (xs := xs) hL hnp hna v2 ev 5000 F1 0 (by decide) (by decide) hA
  refine ⟨sT', F2, D, np, na, ?_, g2, hnp, hna⟩
  unfold pfL_begins_b580
  rw [e1]
  simp only [pl_b, pl_l, pl_t]
  exact g1
end BG

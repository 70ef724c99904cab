/-! the law's acts, one after another -/
section AC
variable {sT : pd_S} {D F : pd_F} {np na t : Int} {Ls : Int} {xs : Int → Int}
theorem s_cell (hL : 0 ≤ Ls) {x : Int} (hx : 0 ≤ x) : ∃ c, ∀ sh n F, pfL_cell Ls xs sh n F x = some (c, F) := by
  unfold pfL_cell
  by_cases h : Ls = 0
  · exact ⟨0, fun _ _ _ => by rw [if_neg (fun z => z h)]⟩
  · have := Int.tmod_lt_of_pos x (b := Ls) (by omega)
    have := Int.tmod_nonneg (a := x) Ls hx
    exact ⟨_, fun _ _ _ => by rw [if_pos h, pl_i h, pl_i (by omega)]⟩
theorem zF.one {H : pd_F} (z : zF F H) : H 1 = F 1 := z 1 (by decide) (by decide) (Or.inl (by decide)) (Or.inl (by decide))
theorem sD_1 {s : Int → Int} (h : 1 ≤ D 369 0) : 1 ≤ sD D s := by
  have := sN_bd (D := D) (s := s) (p := 0) (by omega) (by decide) (by omega)
  omega
theorem Ac.join (h : Ac D np na t F) (ht : 0 ≤ t ∧ t ≤ 3) {p o : Int} (hp : 0 ≤ p ∧ p < np) (ho : 0 ≤ o ∧ o < np) (hne : p ≠ o) : ∃ r H, pfX11_join (pd_SH sT) 5000 F 1 p o = some (r, H) ∧ 1 ≤ r ∧ Ac D np na (t + 1) H := by
  obtain ⟨s, u, R, K, KR, h1, h2, h3, h4, h5, h6, h7⟩ := h
  have s0 := h1.2.2.2.2.1.1.2.1
  rcases p_join (sT := sT) h1 h2 (p := p) (o := o) with ⟨z, -⟩ | ⟨-, H, e1, e2, e3, e4⟩
  · exact absurd ⟨⟨⟨hp.1, by omega⟩, ⟨ho.1, by omega⟩, hne⟩, by omega⟩ z
  · refine ⟨_, H, e1, sD_1 (by omega), _, _, _, _, _, e2, e4, by rw [e3.one]; exact h3, ⟨?_, ?_⟩, h5, h6, h7⟩
    · rw [ru_e]; omega
    · rw [ru_n (by decide), ru_n (by omega), ru_n (by omega)]; omega
theorem Ac.balance (h : Ac D np na t F) {a v : Int} (ha : 0 ≤ a ∧ a < na) (hv : 0 ≤ v ∧ v ≤ 9999999) : ∃ r H, pfX11_balance (pd_SH sT) 5000 F 1 a v = some (r, H) ∧ 0 ≤ r ∧ Ac D np na (t + 1) H := by
  obtain ⟨s, u, R, K, KR, h1, h2, h3, h4, h5, h6, h7⟩ := h
  have s0 := h1.2.2.2.2.1.1.1
  have n10 := h1.2.2.1.1.2.2.2.2.2.1
  rcases p_balance (sT := sT) h1 h2 (a := a) (v := v) with ⟨z, -⟩ | ⟨-, H, e1, e2, e3, e4⟩
  · exact absurd ⟨⟨ha.1, by omega⟩, hv⟩ z
  · refine ⟨_, H, e1, (s0 a ha.1 (by omega)).1, _, _, _, _, _, e2, e4, by rw [e3.one]; exact h3, ⟨?_, ?_⟩, h5, h6, h7⟩
    · rw [ru_n (by omega)]; omega
    · rw [ru_n (by omega)]; omega
theorem Ac.tell (h : Ac D np na t F) {v : Int} (hv : 0 ≤ v ∧ v ≤ 999) : ∃ r H, pfX11_tell (pd_SH sT) 5000 F 1 0 v = some (r, H) ∧ 0 ≤ r ∧ Ac D np na (t + 1) H := by
  obtain ⟨s, u, R, K, KR, h1, h2, h3, h4, h5, h6, h7⟩ := h
  have s0 := h1.2.2.2.2.1.2.2.2.1
  rcases p_tell (sT := sT) h1 h2 (w := 0) (v := v) with ⟨z, -⟩ | ⟨-, H, e1, e2, e3, e4⟩
  · exact absurd ⟨by omega, by decide, hv.1, hv.2⟩ z
  · refine ⟨_, H, e1, s0.1, _, _, _, _, _, e2, e4, by rw [e3.one]; exact h3, ⟨?_, ?_⟩, h5, h6, h7⟩
    · rw [ru_n (by decide)]; omega
    · rw [ru_n (by decide)]; omega
theorem Ac.mark (h : Ac D np na t F) (ht : 0 ≤ t ∧ t ≤ 3) {p out : Int} (hp : 0 ≤ p ∧ p < np) : ∃ m H, pfX11_person (pd_SH sT) 5000 F 1 p 1 = some (m, F) ∧ pfX11_mark (pd_SH sT) 5000 F 1 m out = some (1, H) ∧ Ac D np na (t + 1) H := by
  obtain ⟨s, u, R, K, KR, h1, h2, h3, h4, h5, h6, h7⟩ := h
  have s0 := h1.2.2.2.2.1
  have m1 := h7 p hp.1 hp.2
  have e0 := p_person (sT := sT) h1 (p := p) (w := 1)
  have ea : aPs D s p 1 (F (F 1 8 + 10 + 2 * p) 3) = D 376 (3 * p) := by
    unfold aPs
    rw [if_pos ⟨hp.1, by omega⟩, if_neg (by decide), if_pos (by decide), if_pos m1, show 3 * p + 1 - 1 = 3 * p by omega]
  rw [ea] at e0
  have hm : isMk D (D 376 (3 * p)) := ⟨p, hp.1, by omega, 0, by decide, by omega, by rw [Int.add_zero]⟩
  obtain ⟨s', g1, g2, g3⟩ := mR_ex (s := s) (m := D 376 (3 * p)) (out := out) s0.2.2.1 ⟨s0.1.2.2.1.1, by omega⟩
  rcases p_mark (sT := sT) h1 h2 (m := D 376 (3 * p)) (out := out) with ⟨z, -⟩ | ⟨-, q⟩
  · exact absurd hm z
  · obtain ⟨H, e1, e2, e3, e4⟩ := q s' g1
    exact ⟨_, H, e0, e1, _, _, _, _, _, e2, e4, by rw [e3.one]; exact h3, by omega, h5, h6, h7⟩
theorem Ac.up (h : Ac D np na t F) {t' : Int} (ht : t ≤ t') : Ac D np na t' F := by
  obtain ⟨s, u, R, K, KR, h1, h2, h3, h4, h⟩ := h
  exact ⟨s, u, R, K, KR, h1, h2, h3, by omega, h⟩
theorem a_loop (hL : 0 ≤ Ls) (hnp : 3 ≤ np ∧ np ≤ 6) (hna : 2 ≤ na ∧ na ≤ 5) {v : Int} (hv : v < 4) (ev : ∀ sh n F, pfL_some Ls xs sh n F 170 4 = some (v, F)) : ∀ (k : Nat) (F : pd_F) (x7 : Int), (k : Int) + x7 ≥ 5 → 0 ≤ x7 ∧ x7 ≤ 4 → Ac D np na x7 F → ∃ F', pfL_begins_b596 Ls xs 5000 k (pd_SH sT) F 1 np na x7 = some (1, pd_SH sT, F') ∧ Ac D np na 4 F' := by
  intro k
  induction k with
  | zero => intro F x7 hk h7; omega
  | succ k ih =>
    intro F x7 hk h7 hA
    rw [pfL_begins_b596, ev]
    simp only [pl_b, pl_l]
    by_cases c : x7 ≥ v
    · rw [if_pos c]
      exact ⟨F, rfl, hA.up (by omega)⟩
    rw [if_neg c]
    obtain ⟨e, he⟩ := s_cell (Ls := Ls) (xs := xs) hL (x := pd_w (171 + x7)) (pwn (by omega))
    rw [he]
    simp only [pl_b, pl_l]
    rw [pl_i (by omega)]
    obtain ⟨x9, h9⟩ : ∃ x9, Int.tmod (pd_and (pd_ushr e 3) 255) np = x9 := ⟨_, rfl⟩
    have r9 : 0 ≤ x9 ∧ x9 < np := by rw [← h9]; exact ⟨Int.tmod_nonneg _ (pand_r (m := 255) (by decide)).1, Int.tmod_lt_of_pos _ (by omega)⟩
    rw [h9]
    obtain ⟨g, hg⟩ : ∃ g, pd_and e 3 = g := ⟨_, rfl⟩
    have rg : 0 ≤ g ∧ g ≤ 3 := by rw [← hg]; exact pand_r (m := 3) (by decide)
    rw [hg]
    have fin : ∀ H, Ac D np na (x7 + 1) H → ∃ F', pfL_begins_b760 Ls xs 5000 (pfL_begins_b596 Ls xs 5000 k) (pd_SH sT) H 1 np na x7 = some (1, pd_SH sT, F') ∧ Ac D np na 4 F' := fun H hH => by
      unfold pfL_begins_b760
      rw [pl_l, pl_w (by omega)]
      exact ih H (x7 + 1) (by omega) (by omega) hH
    have s721 : ∀ H, g ≠ 3 → pfL_begins_b721 Ls xs 5000 (pfL_begins_b596 Ls xs 5000 k) (pd_SH sT) H 1 np na x7 e x9 = pfL_begins_b760 Ls xs 5000 (pfL_begins_b596 Ls xs 5000 k) (pd_SH sT) H 1 np na x7 := fun H z => by
      unfold pfL_begins_b721
      rw [hg, if_pos z]
    have s695 : ∀ H, g ≠ 2 → pfL_begins_b695 Ls xs 5000 (pfL_begins_b596 Ls xs 5000 k) (pd_SH sT) H 1 np na x7 e x9 = pfL_begins_b721 Ls xs 5000 (pfL_begins_b596 Ls xs 5000 k) (pd_SH sT) H 1 np na x7 e x9 := fun H z => by
      unfold pfL_begins_b695
      rw [hg, if_pos z]
    have s658 : ∀ H, g ≠ 1 → pfL_begins_b658 Ls xs 5000 (pfL_begins_b596 Ls xs 5000 k) (pd_SH sT) H 1 np na x7 e x9 = pfL_begins_b695 Ls xs 5000 (pfL_begins_b596 Ls xs 5000 k) (pd_SH sT) H 1 np na x7 e x9 := fun H z => by
      unfold pfL_begins_b658
      rw [hg, if_pos z]
    by_cases z0 : g ≠ 0
    · rw [if_pos z0]
      by_cases z1 : g = 1
      · have a1 := Int.tmod_nonneg (a := pd_and (pd_ushr e 3) 255) na (pand_r (m := 255) (by decide)).1
        have a2 := Int.tmod_lt_of_pos (pd_and (pd_ushr e 3) 255) (b := na) (by omega)
        have a3 : 0 ≤ pd_and (pd_ushr e 11) 8191 ∧ pd_and (pd_ushr e 11) 8191 ≤ 8191 := pand_r (x := pd_ushr e 11) (m := 8191) (by decide)
        obtain ⟨r, H, b1, b2, b3⟩ := hA.balance (sT := sT) ⟨a1, a2⟩ (v := pd_and (pd_ushr e 11) 8191) (by omega)
        have e1 : pfL_begins_b658 Ls xs 5000 (pfL_begins_b596 Ls xs 5000 k) (pd_SH sT) F 1 np na x7 e x9 = pfL_begins_b695 Ls xs 5000 (pfL_begins_b596 Ls xs 5000 k) (pd_SH sT) H 1 np na x7 e x9 := by
          unfold pfL_begins_b658
          rw [hg, if_neg (fun y => y z1), pl_i (by omega)]
          simp only [gx_1, pl_iT, b1, pl_b, pl_l]
          rw [if_pos (show r ≥ 0 from b2)]
        rw [e1, s695 H (by omega), s721 H (by omega)]
        exact fin H b3
      rw [s658 F z1]
      by_cases z2 : g = 2
      · have a3 : 0 ≤ pd_and (pd_ushr e 11) 63 ∧ pd_and (pd_ushr e 11) 63 ≤ 63 := pand_r (x := pd_ushr e 11) (m := 63) (by decide)
        obtain ⟨r, H, b1, b2, b3⟩ := hA.tell (sT := sT) (v := pd_and (pd_ushr e 11) 63) (by omega)
        have e1 : pfL_begins_b695 Ls xs 5000 (pfL_begins_b596 Ls xs 5000 k) (pd_SH sT) F 1 np na x7 e x9 = pfL_begins_b721 Ls xs 5000 (pfL_begins_b596 Ls xs 5000 k) (pd_SH sT) H 1 np na x7 e x9 := by
          unfold pfL_begins_b695
          rw [hg, if_neg (fun y => y z2)]
          simp only [gx_1, pl_iT, b1, pl_b, pl_l]
          rw [if_pos (show r ≥ 0 from b2)]
        rw [e1, s721 H (by omega)]
        exact fin H b3
      rw [s695 F z2]
      have z3 : g = 3 := by omega
      have go : ∀ out, ∃ m H, pfX11_person (pd_SH sT) 5000 F 1 x9 1 = some (m, F) ∧ pfL_begins_b752 Ls xs 5000 (pfL_begins_b596 Ls xs 5000 k) (pd_SH sT) F 1 np na x7 out m 1 = pfL_begins_b760 Ls xs 5000 (pfL_begins_b596 Ls xs 5000 k) (pd_SH sT) H 1 np na x7 ∧ Ac D np na (x7 + 1) H := fun out => by
        obtain ⟨m, H, b1, b2, b3⟩ := hA.mark (sT := sT) (by omega) (out := out) r9
        refine ⟨m, H, b1, ?_, b3⟩
        unfold pfL_begins_b752
        simp only [gx_1, pl_iT, b2, pl_b, pl_l]
        rw [if_pos (show (1 : Int) ≠ 0 by decide)]
      unfold pfL_begins_b721
      rw [hg, if_neg (fun y => y z3)]
      by_cases w : pd_and (pd_ushr e 11) 1 ≠ 0
      · obtain ⟨m, H, b1, b2, b3⟩ := go 0
        simp only [gx_1, pl_iT, b1, pl_b, pl_l]
        rw [if_pos w, b2]
        exact fin H b3
      · obtain ⟨m, H, b1, b2, b3⟩ := go 1
        simp only [gx_1, pl_iT, b1, pl_b, pl_l]
        rw [if_neg w, b2]
        exact fin H b3
    · rw [if_neg z0]
      have q1 : pd_w (x9 + 1) = x9 + 1 := pl_w (by omega)
      have a1 := Int.tmod_nonneg (a := x9 + 1) np (by omega)
      have a2 := Int.tmod_lt_of_pos (x9 + 1) (b := np) (by omega)
      have a4 : x9 ≠ Int.tmod (x9 + 1) np := by
        rw [Int.tmod_eq_emod_of_nonneg (by omega)]
        have : np = 3 ∨ np = 4 ∨ np = 5 ∨ np = 6 := by omega
        rcases this with rfl | rfl | rfl | rfl <;> omega
      obtain ⟨r, H, b1, b2, b3⟩ := hA.join (sT := sT) (by omega) r9 ⟨a1, a2⟩ a4
      simp only [gx_1, pl_iT, q1, b1, pl_b, pl_l]
      rw [if_pos (show r ≥ 1 from b2), s658 H (by omega), s695 H (by omega), s721 H (by omega)]
      exact fin H b3
end AC

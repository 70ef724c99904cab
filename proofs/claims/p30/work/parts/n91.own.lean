/-! the law's acts -/
theorem mR_ex {s : Int → Int} {m out : Int} (hd : dst s) (hn : 0 ≤ s 110 ∧ s 110 < 36) : ∃ s', mR s s' m out ∧ s' 110 ≤ s 110 + 1 ∧ s' 70 = s 70 := by
  obtain ⟨n, hnn⟩ : ∃ n, s 110 = n := ⟨_, rfl⟩
  rw [hnn] at hn
  have hd' : ∀ i j, 0 ≤ i → i < n → 0 ≤ j → j < n → s (74 + i) = s (74 + j) → i = j := fun i j a b c d e => hd i j a (by omega) c (by omega) e
  by_cases ho : out ≠ 0
  · by_cases hm : Ou s m
    · refine ⟨s, ⟨fun _ _ => rfl, by omega, hd, fun x => ?_, by omega⟩, by omega, rfl⟩
      rw [if_pos ho]
      exact ⟨Or.inl, fun z => z.elim id (fun e => e ▸ hm)⟩
    · obtain ⟨s', hs'⟩ : ∃ s', ru (ru s (74 + n) m) 110 (n + 1) = s' := ⟨_, rfl⟩
      have v : ∀ j, j ≠ 110 → j ≠ 74 + n → s' j = s j := fun j a b => by rw [← hs']; unfold ru; rw [if_neg a, if_neg b]
      have vn : s' (74 + n) = m := by rw [← hs']; unfold ru; rw [if_neg (by omega), if_pos rfl]
      have v110 : s' 110 = n + 1 := by rw [← hs']; unfold ru; rw [if_pos rfl]
      have nin : ∀ i, 0 ≤ i → i < n → s (74 + i) ≠ m := fun i a b e => hm ⟨i, a, by omega, e⟩
      have ou : ∀ x, Ou s' x ↔ Ou s x ∨ x = m := fun x => by
        constructor
        · rintro ⟨i, a, b, e⟩
          rw [v110] at b
          by_cases z : i = n
          · rw [z, vn] at e; exact Or.inr e.symm
          · rw [v _ (by omega) (by omega)] at e; exact Or.inl ⟨i, a, by omega, e⟩
        · rintro (⟨i, a, b, e⟩ | e)
          · exact ⟨i, a, by omega, by rw [v _ (by omega) (by omega)]; exact e⟩
          · exact ⟨n, hn.1, by omega, by rw [vn, e]⟩
      refine ⟨s', ⟨fun j a => v j (by omega) (by omega), by omega, fun i j a b c d e => ?_, fun x => by rw [if_pos ho]; exact ou x, ?_⟩, by omega, v 70 (by decide) (by omega)⟩
      · rw [v110] at b d
        by_cases z : i = n
        · by_cases z2 : j = n
          · omega
          · rw [z, vn, v _ (by omega) (by omega)] at e
            exact absurd e.symm (nin j c (by omega))
        · by_cases z2 : j = n
          · rw [z2, vn, v _ (by omega) (by omega)] at e
            exact absurd e (nin i a (by omega))
          · rw [v _ (by omega) (by omega), v _ (by omega) (by omega)] at e
            exact hd' i j a (by omega) c (by omega) e
      · rw [ci_t ((ou m).mpr (Or.inr rfl)), ci_f hm]; omega
  · by_cases hm : Ou s m
    · obtain ⟨i0, p1, p2, p3⟩ := id hm
      rw [hnn] at p2
      obtain ⟨s', hs'⟩ : ∃ s', ru (ru s (74 + i0) (s (74 + (n - 1)))) 110 (n - 1) = s' := ⟨_, rfl⟩
      have v : ∀ j, j ≠ 110 → j ≠ 74 + i0 → s' j = s j := fun j a b => by rw [← hs']; unfold ru; rw [if_neg a, if_neg b]
      have vn : s' (74 + i0) = s (74 + (n - 1)) := by rw [← hs']; unfold ru; rw [if_neg (by omega), if_pos rfl]
      have v110 : s' 110 = n - 1 := by rw [← hs']; unfold ru; rw [if_pos rfl]
      have nin : ∀ i, 0 ≤ i → i < n → i ≠ i0 → s (74 + i) ≠ m := fun i a b z e => z (hd' i i0 a b p1 p2 (e.trans p3.symm))
      have ou : ∀ x, Ou s' x ↔ Ou s x ∧ x ≠ m := fun x => by
        constructor
        · rintro ⟨i, a, b, e⟩
          rw [v110] at b
          by_cases z : i = i0
          · rw [z, vn] at e
            exact ⟨⟨n - 1, by omega, by omega, e⟩, fun y => nin (n - 1) (by omega) (by omega) (by omega) (e.trans y)⟩
          · rw [v _ (by omega) (by omega)] at e
            exact ⟨⟨i, a, by omega, e⟩, fun y => nin i a (by omega) z (e.trans y)⟩
        · rintro ⟨⟨i, a, b, e⟩, y⟩
          rw [hnn] at b
          have z : i ≠ i0 := fun z => y (by rw [← e, z]; exact p3)
          by_cases w : i = n - 1
          · exact ⟨i0, p1, by omega, by rw [vn, ← w]; exact e⟩
          · exact ⟨i, a, by omega, by rw [v _ (by omega) (by omega)]; exact e⟩
      have nm : ¬ Ou s' m := fun z => ((ou m).mp z).2 rfl
      refine ⟨s', ⟨fun j a => v j (by omega) (by omega), by omega, fun i j a b c d e => ?_, fun x => by rw [if_neg ho]; exact ou x, ?_⟩, by omega, v 70 (by decide) (by omega)⟩
      · rw [v110] at b d
        by_cases z : i = i0
        · by_cases z2 : j = i0
          · omega
          · rw [z, vn, v _ (by omega) (by omega)] at e
            have := hd' (n - 1) j (by omega) (by omega) c (by omega) e
            omega
        · by_cases z2 : j = i0
          · rw [z2, vn, v _ (by omega) (by omega)] at e
            have := hd' i (n - 1) a (by omega) (by omega) (by omega) e
            omega
          · rw [v _ (by omega) (by omega), v _ (by omega) (by omega)] at e
            exact hd' i j a (by omega) c (by omega) e
      · rw [ci_f nm, ci_t hm]; omega
    · refine ⟨s, ⟨fun _ _ => rfl, by omega, hd, fun x => ?_, by rw [ci_f hm]; omega⟩, by omega, rfl⟩
      rw [if_neg ho]
      exact ⟨fun z => ⟨z, fun e => hm (e ▸ z)⟩, fun z => z.1⟩
/-- the class as the law has it, after t acts -/
def Ac (D : pd_F) (np na t : Int) (F : pd_F) : Prop := ∃ s u R K KR, cS D s F ∧ cH D F u R K KR ∧ F 1 9 = 1 ∧ (s 70 ≤ t ∧ s 110 ≤ t) ∧ D 369 0 = np ∧ D 371 0 = na ∧ ∀ p, 0 ≤ p → p < np → 1 ≤ D 375 p

variable {sT : pd_S}
/-! numbers of depositors against the joins -/
section DCs
variable {np : Int} {C : Int → Int → Prop}
theorem dn_in (ht : ∀ x y z, 0 ≤ x → x < np → C x y → C y z → C x z) : ∀ n : Nat, (n : Int) ≤ np → ∀ o, 0 ≤ o → o < np → (0 ≤ (dn np C n).1 o ↔ ∃ q, 0 ≤ q ∧ q < (n : Int) ∧ C q o)
  | 0, _, o, a, b => ⟨fun h => absurd h (by show ¬ (0 : Int) ≤ -1; decide), fun ⟨q, x, y, _⟩ => by omega⟩
  | n + 1, hn, o, a, b => by
    have ih := dn_in ht n (by omega)
    have i2 : 0 ≤ (dn np C n).2 := by
      have : ∀ m : Nat, 0 ≤ (dn np C m).2 := fun m => by
        induction m with
        | zero => exact Int.le_refl _
        | succ m ih =>
          rw [dn_s]
          split
          · exact ih
          · show 0 ≤ (dn np C m).2 + 1; omega
      exact this n
    rw [dn_s]
    by_cases h : 0 ≤ (dn np C n).1 n
    · rw [if_pos h, ih o a b]
      obtain ⟨r, r0, r1, r2⟩ := (ih n (by omega) (by omega)).mp h
      constructor
      · rintro ⟨q, x, y, z⟩; exact ⟨q, x, by omega, z⟩
      · rintro ⟨q, x, y, z⟩
        by_cases e : q = n
        · exact ⟨r, r0, r1, ht r n o r0 (by omega) r2 (e ▸ z)⟩
        · exact ⟨q, x, by omega, z⟩
    · rw [if_neg h]
      show 0 ≤ ci _ _ _ ↔ _
      rcases ci_o (0 ≤ o ∧ o < np ∧ C n o) (dn np C n).2 ((dn np C n).1 o) with ⟨k, k2⟩ | ⟨k, k2⟩
      · rw [k2]; exact ⟨fun _ => ⟨n, by omega, by omega, k.2.2⟩, fun _ => i2⟩
      · rw [k2, ih o a b]
        constructor
        · rintro ⟨q, x, y, z⟩; exact ⟨q, x, by omega, z⟩
        · rintro ⟨q, x, y, z⟩
          by_cases e : q = n
          · exact absurd ⟨a, b, e ▸ z⟩ k
          · exact ⟨q, x, by omega, z⟩
end DCs
section Cns
variable {np : Int} {A B : Int → Int → Prop}
theorem Cn_t (hn : np ≤ 12) : ∀ x y z, 0 ≤ x → x < np → Cn np A x y → Cn np A y z → Cn np A x z := fun _ _ _ a b c d => Cn_tr hn ⟨a, b⟩ c d
end Cns
section RJ
variable {D : pd_F} {s : Int → Int} {F : pd_F}
/-- joins of persons -/
def jOk (D : pd_F) (s : Int → Int) : Prop := ∀ k, 0 ≤ k → k < s 70 → (0 ≤ s (10 + 2 * k) ∧ s (10 + 2 * k) < D 369 0) ∧ 0 ≤ s (11 + 2 * k) ∧ s (11 + 2 * k) < D 369 0
end RJ

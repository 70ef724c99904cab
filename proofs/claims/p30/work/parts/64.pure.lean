variable {sT : pd_S}
/-! the reference's readers -/
theorem pl_find {R : Type} {f : Nat → Int → Option R} {Q : Int → Prop} {hit : Int → Option R} {miss : Option R} {N : Int} (hN : 0 ≤ N)
    (hh : ∀ k i, 0 ≤ i → i < N → Q i → f (k + 1) i = hit i) (hm : ∀ k i, 0 ≤ i → i < N → ¬ Q i → f (k + 1) i = f k (i + 1)) (he : ∀ k, f (k + 1) N = miss) (k : Nat) (hk : N < k) :
    (∃ i, 0 ≤ i ∧ i < N ∧ Q i ∧ (∀ j, 0 ≤ j → j < i → ¬ Q j) ∧ f k 0 = hit i) ∨ ((∀ j, 0 ≤ j → j < N → ¬ Q j) ∧ f k 0 = miss) := by
  refine pl_for (f := fun k (_ : Unit) i => f k i) (P := fun i _ => ∀ j, 0 ≤ j → j < i → ¬ Q j) (N := N) (res := fun o => (∃ i, 0 ≤ i ∧ i < N ∧ Q i ∧ (∀ j, 0 ≤ j → j < i → ¬ Q j) ∧ o = hit i) ∨ ((∀ j, 0 ≤ j → j < N → ¬ Q j) ∧ o = miss)) ?_ ?_ k () 0 (by omega) hN (by omega) (fun j a b => by omega)
  · intro k q i a b h
    rcases Classical.em (Q i) with c | c
    · exact Or.inr (Or.inl ⟨i, a, b, c, h, hh k i a b c⟩)
    · refine Or.inl ⟨(), fun j d e => ?_, hm k i a b c⟩
      rcases Int.lt_or_eq_of_le (show j ≤ i by omega) with g | g
      · exact h j d g
      · rw [g]; exact c
  · intro k q h
    exact Or.inr ⟨h, he k⟩
theorem pl_some {F : pd_F} {f : Nat → Int → Option (Int × pd_F)} {Q : Int → Prop} {N : Int} (hN : 0 ≤ N)
    (hh : ∀ k i, 0 ≤ i → i < N → Q i → f (k + 1) i = some (1, F)) (hm : ∀ k i, 0 ≤ i → i < N → ¬ Q i → f (k + 1) i = f k (i + 1)) (he : ∀ k, f (k + 1) N = some (0, F)) (k : Nat) (hk : N < k) :
    f k 0 = some (ci (∃ i, 0 ≤ i ∧ i < N ∧ Q i) 1 0, F) := by
  rcases pl_find hN hh hm he k hk with ⟨i, a, b, c, -, e⟩ | ⟨h, e⟩
  · rw [e, ci_t ⟨i, a, b, c⟩]
  · rw [e, ci_f (fun ⟨i, a, b, c⟩ => h i a b c)]
/-- the mark m is left out, by the row s -/
def Ou (s : Int → Int) (m : Int) : Prop := ∃ i, 0 ≤ i ∧ i < s 110 ∧ s (74 + i) = m
def Hk (mm mk : Int → Int) (p m : Int) : Prop := ∃ i, 0 ≤ i ∧ i < mm p ∧ mk (3 * p + i) = m
def Hm (mm mk s : Int → Int) (p o : Int) : Prop := ∃ i, 0 ≤ i ∧ i < mm p ∧ Hk mm mk o (mk (3 * p + i)) ∧ ¬ Ou s (mk (3 * p + i))
def Jn (s : Int → Int) (p o : Int) : Prop := ∃ k, 0 ≤ k ∧ k < s 70 ∧ (s (10 + 2 * k) = p ∧ s (11 + 2 * k) = o ∨ s (10 + 2 * k) = o ∧ s (11 + 2 * k) = p)
/-- two persons have a mark alike that counts, or are joined -/
def Bs (mm mk s : Int → Int) (p o : Int) : Prop := p ≠ o ∧ (Hm mm mk s p o ∨ Jn s p o)

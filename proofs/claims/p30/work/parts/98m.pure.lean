variable {sT : pd_S}
/-! a trust told -/
def Ls (nt na l : Int) : Prop := (0 ≤ l ∧ l < nt) ∨ (5 ≤ l ∧ l < 5 + na)
theorem l_fit {B B' : pd_F} {np nt na : Int} (hnp : np ≤ 12) (h1 : ∀ t, 0 ≤ t → t < nt → lOk np (B 381) (B 382) (B 383) t t) (h2 : ∀ a, 0 ≤ a → a < na → lOk np (B 381) (B 382) (B 383) (5 + a) nt) (e1 : ∀ l, Ls nt na l → B' 381 l = B 381 l) (e2 : ∀ l i, Ls nt na l → 0 ≤ i → i < 5 → B' 382 (5 * l + i) = B 382 (5 * l + i) ∧ B' 383 (5 * l + i) = B 383 (5 * l + i)) :
    (∀ l j, Ls nt na l → j ≤ B 381 l → lW (B' 383) l j = lW (B 383) l j) ∧ ∀ (k : Nat) (l : Int), Ls nt na l → (lFl (B' 381) (B' 382) (B' 383) k l ↔ lFl (B 381) (B 382) (B 383) k l) ∧ lDp (B' 381) (B' 382) k l = lDp (B 381) (B 382) k l ∧ (∀ p, lWy (B' 381) (B' 382) k l p = lWy (B 381) (B 382) k l p) ∧ ∀ a p, lGv (B' 381) (B' 382) (B' 383) k l a p = lGv (B 381) (B 382) (B 383) k l a p := by
  have ok : ∀ l, Ls nt na l → ∃ m, m ≤ nt ∧ lOk np (B 381) (B 382) (B 383) l m := fun l s => by
    rcases s with s | s
    · exact ⟨l, by omega, h1 l s.1 s.2⟩
    · have := h2 (l - 5) (by omega) (by omega)
      rw [show 5 + (l - 5) = l by omega] at this
      exact ⟨nt, Int.le_refl _, this⟩
  refine l_cg (S := Ls nt na) (fun l s => ?_) (fun l i s x y => ?_) (fun l i s x y z => ?_)
  · obtain ⟨m, _, o⟩ := ok l s
    exact ⟨o.1, e1 l s⟩
  · obtain ⟨m, _, o⟩ := ok l s
    exact e2 l i s x (by have := o.2.1; omega)
  · obtain ⟨m, hm, o⟩ := ok l s
    have := (o.2.2 i x y).1
    exact Or.inl (by omega)
theorem lists_cg {B B' F F' : pd_F} {b np nt na : Int} (hnp : np ≤ 12) (h1 : ∀ t, 0 ≤ t → t < nt → kG B F b t ∧ lOk np (B 381) (B 382) (B 383) t t) (h2 : ∀ a, 0 ≤ a → a < na → kG B F b (5 + a) ∧ lOk np (B 381) (B 382) (B 383) (5 + a) nt) (e1 : ∀ l, Ls nt na l → B' 381 l = B 381 l) (e2 : ∀ l i, Ls nt na l → 0 ≤ i → i < 5 → B' 382 (5 * l + i) = B 382 (5 * l + i) ∧ B' 383 (5 * l + i) = B 383 (5 * l + i)) (ef : ∀ l a, Ls nt na l → b + 34 + 4 * l ≤ a → a ≤ b + 37 + 4 * l → F' a = F a) :
    (∀ t, 0 ≤ t → t < nt → kG B' F' b t ∧ lOk np (B' 381) (B' 382) (B' 383) t t) ∧ ∀ a, 0 ≤ a → a < na → kG B' F' b (5 + a) ∧ lOk np (B' 381) (B' 382) (B' 383) (5 + a) nt := by
  obtain ⟨c1, c2⟩ := l_fit hnp (fun t x y => (h1 t x y).2) (fun a x y => (h2 a x y).2) e1 e2
  have go : ∀ l m, Ls nt na l → kG B F b l → lOk np (B 381) (B 382) (B 383) l m → kG B' F' b l ∧ lOk np (B' 381) (B' 382) (B' 383) l m := fun l m s k o => by
    obtain ⟨d1, d2, d3, -⟩ := c2 8 l s
    have o5 := o.2.1
    constructor
    · obtain ⟨k1, k2, k3, k4, k5, k6⟩ := k
      unfold kG
      rw [ef l (b + 34 + 4 * l) s (by omega) (by omega), ef l (b + 34 + 4 * l + 1) s (by omega) (by omega), ef l (b + 34 + 4 * l + 2) s (by omega) (by omega), ef l (b + 34 + 4 * l + 3) s (by omega) (by omega), e1 l s, c1 l _ s (Int.le_refl _), ci_c d1, d2]
      refine ⟨k1, k2, k3, k4, fun p x y => by rw [d3]; exact k5 p x y, fun i x y => ?_⟩
      rw [(e2 l i s x (by omega)).1, (e2 l i s x (by omega)).2]
      exact k6 i x y
    · unfold lOk
      rw [e1 l s]
      refine ⟨o.1, o.2.1, fun i x y => ?_⟩
      rw [(e2 l i s x (by omega)).1, (e2 l i s x (by omega)).2]
      exact o.2.2 i x y
  exact ⟨fun t x y => go t t (Or.inl ⟨x, y⟩) (h1 t x y).1 (h1 t x y).2, fun a x y => go (5 + a) nt (Or.inr (by omega)) (h2 a x y).1 (h2 a x y).2⟩
section TL
variable {b : Int} {F G : pd_F}
end TL

variable {sT : pd_S}
/-! who is one with whom -/
/-- q is reached from p by at most d steps over A among 0 .. np - 1 -/
def Rk (np : Int) (A : Int → Int → Prop) (p : Int) : Nat → Int → Prop
  | 0, q => q = p
  | d + 1, q => Rk np A p d q ∨ (0 ≤ q ∧ q < np ∧ ∃ r, 0 ≤ r ∧ r < np ∧ Rk np A p d r ∧ A r q)
def Cn (np : Int) (A : Int → Int → Prop) (p q : Int) : Prop := Rk np A p 11 q
theorem Rk_mono {np : Int} {A : Int → Int → Prop} {p q : Int} {d e : Nat} (h : d ≤ e) (hr : Rk np A p d q) : Rk np A p e q := by
  obtain ⟨k, rfl⟩ := Nat.exists_eq_add_of_le h
  clear h
  induction k with
  | zero => exact hr
  | succ k ih => exact Or.inl ih
theorem Rk_in {np : Int} {A : Int → Int → Prop} {p : Int} (hp : 0 ≤ p ∧ p < np) : ∀ {d : Nat} {q : Int}, Rk np A p d q → 0 ≤ q ∧ q < np
  | 0, q, h => by have : q = p := h; omega
  | d + 1, q, h => by
    rcases h with h | h
    · exact Rk_in hp h
    · exact ⟨h.1, h.2.1⟩
/-- closed at d: nothing new at any later step -/
theorem Rk_stop {np : Int} {A : Int → Int → Prop} {p : Int} {d : Nat} (h : ∀ q, Rk np A p (d + 1) q → Rk np A p d q) : ∀ (e : Nat) (q : Int), Rk np A p (d + e) q → Rk np A p d q
  | 0, q, hr => hr
  | e + 1, q, hr => by
    rcases hr with hr | ⟨a, b, r, c1, c2, c3, c4⟩
    · exact Rk_stop h e q hr
    · exact h q (Or.inr ⟨a, b, r, c1, c2, Rk_stop h e r c3, c4⟩)
/-- how many of 0 .. 11 -/
noncomputable def pc1 (P : Int → Prop) (i : Int) : Nat := ci (P i) 1 0
noncomputable def pcn (P : Int → Prop) : Nat := pc1 P 0 + pc1 P 1 + pc1 P 2 + pc1 P 3 + pc1 P 4 + pc1 P 5 + pc1 P 6 + pc1 P 7 + pc1 P 8 + pc1 P 9 + pc1 P 10 + pc1 P 11
theorem pc1_le (P : Int → Prop) (i : Int) : pc1 P i ≤ 1 := by unfold pc1; rcases ci_o (P i) 1 0 with h | h <;> rw [h.2] <;> decide
theorem pc1_mono {P Q : Int → Prop} (h : ∀ q, P q → Q q) (i : Int) : pc1 P i ≤ pc1 Q i := by
  unfold pc1
  rcases Classical.em (P i) with a | a
  · rw [ci_t a, ci_t (h i a)]; exact Nat.le_refl _
  · rw [ci_f a]; exact Nat.zero_le _
theorem pcn_le (P : Int → Prop) : pcn P ≤ 12 := by
  have := pc1_le P
  unfold pcn
  have a0 := this 0; have a1 := this 1; have a2 := this 2; have a3 := this 3; have a4 := this 4; have a5 := this 5
  have a6 := this 6; have a7 := this 7; have a8 := this 8; have a9 := this 9; have a10 := this 10; have a11 := this 11
  omega
theorem pcn_lt {P Q : Int → Prop} (h : ∀ q, P q → Q q) {x : Int} (h0 : 0 ≤ x ∧ x < 12) (hP : ¬ P x) (hQ : Q x) : pcn P < pcn Q := by
  have := pc1_mono h
  have e1 : pc1 P x = 0 := ci_f hP
  have e2 : pc1 Q x = 1 := ci_t hQ
  have hx : x = 0 ∨ x = 1 ∨ x = 2 ∨ x = 3 ∨ x = 4 ∨ x = 5 ∨ x = 6 ∨ x = 7 ∨ x = 8 ∨ x = 9 ∨ x = 10 ∨ x = 11 := by omega
  unfold pcn
  have a0 := this 0; have a1 := this 1; have a2 := this 2; have a3 := this 3; have a4 := this 4; have a5 := this 5
  have a6 := this 6; have a7 := this 7; have a8 := this 8; have a9 := this 9; have a10 := this 10; have a11 := this 11
  rcases hx with rfl | rfl | rfl | rfl | rfl | rfl | rfl | rfl | rfl | rfl | rfl | rfl <;> omega
theorem pcn_pos {P : Int → Prop} {x : Int} (h0 : 0 ≤ x ∧ x < 12) (h : P x) : 0 < pcn P := by
  have := pcn_lt (P := fun _ => False) (Q := P) (fun _ h => h.elim) h0 (fun h => h) h
  omega
/-- either closed by now, or one more at each step -/
theorem Rk_grow {np : Int} {A : Int → Int → Prop} {p : Int} (hn : np ≤ 12) (hp : 0 ≤ p ∧ p < np) : ∀ d : Nat, (∀ q, Rk np A p (d + 1) q → Rk np A p d q) ∨ d + 2 ≤ pcn (Rk np A p (d + 1))
  | 0 => by
    rcases Classical.em (∀ q, Rk np A p 1 q → Rk np A p 0 q) with h | h
    · exact Or.inl h
    · obtain ⟨q, hq⟩ := Classical.not_forall.mp h
      obtain ⟨h1, h2⟩ := Classical.not_imp.mp hq
      have hi := Rk_in hp h1
      have a := pcn_lt (P := Rk np A p 0) (Q := Rk np A p 1) (fun q h => Or.inl h) (x := q) (by omega) h2 h1
      have b := pcn_pos (P := Rk np A p 0) (x := p) (by omega) rfl
      exact Or.inr (show 0 + 2 ≤ pcn (Rk np A p 1) by omega)
  | d + 1 => by
    rcases Classical.em (∀ q, Rk np A p (d + 2) q → Rk np A p (d + 1) q) with h | h
    · exact Or.inl h
    · obtain ⟨q, hq⟩ := Classical.not_forall.mp h
      obtain ⟨h1, h2⟩ := Classical.not_imp.mp hq
      have hi := Rk_in hp h1
      have a := pcn_lt (P := Rk np A p (d + 1)) (Q := Rk np A p (d + 2)) (fun q h => Or.inl h) (x := q) (by omega) h2 h1
      rcases Rk_grow hn hp d with g | g
      · exact absurd (Or.inl (Rk_stop g 2 q h1)) h2
      · have g' : d + 2 ≤ pcn (Rk np A p (d + 1)) := g
        exact Or.inr (show d + 1 + 2 ≤ pcn (Rk np A p (d + 2)) by omega)
/-- eleven steps are enough -/
theorem Rk_11 {np : Int} {A : Int → Int → Prop} {p q : Int} (hn : np ≤ 12) (hp : 0 ≤ p ∧ p < np) (d : Nat) (h : Rk np A p d q) : Cn np A p q := by
  rcases Nat.lt_or_ge 11 d with hd | hd
  · rcases Rk_grow (A := A) hn hp 11 with g | g
    · obtain ⟨k, rfl⟩ := Nat.exists_eq_add_of_le (Nat.le_of_lt hd)
      exact Rk_stop g k q h
    · have := pcn_le (Rk np A p 12)
      have g' : 11 + 2 ≤ pcn (Rk np A p 12) := g
      omega
  · exact Rk_mono hd h
theorem Cn_step {np : Int} {A : Int → Int → Prop} {p q r : Int} (hn : np ≤ 12) (hp : 0 ≤ p ∧ p < np) (h : Cn np A p q) (hr : 0 ≤ r ∧ r < np) (ha : A q r) : Cn np A p r :=
  Rk_11 hn hp 12 (Or.inr ⟨hr.1, hr.2, q, (Rk_in hp h).1, (Rk_in hp h).2, h, ha⟩)
theorem Cn_rf {np : Int} {A : Int → Int → Prop} {p : Int} : Cn np A p p := Rk_mono (d := 0) (Nat.zero_le _) rfl
theorem Cn_tr0 {np : Int} {A : Int → Int → Prop} {p q : Int} (hn : np ≤ 12) (hp : 0 ≤ p ∧ p < np) (h : Cn np A p q) : ∀ {d : Nat} {r : Int}, Rk np A q d r → Cn np A p r
  | 0, r, hr => by have e : r = q := hr; rw [e]; exact h
  | d + 1, r, hr => by
    rcases hr with hr | ⟨a, b, x, c1, c2, c3, c4⟩
    · exact Cn_tr0 hn hp h hr
    · exact Cn_step hn hp (Cn_tr0 hn hp h c3) ⟨a, b⟩ c4
theorem Cn_tr {np : Int} {A : Int → Int → Prop} {p q r : Int} (hn : np ≤ 12) (hp : 0 ≤ p ∧ p < np) (h : Cn np A p q) (h2 : Cn np A q r) : Cn np A p r := Cn_tr0 hn hp h h2
theorem Cn_sy0 {np : Int} {A : Int → Int → Prop} {p : Int} (hn : np ≤ 12) (hA : ∀ x y, A x y → A y x) (hp : 0 ≤ p ∧ p < np) : ∀ {d : Nat} {r : Int}, Rk np A p d r → Cn np A r p
  | 0, r, hr => by have e : r = p := hr; rw [e]; exact Cn_rf
  | d + 1, r, hr => by
    rcases hr with hr | ⟨a, b, x, c1, c2, c3, c4⟩
    · exact Cn_sy0 hn hA hp hr
    · exact Cn_tr hn ⟨a, b⟩ (Cn_step hn ⟨a, b⟩ Cn_rf ⟨c1, c2⟩ (hA _ _ c4)) (Cn_sy0 hn hA hp c3)
theorem Cn_sy {np : Int} {A : Int → Int → Prop} {p q : Int} (hn : np ≤ 12) (hA : ∀ x y, A x y → A y x) (hp : 0 ≤ p ∧ p < np) (h : Cn np A p q) : Cn np A q p := Cn_sy0 hn hA hp h
theorem Rk_congr {np : Int} {A B : Int → Int → Prop} {p : Int} (hp : 0 ≤ p ∧ p < np) (h : ∀ x y, 0 ≤ x → x < np → 0 ≤ y → y < np → (A x y ↔ B x y)) : ∀ {d : Nat} {q : Int}, Rk np A p d q ↔ Rk np B p d q
  | 0, q => Iff.rfl
  | d + 1, q => by
    show _ ∨ _ ↔ _ ∨ _
    rw [Rk_congr hp h (d := d) (q := q)]
    refine or_congr Iff.rfl ⟨?_, ?_⟩
    · rintro ⟨a, b, r, c1, c2, c3, c4⟩
      exact ⟨a, b, r, c1, c2, (Rk_congr hp h).mp c3, (h r q c1 c2 a b).mp c4⟩
    · rintro ⟨a, b, r, c1, c2, c3, c4⟩
      exact ⟨a, b, r, c1, c2, (Rk_congr hp h).mpr c3, (h r q c1 c2 a b).mpr c4⟩

/-! depositors, numbered by their first persons -/
noncomputable def dn (np : Int) (C : Int → Int → Prop) : Nat → (Int → Int) × Int
  | 0 => (fun _ => -1, 0)
  | p + 1 => if 0 ≤ (dn np C p).1 p then dn np C p else (fun o => ci (0 ≤ o ∧ o < np ∧ C p o) (dn np C p).2 ((dn np C p).1 o), (dn np C p).2 + 1)
noncomputable def DN (np : Int) (C : Int → Int → Prop) (o : Int) : Int := (dn np C np.toNat).1 o
noncomputable def DC (np : Int) (C : Int → Int → Prop) : Int := (dn np C np.toNat).2
theorem dn_s {np : Int} {C : Int → Int → Prop} {p : Nat} : dn np C (p + 1) = if 0 ≤ (dn np C p).1 p then dn np C p else (fun o => ci (0 ≤ o ∧ o < np ∧ C p o) (dn np C p).2 ((dn np C p).1 o), (dn np C p).2 + 1) := rfl
theorem dn_congr {np : Int} {B C : Int → Int → Prop} (h : ∀ p q, 0 ≤ p → p < np → 0 ≤ q → q < np → (B p q ↔ C p q)) : ∀ n : Nat, (n : Int) ≤ np → dn np B n = dn np C n
  | 0, _ => rfl
  | n + 1, hn => by
    have e := dn_congr h n (by omega)
    have g : ∀ o, (0 ≤ o ∧ o < np ∧ B n o) ↔ (0 ≤ o ∧ o < np ∧ C n o) := fun o =>
      ⟨fun a => ⟨a.1, a.2.1, (h n o (by omega) (by omega) a.1 a.2.1).mp a.2.2⟩, fun a => ⟨a.1, a.2.1, (h n o (by omega) (by omega) a.1 a.2.1).mpr a.2.2⟩⟩
    rw [dn_s, dn_s, e]
    split
    · rfl
    · congr 1
      funext o
      exact ci_c (g o)
/-- what holds at each head of the numbering -/
theorem dn_inv {np : Int} {C : Int → Int → Prop} (hr : ∀ p, 0 ≤ p → p < np → C p p) : ∀ n : Nat, (n : Int) ≤ np → 0 ≤ (dn np C n).2 ∧ (dn np C n).2 ≤ n ∧ (∀ o, -1 ≤ (dn np C n).1 o ∧ (dn np C n).1 o < (dn np C n).2) ∧ (∀ o, 0 ≤ (dn np C n).1 o → 0 ≤ o ∧ o < np) ∧ ∀ o : Int, 0 ≤ o → o < n → 0 ≤ (dn np C n).1 o
  | 0, _ => ⟨Int.le_refl _, Int.le_refl _, fun o => ⟨Int.le_refl _, by show (-1 : Int) < 0; decide⟩, fun o h => absurd h (by show ¬ (0 : Int) ≤ -1; decide), fun o a b => absurd b (by omega)⟩
  | n + 1, hn => by
    obtain ⟨i1, i2, i3, i4, i5⟩ := dn_inv hr n (by omega)
    rw [dn_s]
    by_cases hp : 0 ≤ (dn np C n).1 n
    · rw [if_pos hp]
      refine ⟨i1, by omega, i3, i4, fun o a b => ?_⟩
      rcases Int.lt_or_eq_of_le (show o ≤ n by omega) with c | c
      · exact i5 o a c
      · rw [c]; exact hp
    · rw [if_neg hp]
      refine ⟨by show 0 ≤ _ + 1; omega, by show _ + 1 ≤ _; omega, fun o => ?_, fun o => ?_, fun o a b => ?_⟩
      · show -1 ≤ ci _ _ _ ∧ ci _ _ _ < _ + 1
        have := i3 o
        rcases ci_o (0 ≤ o ∧ o < np ∧ C n o) (dn np C n).2 ((dn np C n).1 o) with h | h <;> rw [h.2] <;> omega
      · show 0 ≤ ci _ _ _ → _
        rcases ci_o (0 ≤ o ∧ o < np ∧ C n o) (dn np C n).2 ((dn np C n).1 o) with h | h <;> rw [h.2]
        · exact fun _ => ⟨h.1.1, h.1.2.1⟩
        · exact i4 o
      · show 0 ≤ ci _ _ _
        rcases ci_o (0 ≤ o ∧ o < np ∧ C n o) (dn np C n).2 ((dn np C n).1 o) with h | h <;> rw [h.2]
        · exact i1
        · rcases Int.lt_or_eq_of_le (show o ≤ n by omega) with c | c
          · exact i5 o a c
          · exact absurd ⟨a, by omega, by rw [c]; exact hr n (by omega) (by omega)⟩ h.1


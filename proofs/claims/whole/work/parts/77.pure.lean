/-! numbers of depositors against the joins -/
section DCs
variable {np : Int} {C : Int → Int → Prop}
theorem dn_in (ht : ∀ x y z, 0 ≤ x → x < np → C x y → C y z → C x z) : ∀ n : Nat, (n : Int) ≤ np → ∀ o, 0 ≤ o → o < np → (0 ≤ (dn np C n).1 o ↔ ∃ q, 0 ≤ q ∧ q < (n : Int) ∧ C q o)
  | 0, _, o, a, b => ⟨fun h => absurd h (by show ¬ (0 : Int) ≤ -1; decide), fun ⟨q, x, y, _⟩ => by omega⟩
  | n + 1, hn, o, a, b => by
    have ih := dn_in ht n (by omega)
    have i2 : 0 ≤ (dn np C n).2 := by
      have : ∀ m : Nat, 0 ≤ (dn np C m).2 := fun m => by
        induction m with
        | zero => exact Int.le_refl _
        | succ m ih =>
          rw [dn_s]
          split
          · exact ih
          · show 0 ≤ (dn np C m).2 + 1; omega
      exact this n
    rw [dn_s]
    by_cases h : 0 ≤ (dn np C n).1 n
    · rw [if_pos h, ih o a b]
      obtain ⟨r, r0, r1, r2⟩ := (ih n (by omega) (by omega)).mp h
      constructor
      · rintro ⟨q, x, y, z⟩; exact ⟨q, x, by omega, z⟩
      · rintro ⟨q, x, y, z⟩
        by_cases e : q = n
        · exact ⟨r, r0, r1, ht r n o r0 (by omega) r2 (e ▸ z)⟩
        · exact ⟨q, x, by omega, z⟩
    · rw [if_neg h]
      show 0 ≤ ci _ _ _ ↔ _
      rcases ci_o (0 ≤ o ∧ o < np ∧ C n o) (dn np C n).2 ((dn np C n).1 o) with ⟨k, k2⟩ | ⟨k, k2⟩
      · rw [k2]; exact ⟨fun _ => ⟨n, by omega, by omega, k.2.2⟩, fun _ => i2⟩
      · rw [k2, ih o a b]
        constructor
        · rintro ⟨q, x, y, z⟩; exact ⟨q, x, by omega, z⟩
        · rintro ⟨q, x, y, z⟩
          by_cases e : q = n
          · exact absurd ⟨a, b, e ▸ z⟩ k
          · exact ⟨q, x, by omega, z⟩
/-- the first of those that are one with it -/
def dF (np : Int) (C : Int → Int → Prop) (p : Int) : Prop := ∀ q, 0 ≤ q → q < p → ¬ C q p
theorem DC_sum (hn : 0 ≤ np) (ht : ∀ x y z, 0 ≤ x → x < np → C x y → C y z → C x z) : DC np C = Sm (fun p => ci (dF np C p) 1 0) np := by
  have key : ∀ n : Nat, (n : Int) ≤ np → (dn np C n).2 = Sm (fun p => ci (dF np C p) 1 0) n := fun n => by
    induction n with
    | zero => intro _; rfl
    | succ n ih =>
      intro hn
      have e : ((n + 1 : Nat) : Int) = (n : Int) + 1 := by omega
      rw [dn_s, e, Sm_s (by omega), ← ih (by omega)]
      have i := dn_in ht n (by omega) n (by omega) (by omega)
      by_cases h : 0 ≤ (dn np C n).1 n
      · obtain ⟨q, x, y, z⟩ := i.mp h
        rw [if_pos h, ci_f (fun g => g q x y z)]; omega
      · rw [if_neg h, ci_t (show dF np C n from fun q x y z => h (i.mpr ⟨q, x, y, z⟩))]
  have := key np.toNat (by omega)
  rw [show ((np.toNat : Nat) : Int) = np by omega] at this
  exact this
theorem dF_ex (hr : ∀ x, 0 ≤ x → x < np → C x x) (ht : ∀ x y z, 0 ≤ x → x < np → C x y → C y z → C x z) : ∀ (n : Nat) (x : Int), x ≤ n → 0 ≤ x → x < np → ∃ y, 0 ≤ y ∧ y ≤ x ∧ dF np C y ∧ C y x
  | 0, x, h, a, b => ⟨x, a, Int.le_refl _, fun q c d => by omega, hr x a b⟩
  | n + 1, x, h, a, b => by
    rcases Classical.em (dF np C x) with k | k
    · exact ⟨x, a, Int.le_refl _, k, hr x a b⟩
    · obtain ⟨q, c, d, e⟩ : ∃ q, 0 ≤ q ∧ q < x ∧ C q x := Classical.byContradiction fun g => k (fun q c d e => g ⟨q, c, d, e⟩)
      obtain ⟨y, y0, y1, y2, y3⟩ := dF_ex hr ht n q (by omega) c (by omega)
      exact ⟨y, y0, by omega, y2, ht y q x y0 (by omega) y3 e⟩
/-- numbers are alike for those who are one, and only for them -/
theorem dn_eq (hr : ∀ x, 0 ≤ x → x < np → C x x) (hs : ∀ x y, 0 ≤ x → x < np → 0 ≤ y → y < np → C x y → C y x) (ht : ∀ x y z, 0 ≤ x → x < np → C x y → C y z → C x z) : ∀ n : Nat, (n : Int) ≤ np → ∀ a b, 0 ≤ a → a < np → 0 ≤ b → b < np → 0 ≤ (dn np C n).1 a → 0 ≤ (dn np C n).1 b → ((dn np C n).1 a = (dn np C n).1 b ↔ C a b)
  | 0, _, a, b, _, _, _, _, h, _ => absurd h (by show ¬ (0 : Int) ≤ -1; decide)
  | n + 1, hn, a, b, a0, a1, b0, b1, ha, hb => by
    have ih := dn_eq hr hs ht n (by omega) a b a0 a1 b0 b1
    have ia := dn_in ht n (by omega) a a0 a1
    have ib := dn_in ht n (by omega) b b0 b1
    have ii := dn_in ht n (by omega) n (by omega) (by omega)
    obtain ⟨-, -, i3, -, -⟩ := dn_inv hr n (by omega)
    rw [dn_s] at ha hb ⊢
    by_cases h : 0 ≤ (dn np C n).1 n
    · rw [if_pos h] at ha hb ⊢
      exact ih ha hb
    · rw [if_neg h] at ha hb ⊢
      have new : ∀ o, 0 ≤ o → o < np → C n o → ¬ 0 ≤ (dn np C n).1 o := fun o o0 o1 c g => by
        obtain ⟨q, x, y, z⟩ := (dn_in ht n (by omega) o o0 o1).mp g
        exact h (ii.mpr ⟨q, x, y, ht q o n x (by omega) z (hs n o (by omega) (by omega) o0 o1 c)⟩)
      have ha' : 0 ≤ ci (0 ≤ a ∧ a < np ∧ C n a) (dn np C n).2 ((dn np C n).1 a) := ha
      have hb' : 0 ≤ ci (0 ≤ b ∧ b < np ∧ C n b) (dn np C n).2 ((dn np C n).1 b) := hb
      show ci (0 ≤ a ∧ a < np ∧ C n a) (dn np C n).2 ((dn np C n).1 a) = ci (0 ≤ b ∧ b < np ∧ C n b) (dn np C n).2 ((dn np C n).1 b) ↔ _
      rcases ci_o (0 ≤ a ∧ a < np ∧ C n a) (dn np C n).2 ((dn np C n).1 a) with ⟨k, k2⟩ | ⟨k, k2⟩
      · rcases ci_o (0 ≤ b ∧ b < np ∧ C n b) (dn np C n).2 ((dn np C n).1 b) with ⟨m, m2⟩ | ⟨m, m2⟩
        · rw [k2, m2]
          exact ⟨fun _ => ht a n b a0 a1 (hs n a (by omega) (by omega) a0 a1 k.2.2) m.2.2, fun _ => rfl⟩
        · rw [k2, m2]
          have := i3 b
          exact ⟨fun e => by omega, fun e => absurd ⟨b0, b1, ht n a b (by omega) (by omega) k.2.2 e⟩ m⟩
      · rcases ci_o (0 ≤ b ∧ b < np ∧ C n b) (dn np C n).2 ((dn np C n).1 b) with ⟨m, m2⟩ | ⟨m, m2⟩
        · rw [k2, m2]
          have := i3 a
          exact ⟨fun e => by omega, fun e => absurd ⟨a0, a1, ht n b a (by omega) (by omega) m.2.2 (hs a b a0 a1 b0 b1 e)⟩ k⟩
        · rw [k2, m2]
          rw [k2] at ha'
          rw [m2] at hb'
          exact ih ha' hb'
end DCs
section Cns
variable {np : Int} {A B : Int → Int → Prop}
theorem Cn_t (hn : np ≤ 12) : ∀ x y z, 0 ≤ x → x < np → Cn np A x y → Cn np A y z → Cn np A x z := fun _ _ _ a b c d => Cn_tr hn ⟨a, b⟩ c d
/-- coarser, and not alike: fewer -/
theorem DC_lt (h0 : 0 ≤ np) (hn : np ≤ 12) (hA : ∀ x y, A x y → A y x) (hB : ∀ x y, B x y → B y x) (hAB : ∀ x y, 0 ≤ x → x < np → 0 ≤ y → y < np → Cn np A x y → Cn np B x y) {x y : Int} (x0 : 0 ≤ x) (x1 : x < np) (y0 : 0 ≤ y) (y1 : y < np) (hb : Cn np B x y) (ha : ¬ Cn np A x y) : DC np (Cn np B) < DC np (Cn np A) := by
  obtain ⟨u, u0, u1, u2, u3⟩ := dF_ex (C := Cn np A) (fun _ _ _ => Cn_rf) (Cn_t hn) x.toNat x (by omega) x0 x1
  obtain ⟨v, v0, v1, v2, v3⟩ := dF_ex (C := Cn np A) (fun _ _ _ => Cn_rf) (Cn_t hn) y.toNat y (by omega) y0 y1
  have huv : Cn np B u v := Cn_tr hn ⟨u0, by omega⟩ (hAB u x u0 (by omega) x0 x1 u3) (Cn_tr hn ⟨x0, x1⟩ hb (Cn_sy hn hB ⟨v0, by omega⟩ (hAB v y v0 (by omega) y0 y1 v3)))
  have hne : u ≠ v := fun e => ha (Cn_tr hn ⟨x0, x1⟩ (Cn_sy hn hA ⟨u0, by omega⟩ u3) (e ▸ v3))
  -- the greater one of both is first no more
  obtain ⟨w, w0, w1, w2, w3⟩ : ∃ w, 0 ≤ w ∧ w < np ∧ dF np (Cn np A) w ∧ ¬ dF np (Cn np B) w := by
    rcases Int.lt_or_gt_of_ne hne with h | h
    · exact ⟨v, v0, by omega, v2, fun g => g u u0 h huv⟩
    · exact ⟨u, u0, by omega, u2, fun g => g v v0 h (Cn_sy hn hB ⟨u0, by omega⟩ huv)⟩
  have mono : ∀ p, 0 ≤ p → p < np → dF np (Cn np B) p → dF np (Cn np A) p := fun p a b g q c d e => g q c d (hAB q p c (by omega) a b e)
  rw [DC_sum h0 (Cn_t hn), DC_sum h0 (Cn_t hn)]
  have le := Sm_le (f := fun p => if p = w then ci (dF np (Cn np B) p) 1 0 + 1 else ci (dF np (Cn np B) p) 1 0) (g := fun p => ci (dF np (Cn np A) p) 1 0) h0 (fun p a b => by
    by_cases e : p = w
    · rw [if_pos e, e, ci_f w3, ci_t w2]; decide
    · rw [if_neg e]
      rcases Classical.em (dF np (Cn np B) p) with g | g
      · rw [ci_t g, ci_t (mono p a b g)]; exact Int.le_refl _
      · rw [ci_f g]
        rcases ci_o (dF np (Cn np A) p) (1 : Int) 0 with k | k <;> rw [k.2] <;> decide)
  rw [Sm_up (f := fun p => ci (dF np (Cn np B) p) 1 0) w0 w1] at le
  omega
theorem DC_bd (h0 : 0 ≤ np) : 0 ≤ DC np (Cn np A) ∧ DC np (Cn np A) ≤ np := by
  obtain ⟨i1, i2, -⟩ := dn_inv (np := np) (C := Cn np A) (fun p _ _ => Cn_rf) np.toNat (by omega)
  refine ⟨i1, ?_⟩
  have : DC np (Cn np A) ≤ ((np.toNat : Nat) : Int) := i2
  omega
end Cns
/-- join k is of p and o -/
def Jk (s : Int → Int) (k p o : Int) : Prop := s (10 + 2 * k) = p ∧ s (11 + 2 * k) = o ∨ s (10 + 2 * k) = o ∧ s (11 + 2 * k) = p
/-- beside one another by marks, or by joins of Q -/
def BsQ (mm mk s : Int → Int) (Q : Int → Prop) (p o : Int) : Prop := p ≠ o ∧ (Hm mm mk s p o ∨ ∃ k, 0 ≤ k ∧ k < s 70 ∧ Q k ∧ Jk s k p o)
theorem BsQ_sy {mm mk s : Int → Int} {Q : Int → Prop} (x y : Int) (h : BsQ mm mk s Q x y) : BsQ mm mk s Q y x := by
  refine ⟨fun e => h.1 e.symm, ?_⟩
  rcases h.2 with ⟨i, a, b, ⟨j, c, d, e⟩, g⟩ | ⟨k, a, b, q, c⟩
  · exact Or.inl ⟨j, c, d, ⟨i, a, b, e.symm⟩, by rw [e]; exact g⟩
  · exact Or.inr ⟨k, a, b, q, c.symm⟩
/-- the row with join k made of one alone -/
def rk (s : Int → Int) (k : Int) : Int → Int := ru s (10 + 2 * k) (s (11 + 2 * k))
theorem Bs_rk {mm mk s : Int → Int} {k : Int} (hk : 0 ≤ k ∧ k < 30) (x y : Int) : Bs mm mk (rk s k) x y ↔ BsQ mm mk s (fun j => j ≠ k) x y := by
  have e : ∀ j, (j < 10 ∨ 70 ≤ j) → rk s k j = s j := fun j h => ru_n (by omega)
  have hm : Hm mm mk (rk s k) x y ↔ Hm mm mk s x y := by
    unfold Hm Ou
    simp only [e 110 (by decide)]
    have : ∀ m, (∃ i, 0 ≤ i ∧ i < s 110 ∧ rk s k (74 + i) = m) ↔ ∃ i, 0 ≤ i ∧ i < s 110 ∧ s (74 + i) = m := fun m =>
      ⟨fun ⟨i, a, b, c⟩ => ⟨i, a, b, by rw [← e (74 + i) (by omega)]; exact c⟩, fun ⟨i, a, b, c⟩ => ⟨i, a, b, by rw [e (74 + i) (by omega)]; exact c⟩⟩
    simp only [this]
  unfold Bs BsQ
  rw [hm]
  constructor
  · rintro ⟨ne, h | ⟨j, a, b, c⟩⟩
    · exact ⟨ne, Or.inl h⟩
    · refine ⟨ne, Or.inr ⟨j, a, by rw [← e 70 (by decide)]; exact b, fun ej => ?_, ?_⟩⟩
      · subst ej
        have e1 : rk s j (10 + 2 * j) = s (11 + 2 * j) := ru_e
        have e2 : rk s j (11 + 2 * j) = s (11 + 2 * j) := ru_n (by omega)
        rw [e1, e2] at c
        rcases c with c | c
        · exact ne (c.1.symm.trans c.2)
        · exact ne (c.2.symm.trans c.1)
      · by_cases ej : j = k
        · subst ej
          have e1 : rk s j (10 + 2 * j) = s (11 + 2 * j) := ru_e
          have e2 : rk s j (11 + 2 * j) = s (11 + 2 * j) := ru_n (by omega)
          rw [e1, e2] at c
          exfalso
          rcases c with c | c
          · exact ne (c.1.symm.trans c.2)
          · exact ne (c.2.symm.trans c.1)
        · have e1 : rk s k (10 + 2 * j) = s (10 + 2 * j) := ru_n (by omega)
          have e2 : rk s k (11 + 2 * j) = s (11 + 2 * j) := ru_n (by omega)
          rw [e1, e2] at c
          exact c
  · rintro ⟨ne, h | ⟨j, a, b, q, c⟩⟩
    · exact ⟨ne, Or.inl h⟩
    · have e1 : rk s k (10 + 2 * j) = s (10 + 2 * j) := ru_n (by omega)
      have e2 : rk s k (11 + 2 * j) = s (11 + 2 * j) := ru_n (by omega)
      refine ⟨ne, Or.inr ⟨j, a, by rw [e 70 (by decide)]; exact b, ?_⟩⟩
      rw [e1, e2]; exact c
theorem Bs_all {mm mk s : Int → Int} (x y : Int) : Bs mm mk s x y ↔ BsQ mm mk s (fun _ => True) x y :=
  ⟨fun ⟨ne, h⟩ => ⟨ne, h.elim Or.inl (fun ⟨k, a, b, c⟩ => Or.inr ⟨k, a, b, trivial, c⟩)⟩, fun ⟨ne, h⟩ => ⟨ne, h.elim Or.inl (fun ⟨k, a, b, _, c⟩ => Or.inr ⟨k, a, b, c⟩)⟩⟩
theorem Cn_iff {np : Int} {A B : Int → Int → Prop} {p q : Int} (hp : 0 ≤ p ∧ p < np) (h : ∀ x y, A x y ↔ B x y) : Cn np A p q ↔ Cn np B p q := Rk_congr hp (fun x y _ _ _ _ => h x y)
/-- among thirty joins of twelve there is one without which all are one as they are -/
theorem jo_ex {mm mk s : Int → Int} {np : Int} (h0 : 0 ≤ np) (hn : np ≤ 12) (h30 : s 70 = 30) (hj : ∀ k, 0 ≤ k → k < 30 → (0 ≤ s (10 + 2 * k) ∧ s (10 + 2 * k) < np) ∧ 0 ≤ s (11 + 2 * k) ∧ s (11 + 2 * k) < np) :
    ∃ k, 0 ≤ k ∧ k < 30 ∧ ∀ x y, 0 ≤ x → x < np → 0 ≤ y → y < np → (Cn np (Bs mm mk (rk s k)) x y ↔ Cn np (Bs mm mk s) x y) := by
  refine Classical.byContradiction fun no => ?_
  -- each join makes fewer
  have step : ∀ k : Nat, k < 30 → DC np (Cn np (BsQ mm mk s (fun j => j < (k : Int) + 1))) < DC np (Cn np (BsQ mm mk s (fun j => j < (k : Int)))) := fun k hk => by
    have hk' := hj k (by omega) (by omega)
    have sub : ∀ x y, BsQ mm mk s (fun j => j < (k : Int)) x y → BsQ mm mk s (fun j => j < (k : Int) + 1) x y := fun x y ⟨ne, h⟩ => ⟨ne, h.elim Or.inl (fun ⟨j, a, b, q, c⟩ => Or.inr ⟨j, a, b, by omega, c⟩)⟩
    have key : ¬ Cn np (BsQ mm mk s (fun j => j < (k : Int))) (s (10 + 2 * k)) (s (11 + 2 * k)) := fun c => by
      refine no ⟨k, by omega, by omega, fun x y x0 x1 y0 y1 => ?_⟩
      rw [Cn_iff ⟨x0, x1⟩ (fun x y => Bs_rk (mm := mm) (mk := mk) (s := s) (k := k) ⟨by omega, by omega⟩ x y), Cn_iff ⟨x0, x1⟩ (fun x y => Bs_all (mm := mm) (mk := mk) (s := s) x y)]
      have up : ∀ a b, 0 ≤ a → a < np → Cn np (BsQ mm mk s (fun j => j < (k : Int))) a b → Cn np (BsQ mm mk s (fun j => j ≠ (k : Int))) a b := fun a b a0 a1 h => Cn_sub hn ⟨a0, a1⟩ (fun u v u0 u1 v0 v1 e => Cn_step hn ⟨u0, u1⟩ Cn_rf ⟨v0, v1⟩ ⟨e.1, e.2.elim Or.inl (fun ⟨j, a, b, q, c⟩ => Or.inr ⟨j, a, b, by omega, c⟩)⟩) h
      constructor
      · exact fun h => Cn_sub hn ⟨x0, x1⟩ (fun u v u0 u1 v0 v1 e => Cn_step hn ⟨u0, u1⟩ Cn_rf ⟨v0, v1⟩ ⟨e.1, e.2.elim Or.inl (fun ⟨j, a, b, q, c⟩ => Or.inr ⟨j, a, b, trivial, c⟩)⟩) h
      · refine fun h => Cn_sub hn ⟨x0, x1⟩ (fun u v u0 u1 v0 v1 e => ?_) h
        rcases e.2 with h | ⟨j, a, b, -, d⟩
        · exact Cn_step hn ⟨u0, u1⟩ Cn_rf ⟨v0, v1⟩ ⟨e.1, Or.inl h⟩
        · by_cases ej : j = k
          · subst ej
            rcases d with d | d
            · rw [← d.1, ← d.2]; exact up _ _ hk'.1.1 hk'.1.2 c
            · rw [← d.1, ← d.2]
              exact Cn_sy hn BsQ_sy hk'.1 (up _ _ hk'.1.1 hk'.1.2 c)
          · exact Cn_step hn ⟨u0, u1⟩ Cn_rf ⟨v0, v1⟩ ⟨e.1, Or.inr ⟨j, a, b, ej, d⟩⟩
    refine DC_lt h0 hn BsQ_sy BsQ_sy (fun x y x0 x1 y0 y1 h => Cn_sub hn ⟨x0, x1⟩ (fun u v u0 u1 v0 v1 e => Cn_step hn ⟨u0, u1⟩ Cn_rf ⟨v0, v1⟩ (sub u v e)) h) hk'.1.1 hk'.1.2 hk'.2.1 hk'.2.2 ?_ key
    have ne : s (10 + 2 * k) ≠ s (11 + 2 * k) := fun e => key (by rw [e]; exact Cn_rf)
    exact Cn_step hn hk'.1 Cn_rf hk'.2 ⟨ne, Or.inr ⟨k, by omega, by rw [h30]; omega, by omega, Or.inl ⟨rfl, rfl⟩⟩⟩
  have sum : ∀ k : Nat, k ≤ 30 → DC np (Cn np (BsQ mm mk s (fun j => j < (k : Int)))) + k ≤ 12 := fun k => by
    induction k with
    | zero => intro _; have := DC_bd (A := BsQ mm mk s (fun j => j < ((0 : Nat) : Int))) h0; omega
    | succ k ih =>
      intro hk
      have a := step k (by omega)
      have b := ih (by omega)
      rw [show ((k + 1 : Nat) : Int) = (k : Int) + 1 by omega]
      omega
  have a := sum 30 (Nat.le_refl _)
  have b := DC_bd (A := BsQ mm mk s (fun j => j < ((30 : Nat) : Int))) h0
  omega
/-- as many depositors: all are one as they are -/
theorem jo_eq {mm mk s : Int → Int} {np k : Int} (h0 : 0 ≤ np) (hn : np ≤ 12) (hk : 0 ≤ k ∧ k < 30) (h : DC np (Cn np (Bs mm mk (rk s k))) = DC np (Cn np (Bs mm mk s))) (x y : Int) (x0 : 0 ≤ x) (x1 : x < np) (y0 : 0 ≤ y) (y1 : y < np) : Cn np (Bs mm mk (rk s k)) x y ↔ Cn np (Bs mm mk s) x y := by
  have sub : ∀ x y, 0 ≤ x → x < np → 0 ≤ y → y < np → Cn np (Bs mm mk (rk s k)) x y → Cn np (Bs mm mk s) x y := fun x y x0 x1 _ _ h => Cn_sub hn ⟨x0, x1⟩ (fun u v u0 u1 v0 v1 e => Cn_step hn ⟨u0, u1⟩ Cn_rf ⟨v0, v1⟩ (by
    obtain ⟨ne, g⟩ := (Bs_rk hk u v).mp e
    exact ⟨ne, g.elim Or.inl (fun ⟨j, a, b, _, c⟩ => Or.inr ⟨j, a, b, c⟩)⟩)) h
  refine ⟨sub x y x0 x1 y0 y1, fun c => Classical.byContradiction fun g => ?_⟩
  have := DC_lt h0 hn Bs_sy Bs_sy sub x0 x1 y0 y1 c g
  omega
/-- one step more between p and o -/
def Ax (A : Int → Int → Prop) (p o x y : Int) : Prop := A x y ∨ (x = p ∧ y = o) ∨ (x = o ∧ y = p)
theorem Ax_cn {np : Int} {A B : Int → Int → Prop} {p o : Int} (hn : np ≤ 12) (h : ∀ x y, 0 ≤ x → x < np → 0 ≤ y → y < np → (Cn np A x y ↔ Cn np B x y)) {x y : Int} (hx : 0 ≤ x ∧ x < np) (c : Cn np (Ax A p o) x y) : Cn np (Ax B p o) x y := by
  refine Cn_sub hn hx (fun u v u0 u1 v0 v1 e => ?_) c
  rcases e with e | e
  · have := (h u v u0 u1 v0 v1).mp (Cn_step hn ⟨u0, u1⟩ Cn_rf ⟨v0, v1⟩ e)
    exact Cn_sub hn ⟨u0, u1⟩ (fun a b a0 a1 b0 b1 g => Cn_step hn ⟨a0, a1⟩ Cn_rf ⟨b0, b1⟩ (Or.inl g)) this
  · exact Cn_step hn ⟨u0, u1⟩ Cn_rf ⟨v0, v1⟩ (Or.inr e)
section RJ
variable {D : pd_F} {s : Int → Int} {F : pd_F}
theorem sN_eq (hb : bOk D) {a b : Int} (a0 : 0 ≤ a) (a1 : a < D 369 0) (b0 : 0 ≤ b) (b1 : b < D 369 0) : sN D s a = sN D s b ↔ sC D s a b := by
  have n0 := hb.1.1
  have n1 := hb.1.2.1
  obtain ⟨i1, i2, i3, i4, i5⟩ := dn_inv (np := D 369 0) (C := sC D s) (fun p _ _ => Cn_rf) (D 369 0).toNat (by omega)
  exact dn_eq (fun _ _ _ => Cn_rf) (fun x y x0 x1 _ _ h => Cn_sy n1 Bs_sy ⟨x0, x1⟩ h) (Cn_t n1) (D 369 0).toNat (by omega) a b a0 a1 b0 b1 (i5 a a0 (by omega)) (i5 b b0 (by omega))
/-- joins of persons -/
def jOk (D : pd_F) (s : Int → Int) : Prop := ∀ k, 0 ≤ k → k < s 70 → (0 ≤ s (10 + 2 * k) ∧ s (10 + 2 * k) < D 369 0) ∧ 0 ≤ s (11 + 2 * k) ∧ s (11 + 2 * k) < D 369 0
theorem r_replaceable (h : rS D s F) (hj : jOk D s) (h30 : s 70 = 30) (h46 : F 367 46 = sD D s) : ∃ F' k, pfX12_replaceable pd_SH 5000 F 367 = some (k, F') ∧ rS D s F' ∧ (qF F F' ∧ F' 367 0 = F 367 0) ∧ (0 ≤ k ∧ k < 30) ∧ sD D (rk s k) = sD D s := by
  have n0 := h.2.2.2.1.1.1
  have n1 := h.2.2.2.1.1.2.1
  obtain ⟨k0, a0, b0, c0⟩ := jo_ex (mm := D 375) (mk := D 376) (s := s) n0 n1 h30 (fun k a b => hj k a (by omega))
  have e0 : sD D (rk s k0) = sD D s := by
    unfold sD sC DC
    rw [dn_congr c0 _ (by omega)]
  unfold pfX12_replaceable
  simp only [pl_l, pl_b, pl_iT, pl_t, pl_f, gx_367, gx_368, gx_369, gx_370, gx_371, gx_372, gx_373, gx_374, gx_375, gx_376, gx_377, gx_378, gx_379, gx_380, gx_381, gx_382, gx_383, gx_384, gx_385, gx_386, gx_387, gx_388, gx_389, gx_390, gx_391, gx_392, gx_393, gx_394, gx_395, gx_396, gx_397, gx_398, gx_399, gx_400, gx_401, gx_402, gx_403, gn_368, gn_369, gn_370, gn_371, gn_372, gn_373, gn_374, gn_375, gn_376, gn_377, gn_378, gn_379, gn_380, gn_381, gn_382, gn_383, gn_384, gn_385, gn_386, gn_387, gn_388, gn_389, gn_390, gn_391, gn_392, gn_393, gn_394, gn_395, gn_396, gn_397, gn_398, gn_399, gn_400, gn_401, gn_402, gn_403, h46]
  refine pl_for (f := fun j (q : pd_F) i => pfX12_replaceable_b7 pd_SH 5000 j q 367 (sD D s) i) (P := fun i q => rS D s q ∧ (qF F q ∧ q 367 0 = F 367 0) ∧ ∀ j, 0 ≤ j → j < i → sD D (rk s j) ≠ sD D s) (N := 30)
    (res := fun o => ∃ F' k, o = some (k, F') ∧ rS D s F' ∧ (qF F F' ∧ F' 367 0 = F 367 0) ∧ (0 ≤ k ∧ k < 30) ∧ sD D (rk s k) = sD D s) ?_ ?_ 5000 F 0 (by omega) (by omega) (by omega) ⟨h, ⟨qF.rf F, rfl⟩, fun j a b => by omega⟩
  · intro j G i a b ⟨q1, q2, q3⟩
    have h1 : rS D (rk s i) (pd_up G 393 (10 + 2 * i) (s (11 + 2 * i))) := q1.up (q1.2.2.2.2.up h.2.2.2.1 (Or.inr (Or.inl (by omega))))
    obtain ⟨H, f1, f2, f3, f4, -⟩ := q_deps h1
    have h3 := f2.up (j := 10 + 2 * i) (v := s (10 + 2 * i)) (by unfold rk; rw [ru_back]; exact h.2.2.2.2)
    have eb : ru (rk s i) (10 + 2 * i) (s (10 + 2 * i)) = s := by unfold rk; exact ru_back
    rw [eb] at h3
    have e46 : pd_up H 393 (10 + 2 * i) (s (10 + 2 * i)) 367 46 = sD D (rk s i) := by rw [pu_a (by decide)]; exact f4
    have fr : qF F (pd_up H 393 (10 + 2 * i) (s (10 + 2 * i))) ∧ pd_up H 393 (10 + 2 * i) (s (10 + 2 * i)) 367 0 = F 367 0 := ⟨q2.1.tr ((((tF.up G _ _).tr f3.q.t).tr (tF.up H _ _)).q (by rw [h3.2.2.1, q1.2.2.1])), by rw [pu_a (by decide), f3.2 0 (by decide), pu_a (by decide)]; exact q2.2⟩
    have st : pfX12_replaceable_b7 pd_SH 5000 (j + 1) G 367 (sD D s) i = if sD D (rk s i) ≠ sD D s then pfX12_replaceable_b7 pd_SH 5000 j (pd_up H 393 (10 + 2 * i) (s (10 + 2 * i))) 367 (sD D s) (i + 1) else some (i, pd_up H 393 (10 + 2 * i) (s (10 + 2 * i))) := by
      simp only [pfX12_replaceable_b7, pl_l, pl_b, pl_iT, pl_t, pl_f, gx_367, gx_368, gx_369, gx_370, gx_371, gx_372, gx_373, gx_374, gx_375, gx_376, gx_377, gx_378, gx_379, gx_380, gx_381, gx_382, gx_383, gx_384, gx_385, gx_386, gx_387, gx_388, gx_389, gx_390, gx_391, gx_392, gx_393, gx_394, gx_395, gx_396, gx_397, gx_398, gx_399, gx_400, gx_401, gx_402, gx_403, gn_368, gn_369, gn_370, gn_371, gn_372, gn_373, gn_374, gn_375, gn_376, gn_377, gn_378, gn_379, gn_380, gn_381, gn_382, gn_383, gn_384, gn_385, gn_386, gn_387, gn_388, gn_389, gn_390, gn_391, gn_392, gn_393, gn_394, gn_395, gn_396, gn_397, gn_398, gn_399, gn_400, gn_401, gn_402, gn_403, lm_1 q1.1, lm_14 q1.1, lm_15 q1.1, lm_16 q1.1, lm_17 q1.1, lm_18 q1.1, lm_19 q1.1, lm_20 q1.1, lm_21 q1.1, lm_22 q1.1, lm_23 q1.1, lm_24 q1.1, lm_25 q1.1, lm_26 q1.1, lm_27 q1.1, lm_28 q1.1, lm_29 q1.1, lm_30 q1.1, lm_31 q1.1, lm_32 q1.1, lm_33 q1.1, lm_34 q1.1, lm_35 q1.1, lm_36 q1.1, lm_37 q1.1, lm_39 q1.1, lm_40 q1.1, lm_42 q1.1, lm_43 q1.1, lm_44 q1.1, lm_45 q1.1, lm_47 q1.1, lm_48 q1.1, lm_49 q1.1, lm_50 q1.1, lm_51 q1.1, q1.2.2.1]
      rw [if_neg (by omega), pl_w (x := 2 * i) (by omega), pl_w (x := 10 + 2 * i) (by omega), show 10 + 2 * i + 1 = 11 + 2 * i by omega, pl_w (x := 11 + 2 * i) (by omega), pl_i (by omega), pl_i (by omega), f1]
      simp only [pl_l, pl_b, pl_iT, pl_t, pl_f, gx_367, gx_368, gx_369, gx_370, gx_371, gx_372, gx_373, gx_374, gx_375, gx_376, gx_377, gx_378, gx_379, gx_380, gx_381, gx_382, gx_383, gx_384, gx_385, gx_386, gx_387, gx_388, gx_389, gx_390, gx_391, gx_392, gx_393, gx_394, gx_395, gx_396, gx_397, gx_398, gx_399, gx_400, gx_401, gx_402, gx_403, gn_368, gn_369, gn_370, gn_371, gn_372, gn_373, gn_374, gn_375, gn_376, gn_377, gn_378, gn_379, gn_380, gn_381, gn_382, gn_383, gn_384, gn_385, gn_386, gn_387, gn_388, gn_389, gn_390, gn_391, gn_392, gn_393, gn_394, gn_395, gn_396, gn_397, gn_398, gn_399, gn_400, gn_401, gn_402, gn_403, lm_1 f2.1, lm_14 f2.1, lm_15 f2.1, lm_16 f2.1, lm_17 f2.1, lm_18 f2.1, lm_19 f2.1, lm_20 f2.1, lm_21 f2.1, lm_22 f2.1, lm_23 f2.1, lm_24 f2.1, lm_25 f2.1, lm_26 f2.1, lm_27 f2.1, lm_28 f2.1, lm_29 f2.1, lm_30 f2.1, lm_31 f2.1, lm_32 f2.1, lm_33 f2.1, lm_34 f2.1, lm_35 f2.1, lm_36 f2.1, lm_37 f2.1, lm_39 f2.1, lm_40 f2.1, lm_42 f2.1, lm_43 f2.1, lm_44 f2.1, lm_45 f2.1, lm_47 f2.1, lm_48 f2.1, lm_49 f2.1, lm_50 f2.1, lm_51 f2.1]
      rw [pl_i (by omega), e46, pl_w (by omega)]
    by_cases z : sD D (rk s i) = sD D s
    · right
      refine ⟨_, i, ?_, h3, fr, ⟨a, b⟩, z⟩
      show pfX12_replaceable_b7 pd_SH 5000 (j + 1) G 367 (sD D s) i = _
      rw [st, if_neg (fun w => w z)]
    · left
      refine ⟨_, ⟨h3, fr, fun m c d => ?_⟩, ?_⟩
      · by_cases w : m = i
        · rw [w]; exact z
        · exact q3 m c (by omega)
      · show pfX12_replaceable_b7 pd_SH 5000 (j + 1) G 367 (sD D s) i = _
        rw [st, if_pos z]
  · intro j G ⟨q1, q2, q3⟩
    exact absurd e0 (q3 k0 a0 b0)
theorem q_joining (h : rS D s F) (hj : jOk D s) {p o : Int} : ∃ F' v, pfX12_joining pd_SH 5000 F 367 p o = some (v, F') ∧ pd_Ly F' ∧ qF F F' ∧
    ((¬ ((0 ≤ p ∧ p < D 369 0) ∧ (0 ≤ o ∧ o < D 369 0) ∧ p ≠ o) ∧ F' 367 0 = 1) ∨ (((0 ≤ p ∧ p < D 369 0) ∧ (0 ≤ o ∧ o < D 369 0) ∧ p ≠ o) ∧ F' 367 0 = 0 ∧ ((sC D s p o ∧ v = 0) ∨ (¬ sC D s p o ∧ ∃ s', aOk D s' ∧ (∀ j, (j < 10 ∨ 70 < j) → s' j = s j) ∧ (∀ x y, 0 ≤ x → x < D 369 0 → 0 ≤ y → y < D 369 0 → (sC D s' x y ↔ Cn (D 369 0) (Ax (Bs (D 375) (D 376) s) p o) x y)) ∧ v = cPU D s' (s 72) - cPU D s (s 72))))) := by
  have n1 := h.np
  have hb := h.2.2.2.1
  have hs := h.2.2.2.2
  have b0 := hb.1.1
  have b1 := hb.1.2.1
  unfold pfX12_joining
  simp only [pl_l, pl_b, pl_iT, pl_t, pl_f, gx_367, gx_368, gx_369, gx_370, gx_371, gx_372, gx_373, gx_374, gx_375, gx_376, gx_377, gx_378, gx_379, gx_380, gx_381, gx_382, gx_383, gx_384, gx_385, gx_386, gx_387, gx_388, gx_389, gx_390, gx_391, gx_392, gx_393, gx_394, gx_395, gx_396, gx_397, gx_398, gx_399, gx_400, gx_401, gx_402, gx_403, gn_368, gn_369, gn_370, gn_371, gn_372, gn_373, gn_374, gn_375, gn_376, gn_377, gn_378, gn_379, gn_380, gn_381, gn_382, gn_383, gn_384, gn_385, gn_386, gn_387, gn_388, gn_389, gn_390, gn_391, gn_392, gn_393, gn_394, gn_395, gn_396, gn_397, gn_398, gn_399, gn_400, gn_401, gn_402, gn_403, r_isTwo h.1 n1]
  rw [h.2.1 369 (by decide) (by decide)] at n1 ⊢
  rcases Classical.em (¬ ((0 ≤ p ∧ p < D 369 0) ∧ (0 ≤ o ∧ o < D 369 0) ∧ p ≠ o)) with k | k
  · rw [if_neg k, if_pos rfl]
    have t1 : pd_up F 367 0 1 367 0 = 1 := by rw [pu_r, if_pos rfl]
    unfold pfX12_joining_b15
    simp only [pl_l, pl_b, pl_iT, pl_t, pl_f, gx_367, gx_368, gx_369, gx_370, gx_371, gx_372, gx_373, gx_374, gx_375, gx_376, gx_377, gx_378, gx_379, gx_380, gx_381, gx_382, gx_383, gx_384, gx_385, gx_386, gx_387, gx_388, gx_389, gx_390, gx_391, gx_392, gx_393, gx_394, gx_395, gx_396, gx_397, gx_398, gx_399, gx_400, gx_401, gx_402, gx_403, gn_368, gn_369, gn_370, gn_371, gn_372, gn_373, gn_374, gn_375, gn_376, gn_377, gn_378, gn_379, gn_380, gn_381, gn_382, gn_383, gn_384, gn_385, gn_386, gn_387, gn_388, gn_389, gn_390, gn_391, gn_392, gn_393, gn_394, gn_395, gn_396, gn_397, gn_398, gn_399, gn_400, gn_401, gn_402, gn_403, t1]
    rw [if_neg (by decide)]
    exact ⟨_, _, rfl, (h.th 1).1, qF.th F 1, Or.inl ⟨k, t1⟩⟩
  have k := Classical.not_not.mp k
  rw [if_pos k, if_neg (by decide)]
  have h' := h.th 0
  have t0 : pd_up F 367 0 0 367 0 = 0 := by rw [pu_r, if_pos rfl]
  obtain ⟨G, f1, f2, f3, f4⟩ := q_paidNow h'
  have v1 := f2.2.2.1.1
  have v2 := f2.2.2.1.2.1
  have fr := (qF.th F 0).tr f4.q
  have th : G 367 0 = 0 := by rw [f4.2 0 (by decide)]; exact t0
  have bP : 0 ≤ cPU D s (s 72) ∧ cPU D s (s 72) ≤ 1199999880 * sD D s := cPU_bd hb hs hs.2.2.2.1.1 (sD_12 hb).1
  have nn := sD_12 (s := s) hb
  unfold pfX12_joining_b15
  simp only [pl_l, pl_b, pl_iT, pl_t, pl_f, gx_367, gx_368, gx_369, gx_370, gx_371, gx_372, gx_373, gx_374, gx_375, gx_376, gx_377, gx_378, gx_379, gx_380, gx_381, gx_382, gx_383, gx_384, gx_385, gx_386, gx_387, gx_388, gx_389, gx_390, gx_391, gx_392, gx_393, gx_394, gx_395, gx_396, gx_397, gx_398, gx_399, gx_400, gx_401, gx_402, gx_403, gn_368, gn_369, gn_370, gn_371, gn_372, gn_373, gn_374, gn_375, gn_376, gn_377, gn_378, gn_379, gn_380, gn_381, gn_382, gn_383, gn_384, gn_385, gn_386, gn_387, gn_388, gn_389, gn_390, gn_391, gn_392, gn_393, gn_394, gn_395, gn_396, gn_397, gn_398, gn_399, gn_400, gn_401, gn_402, gn_403, t0]
  rw [if_pos (by decide), f1]
  simp only [pl_l, pl_b, pl_iT, pl_t, pl_f, gx_367, gx_368, gx_369, gx_370, gx_371, gx_372, gx_373, gx_374, gx_375, gx_376, gx_377, gx_378, gx_379, gx_380, gx_381, gx_382, gx_383, gx_384, gx_385, gx_386, gx_387, gx_388, gx_389, gx_390, gx_391, gx_392, gx_393, gx_394, gx_395, gx_396, gx_397, gx_398, gx_399, gx_400, gx_401, gx_402, gx_403, gn_368, gn_369, gn_370, gn_371, gn_372, gn_373, gn_374, gn_375, gn_376, gn_377, gn_378, gn_379, gn_380, gn_381, gn_382, gn_383, gn_384, gn_385, gn_386, gn_387, gn_388, gn_389, gn_390, gn_391, gn_392, gn_393, gn_394, gn_395, gn_396, gn_397, gn_398, gn_399, gn_400, gn_401, gn_402, gn_403, lm_1 f3.1, lm_14 f3.1, lm_15 f3.1, lm_16 f3.1, lm_17 f3.1, lm_18 f3.1, lm_19 f3.1, lm_20 f3.1, lm_21 f3.1, lm_22 f3.1, lm_23 f3.1, lm_24 f3.1, lm_25 f3.1, lm_26 f3.1, lm_27 f3.1, lm_28 f3.1, lm_29 f3.1, lm_30 f3.1, lm_31 f3.1, lm_32 f3.1, lm_33 f3.1, lm_34 f3.1, lm_35 f3.1, lm_36 f3.1, lm_37 f3.1, lm_39 f3.1, lm_40 f3.1, lm_42 f3.1, lm_43 f3.1, lm_44 f3.1, lm_45 f3.1, lm_47 f3.1, lm_48 f3.1, lm_49 f3.1, lm_50 f3.1, lm_51 f3.1, f3.2.2.1, v2 p k.1.1 k.1.2, v2 o k.2.1.1 k.2.1.2]
  rw [pl_i (by omega), pl_i (by omega)]
  have eqv := sN_eq (s := s) hb k.1.1 k.1.2 k.2.1.1 k.2.1.2
  by_cases z : sN D s p = sN D s o
  · rw [if_neg (fun w => w z)]
    exact ⟨_, _, rfl, f3.1, fr, Or.inr ⟨k, th, Or.inl ⟨eqv.mp z, rfl⟩⟩⟩
  rw [if_pos z, pl_i (by omega)]
  -- with the join laid at t
  have l76 : ∀ (H : pd_F) (t : Int), rS D s H → qF F H → H 367 0 = 0 → 0 ≤ t → t < 30 → (s 70 = 30 ∨ t = s 70) → (s 70 = 30 → ∀ x y, 0 ≤ x → x < D 369 0 → 0 ≤ y → y < D 369 0 → (Cn (D 369 0) (Bs (D 375) (D 376) (rk s t)) x y ↔ sC D s x y)) →
      ∃ F' v, pfX12_joining_b76 pd_SH 5000 H 367 p o (cPU D s (s 72)) t = some (v, F') ∧ pd_Ly F' ∧ qF F F' ∧ F' 367 0 = 0 ∧ ∃ s', aOk D s' ∧ (∀ j, (j < 10 ∨ 70 < j) → s' j = s j) ∧ (∀ x y, 0 ≤ x → x < D 369 0 → 0 ≤ y → y < D 369 0 → (sC D s' x y ↔ Cn (D 369 0) (Ax (Bs (D 375) (D 376) s) p o) x y)) ∧ v = cPU D s' (s 72) - cPU D s (s 72) := by
    intro H t q1 q2 q3 t0 t1 ht hr
    have e3 := q1.2.2.1
    generalize hn70 : (if s 70 = 30 then 30 else s 70 + 1) = n70
    have hn70' : n70 = if s 70 = 30 then 30 else s 70 + 1 := hn70.symm
    have h70 := hs.2.1
    have n70b : 0 ≤ n70 ∧ n70 ≤ 30 := by rw [hn70']; split <;> omega
    generalize hs' : ru (ru (ru s (10 + 2 * t) p) (11 + 2 * t) o) 70 n70 = s'
    have es' : ∀ j, (j < 10 ∨ 70 < j) → s' j = s j := fun j hj => by rw [← hs', ru_n (by omega), ru_n (by omega), ru_n (by omega)]
    have es70 : s' 70 = n70 := by rw [← hs', ru_e]
    have est : s' (10 + 2 * t) = p ∧ s' (11 + 2 * t) = o := by rw [← hs', ru_n (by omega), ru_n (by omega), ru_e, ru_n (by omega), ru_e]; exact ⟨rfl, rfl⟩
    have eso : ∀ j, 0 ≤ j → j < 30 → j ≠ t → s' (10 + 2 * j) = s (10 + 2 * j) ∧ s' (11 + 2 * j) = s (11 + 2 * j) := fun j a b c => by rw [← hs', ru_n (by omega), ru_n (by omega), ru_n (by omega), ru_n (by omega), ru_n (by omega), ru_n (by omega)]; exact ⟨rfl, rfl⟩
    have ha : aOk D s' := by
      have n := hb.1.2.2.2.2.2.1
      refine ⟨fun a x y => ?_, by rw [es70]; exact n70b, ?_, ?_, ?_⟩
      · rw [es' a (by omega)]; exact hs.1 a x y
      · rw [es' 110 (by decide)]; exact hs.2.2.1
      · rw [es' 72 (by decide)]; exact hs.2.2.2.1
      · rw [es' 73 (by decide)]; exact hs.2.2.2.2
    have l1 : pd_Ly (pd_up H 393 (10 + 2 * t) p) := q1.1.up (pl_rc0 sx_393 (by decide))
    have l2 : pd_Ly (pd_up (pd_up H 393 (10 + 2 * t) p) 393 (11 + 2 * t) o) := l1.up (pl_rc0 sx_393 (by decide))
    have l3 : pd_Ly (pd_up (pd_up (pd_up H 393 (10 + 2 * t) p) 393 (11 + 2 * t) o) 393 70 n70) := l2.up (pl_rc0 sx_393 (by decide))
    have hH : rS D s' (pd_up (pd_up (pd_up H 393 (10 + 2 * t) p) 393 (11 + 2 * t) o) 393 70 n70) := q1.row l3 (fun b hb => by rw [pu_a hb, pu_a hb, pu_a hb]) (by rw [pu_row, pu_row, pu_row, e3]; exact hs') ha
    obtain ⟨K, p1, p2, p3, p4⟩ := q_paidNow hH
    rw [es' 72 (by decide)] at p1
    have bQ : 0 ≤ cPU D s' (s 72) ∧ cPU D s' (s 72) ≤ 1199999880 * sD D s' := by rw [← es' 72 (by decide)]; exact cPU_bd hb ha ha.2.2.2.1.1 (sD_12 hb).1
    have nq := sD_12 (s := s') hb
    have k1 : pd_Ly (pd_up K 393 (10 + 2 * t) (s (10 + 2 * t))) := p3.1.up (pl_rc0 sx_393 (by decide))
    have k2 : pd_Ly (pd_up (pd_up K 393 (10 + 2 * t) (s (10 + 2 * t))) 393 (11 + 2 * t) (s (11 + 2 * t))) := k1.up (pl_rc0 sx_393 (by decide))
    have k3 : pd_Ly (pd_up (pd_up (pd_up K 393 (10 + 2 * t) (s (10 + 2 * t))) 393 (11 + 2 * t) (s (11 + 2 * t))) 393 70 (s 70)) := k2.up (pl_rc0 sx_393 (by decide))
    have back : pd_up (pd_up (pd_up K 393 (10 + 2 * t) (s (10 + 2 * t))) 393 (11 + 2 * t) (s (11 + 2 * t))) 393 70 (s 70) 393 = s := by
      rw [pu_row, pu_row, pu_row, p3.2.2.1]
      funext j
      by_cases c1 : j = 70
      · rw [c1, ru_e]
      rw [ru_n c1]
      by_cases c2 : j = 11 + 2 * t
      · rw [c2, ru_e]
      rw [ru_n c2]
      by_cases c3 : j = 10 + 2 * t
      · rw [c3, ru_e]
      rw [ru_n c3, ← hs', ru_n c1, ru_n c2, ru_n c3]
    refine ⟨pd_up (pd_up (pd_up K 393 (10 + 2 * t) (s (10 + 2 * t))) 393 (11 + 2 * t) (s (11 + 2 * t))) 393 70 (s 70), cPU D s' (s 72) - cPU D s (s 72), ?_, k3, ?_, ?_, s', ha, es', ?_, rfl⟩
    · have tail : ∀ z : Int, z = n70 → pfX12_joining_b167 pd_SH 5000 (pd_up (pd_up H 393 (10 + 2 * t) p) 393 (11 + 2 * t) o) 367 (cPU D s (s 72)) t (s (10 + 2 * t)) (s (11 + 2 * t)) (s 70) z 70 393 = some (cPU D s' (s 72) - cPU D s (s 72), pd_up (pd_up (pd_up K 393 (10 + 2 * t) (s (10 + 2 * t))) 393 (11 + 2 * t) (s (11 + 2 * t))) 393 70 (s 70)) := fun z hz => by
        subst hz
        unfold pfX12_joining_b167
        simp only [pl_l, pl_b, pl_iT, pl_t, pl_f, gx_367, gx_368, gx_369, gx_370, gx_371, gx_372, gx_373, gx_374, gx_375, gx_376, gx_377, gx_378, gx_379, gx_380, gx_381, gx_382, gx_383, gx_384, gx_385, gx_386, gx_387, gx_388, gx_389, gx_390, gx_391, gx_392, gx_393, gx_394, gx_395, gx_396, gx_397, gx_398, gx_399, gx_400, gx_401, gx_402, gx_403, gn_368, gn_369, gn_370, gn_371, gn_372, gn_373, gn_374, gn_375, gn_376, gn_377, gn_378, gn_379, gn_380, gn_381, gn_382, gn_383, gn_384, gn_385, gn_386, gn_387, gn_388, gn_389, gn_390, gn_391, gn_392, gn_393, gn_394, gn_395, gn_396, gn_397, gn_398, gn_399, gn_400, gn_401, gn_402, gn_403]
        rw [pl_i (by omega), p1]
        simp only [pl_l, pl_b, pl_iT, pl_t, pl_f, gx_367, gx_368, gx_369, gx_370, gx_371, gx_372, gx_373, gx_374, gx_375, gx_376, gx_377, gx_378, gx_379, gx_380, gx_381, gx_382, gx_383, gx_384, gx_385, gx_386, gx_387, gx_388, gx_389, gx_390, gx_391, gx_392, gx_393, gx_394, gx_395, gx_396, gx_397, gx_398, gx_399, gx_400, gx_401, gx_402, gx_403, gn_368, gn_369, gn_370, gn_371, gn_372, gn_373, gn_374, gn_375, gn_376, gn_377, gn_378, gn_379, gn_380, gn_381, gn_382, gn_383, gn_384, gn_385, gn_386, gn_387, gn_388, gn_389, gn_390, gn_391, gn_392, gn_393, gn_394, gn_395, gn_396, gn_397, gn_398, gn_399, gn_400, gn_401, gn_402, gn_403, lm_1 p3.1, lm_14 p3.1, lm_15 p3.1, lm_16 p3.1, lm_17 p3.1, lm_18 p3.1, lm_19 p3.1, lm_20 p3.1, lm_21 p3.1, lm_22 p3.1, lm_23 p3.1, lm_24 p3.1, lm_25 p3.1, lm_26 p3.1, lm_27 p3.1, lm_28 p3.1, lm_29 p3.1, lm_30 p3.1, lm_31 p3.1, lm_32 p3.1, lm_33 p3.1, lm_34 p3.1, lm_35 p3.1, lm_36 p3.1, lm_37 p3.1, lm_39 p3.1, lm_40 p3.1, lm_42 p3.1, lm_43 p3.1, lm_44 p3.1, lm_45 p3.1, lm_47 p3.1, lm_48 p3.1, lm_49 p3.1, lm_50 p3.1, lm_51 p3.1]
        rw [pl_w (x := 2 * t) (by omega), pl_w (x := 10 + 2 * t) (by omega), pl_i (by omega)]
        simp only [pl_l, pl_b, pl_iT, pl_t, pl_f, gx_367, gx_368, gx_369, gx_370, gx_371, gx_372, gx_373, gx_374, gx_375, gx_376, gx_377, gx_378, gx_379, gx_380, gx_381, gx_382, gx_383, gx_384, gx_385, gx_386, gx_387, gx_388, gx_389, gx_390, gx_391, gx_392, gx_393, gx_394, gx_395, gx_396, gx_397, gx_398, gx_399, gx_400, gx_401, gx_402, gx_403, gn_368, gn_369, gn_370, gn_371, gn_372, gn_373, gn_374, gn_375, gn_376, gn_377, gn_378, gn_379, gn_380, gn_381, gn_382, gn_383, gn_384, gn_385, gn_386, gn_387, gn_388, gn_389, gn_390, gn_391, gn_392, gn_393, gn_394, gn_395, gn_396, gn_397, gn_398, gn_399, gn_400, gn_401, gn_402, gn_403, lm_1 k1, lm_14 k1, lm_15 k1, lm_16 k1, lm_17 k1, lm_18 k1, lm_19 k1, lm_20 k1, lm_21 k1, lm_22 k1, lm_23 k1, lm_24 k1, lm_25 k1, lm_26 k1, lm_27 k1, lm_28 k1, lm_29 k1, lm_30 k1, lm_31 k1, lm_32 k1, lm_33 k1, lm_34 k1, lm_35 k1, lm_36 k1, lm_37 k1, lm_39 k1, lm_40 k1, lm_42 k1, lm_43 k1, lm_44 k1, lm_45 k1, lm_47 k1, lm_48 k1, lm_49 k1, lm_50 k1, lm_51 k1]
        rw [show 10 + 2 * t + 1 = 11 + 2 * t by omega, pl_w (x := 11 + 2 * t) (by omega), pl_i (by omega)]
        simp only [pl_l, pl_b, pl_iT, pl_t, pl_f, gx_367, gx_368, gx_369, gx_370, gx_371, gx_372, gx_373, gx_374, gx_375, gx_376, gx_377, gx_378, gx_379, gx_380, gx_381, gx_382, gx_383, gx_384, gx_385, gx_386, gx_387, gx_388, gx_389, gx_390, gx_391, gx_392, gx_393, gx_394, gx_395, gx_396, gx_397, gx_398, gx_399, gx_400, gx_401, gx_402, gx_403, gn_368, gn_369, gn_370, gn_371, gn_372, gn_373, gn_374, gn_375, gn_376, gn_377, gn_378, gn_379, gn_380, gn_381, gn_382, gn_383, gn_384, gn_385, gn_386, gn_387, gn_388, gn_389, gn_390, gn_391, gn_392, gn_393, gn_394, gn_395, gn_396, gn_397, gn_398, gn_399, gn_400, gn_401, gn_402, gn_403, lm_1 k2, lm_14 k2, lm_15 k2, lm_16 k2, lm_17 k2, lm_18 k2, lm_19 k2, lm_20 k2, lm_21 k2, lm_22 k2, lm_23 k2, lm_24 k2, lm_25 k2, lm_26 k2, lm_27 k2, lm_28 k2, lm_29 k2, lm_30 k2, lm_31 k2, lm_32 k2, lm_33 k2, lm_34 k2, lm_35 k2, lm_36 k2, lm_37 k2, lm_39 k2, lm_40 k2, lm_42 k2, lm_43 k2, lm_44 k2, lm_45 k2, lm_47 k2, lm_48 k2, lm_49 k2, lm_50 k2, lm_51 k2]
        rw [pl_i (by omega), pl_W (by omega)]
      unfold pfX12_joining_b76
      simp only [pl_l, pl_b, pl_iT, pl_t, pl_f, gx_367, gx_368, gx_369, gx_370, gx_371, gx_372, gx_373, gx_374, gx_375, gx_376, gx_377, gx_378, gx_379, gx_380, gx_381, gx_382, gx_383, gx_384, gx_385, gx_386, gx_387, gx_388, gx_389, gx_390, gx_391, gx_392, gx_393, gx_394, gx_395, gx_396, gx_397, gx_398, gx_399, gx_400, gx_401, gx_402, gx_403, gn_368, gn_369, gn_370, gn_371, gn_372, gn_373, gn_374, gn_375, gn_376, gn_377, gn_378, gn_379, gn_380, gn_381, gn_382, gn_383, gn_384, gn_385, gn_386, gn_387, gn_388, gn_389, gn_390, gn_391, gn_392, gn_393, gn_394, gn_395, gn_396, gn_397, gn_398, gn_399, gn_400, gn_401, gn_402, gn_403, lm_1 q1.1, lm_14 q1.1, lm_15 q1.1, lm_16 q1.1, lm_17 q1.1, lm_18 q1.1, lm_19 q1.1, lm_20 q1.1, lm_21 q1.1, lm_22 q1.1, lm_23 q1.1, lm_24 q1.1, lm_25 q1.1, lm_26 q1.1, lm_27 q1.1, lm_28 q1.1, lm_29 q1.1, lm_30 q1.1, lm_31 q1.1, lm_32 q1.1, lm_33 q1.1, lm_34 q1.1, lm_35 q1.1, lm_36 q1.1, lm_37 q1.1, lm_39 q1.1, lm_40 q1.1, lm_42 q1.1, lm_43 q1.1, lm_44 q1.1, lm_45 q1.1, lm_47 q1.1, lm_48 q1.1, lm_49 q1.1, lm_50 q1.1, lm_51 q1.1, e3]
      rw [pl_w (x := 2 * t) (by omega), pl_w (x := 10 + 2 * t) (by omega), show 10 + 2 * t + 1 = 11 + 2 * t by omega, pl_w (x := 11 + 2 * t) (by omega), pl_i (by omega), pl_i (by omega), pl_i (by omega)]
      simp only [pl_l, pl_b, pl_iT, pl_t, pl_f, gx_367, gx_368, gx_369, gx_370, gx_371, gx_372, gx_373, gx_374, gx_375, gx_376, gx_377, gx_378, gx_379, gx_380, gx_381, gx_382, gx_383, gx_384, gx_385, gx_386, gx_387, gx_388, gx_389, gx_390, gx_391, gx_392, gx_393, gx_394, gx_395, gx_396, gx_397, gx_398, gx_399, gx_400, gx_401, gx_402, gx_403, gn_368, gn_369, gn_370, gn_371, gn_372, gn_373, gn_374, gn_375, gn_376, gn_377, gn_378, gn_379, gn_380, gn_381, gn_382, gn_383, gn_384, gn_385, gn_386, gn_387, gn_388, gn_389, gn_390, gn_391, gn_392, gn_393, gn_394, gn_395, gn_396, gn_397, gn_398, gn_399, gn_400, gn_401, gn_402, gn_403, lm_1 l1, lm_14 l1, lm_15 l1, lm_16 l1, lm_17 l1, lm_18 l1, lm_19 l1, lm_20 l1, lm_21 l1, lm_22 l1, lm_23 l1, lm_24 l1, lm_25 l1, lm_26 l1, lm_27 l1, lm_28 l1, lm_29 l1, lm_30 l1, lm_31 l1, lm_32 l1, lm_33 l1, lm_34 l1, lm_35 l1, lm_36 l1, lm_37 l1, lm_39 l1, lm_40 l1, lm_42 l1, lm_43 l1, lm_44 l1, lm_45 l1, lm_47 l1, lm_48 l1, lm_49 l1, lm_50 l1, lm_51 l1, lm_1 l2, lm_14 l2, lm_15 l2, lm_16 l2, lm_17 l2, lm_18 l2, lm_19 l2, lm_20 l2, lm_21 l2, lm_22 l2, lm_23 l2, lm_24 l2, lm_25 l2, lm_26 l2, lm_27 l2, lm_28 l2, lm_29 l2, lm_30 l2, lm_31 l2, lm_32 l2, lm_33 l2, lm_34 l2, lm_35 l2, lm_36 l2, lm_37 l2, lm_39 l2, lm_40 l2, lm_42 l2, lm_43 l2, lm_44 l2, lm_45 l2, lm_47 l2, lm_48 l2, lm_49 l2, lm_50 l2, lm_51 l2]
      rw [pl_i (by omega), pl_w (x := s 70 + 1) (by omega)]
      by_cases z30 : s 70 = 30
      · rw [if_neg (fun w => w z30)]
        exact tail 30 (by rw [hn70', if_pos z30])
      · rw [if_pos z30]
        exact tail _ (by rw [hn70', if_neg z30])
    · have tf : tF F (pd_up (pd_up (pd_up K 393 (10 + 2 * t) (s (10 + 2 * t))) 393 (11 + 2 * t) (s (11 + 2 * t))) 393 70 (s 70)) := ((((((q2.t.tr (tF.up H _ _)).tr (tF.up _ _ _)).tr (tF.up _ _ _)).tr p4.q.t).tr (tF.up K _ _)).tr (tF.up _ _ _)).tr (tF.up _ _ _)
      exact tf.q (by rw [back, h.2.2.1])
    · rw [pu_a (by decide), pu_a (by decide), pu_a (by decide), p4.2 0 (by decide), pu_a (by decide), pu_a (by decide), pu_a (by decide)]; exact q3
    · -- who is one then
      have hmEq : ∀ x y, Hm (D 375) (D 376) s' x y ↔ Hm (D 375) (D 376) s x y := fun x y => by
        unfold Hm Ou
        simp only [es' 110 (by decide)]
        have : ∀ m, (∃ i, 0 ≤ i ∧ i < s 110 ∧ s' (74 + i) = m) ↔ ∃ i, 0 ≤ i ∧ i < s 110 ∧ s (74 + i) = m := fun m =>
          ⟨fun ⟨i, a, b, c⟩ => ⟨i, a, b, by rw [← es' (74 + i) (by omega)]; exact c⟩, fun ⟨i, a, b, c⟩ => ⟨i, a, b, by rw [es' (74 + i) (by omega)]; exact c⟩⟩
        simp only [this]
      intro x y x0 x1 y0 y1
      rcases Classical.em (s 70 = 30) with z30 | z30
      · have en : n70 = 30 := by rw [hn70', if_pos z30]
        have eA : ∀ u v, Bs (D 375) (D 376) s' u v ↔ Ax (Bs (D 375) (D 376) (rk s t)) p o u v := fun u v => by
          unfold Ax
          rw [Bs_rk ⟨t0, t1⟩]
          unfold Bs BsQ
          rw [hmEq]
          constructor
          · rintro ⟨ne, g | ⟨j, a, b, c⟩⟩
            · exact Or.inl ⟨ne, Or.inl g⟩
            · rw [es70, en] at b
              by_cases e : j = t
              · subst e
                rw [est.1, est.2] at c
                rcases c with c | c
                · exact Or.inr (Or.inl ⟨c.1.symm, c.2.symm⟩)
                · exact Or.inr (Or.inr ⟨c.2.symm, c.1.symm⟩)
              · rw [(eso j a b e).1, (eso j a b e).2] at c
                exact Or.inl ⟨ne, Or.inr ⟨j, a, by omega, e, c⟩⟩
          · rintro (⟨ne, g | ⟨j, a, b, e, c⟩⟩ | ⟨e1, e2⟩ | ⟨e1, e2⟩)
            · exact ⟨ne, Or.inl g⟩
            · have w := eso j a (by omega) e
              exact ⟨ne, Or.inr ⟨j, a, by rw [es70, en]; omega, by rw [w.1, w.2]; exact c⟩⟩
            · exact ⟨by rw [e1, e2]; exact k.2.2, Or.inr ⟨t, t0, by rw [es70, en]; omega, Or.inl ⟨est.1.trans e1.symm, est.2.trans e2.symm⟩⟩⟩
            · exact ⟨by rw [e1, e2]; exact fun w => k.2.2 w.symm, Or.inr ⟨t, t0, by rw [es70, en]; omega, Or.inr ⟨est.1.trans e2.symm, est.2.trans e1.symm⟩⟩⟩
        have hr' := hr z30
        show Cn (D 369 0) (Bs (D 375) (D 376) s') x y ↔ _
        rw [Cn_iff ⟨x0, x1⟩ eA]
        exact ⟨Ax_cn b1 hr' ⟨x0, x1⟩, Ax_cn b1 (fun a b c d e f => (hr' a b c d e f).symm) ⟨x0, x1⟩⟩
      · have en : n70 = s 70 + 1 := by rw [hn70', if_neg z30]
        have et : t = s 70 := ht.resolve_left z30
        have eA : ∀ u v, Bs (D 375) (D 376) s' u v ↔ Ax (Bs (D 375) (D 376) s) p o u v := fun u v => by
          unfold Ax Bs
          rw [hmEq]
          constructor
          · rintro ⟨ne, g | ⟨j, a, b, c⟩⟩
            · exact Or.inl ⟨ne, Or.inl g⟩
            · rw [es70, en] at b
              by_cases e : j = t
              · subst e
                rw [est.1, est.2] at c
                rcases c with c | c
                · exact Or.inr (Or.inl ⟨c.1.symm, c.2.symm⟩)
                · exact Or.inr (Or.inr ⟨c.2.symm, c.1.symm⟩)
              · rw [(eso j a (by omega) e).1, (eso j a (by omega) e).2] at c
                exact Or.inl ⟨ne, Or.inr ⟨j, a, by omega, c⟩⟩
          · rintro (⟨ne, g | ⟨j, a, b, c⟩⟩ | ⟨e1, e2⟩ | ⟨e1, e2⟩)
            · exact ⟨ne, Or.inl g⟩
            · have w := eso j a (by omega) (by omega)
              exact ⟨ne, Or.inr ⟨j, a, by rw [es70, en]; omega, by rw [w.1, w.2]; exact c⟩⟩
            · exact ⟨by rw [e1, e2]; exact k.2.2, Or.inr ⟨t, t0, by rw [es70, en]; omega, Or.inl ⟨est.1.trans e1.symm, est.2.trans e2.symm⟩⟩⟩
            · exact ⟨by rw [e1, e2]; exact fun w => k.2.2 w.symm, Or.inr ⟨t, t0, by rw [es70, en]; omega, Or.inr ⟨est.1.trans e2.symm, est.2.trans e1.symm⟩⟩⟩
        show Cn (D 369 0) (Bs (D 375) (D 376) s') x y ↔ _
        exact Cn_iff ⟨x0, x1⟩ eA
  by_cases z30 : s 70 = 30
  · rw [if_neg (fun w => w z30)]
    obtain ⟨H, t, r1, r2, r3, r4, r5⟩ := r_replaceable f3 hj z30 v1
    have e5 := fun x y x0 x1 y0 y1 => jo_eq (mm := D 375) (mk := D 376) (s := s) b0 b1 r4 r5 x y x0 x1 y0 y1
    -- thrown isn't touched by it
    obtain ⟨F', v, m1, m2, m3, m4, m5⟩ := l76 H t r2 (fr.tr r3.1) (by rw [r3.2]; exact th) r4.1 r4.2 (Or.inl z30) (fun _ => e5)
    rw [r1]
    exact ⟨F', v, m1, m2, m3, Or.inr ⟨k, m4, Or.inr ⟨fun c => z (eqv.mpr c), m5⟩⟩⟩
  · rw [if_pos z30]
    have h70 := hs.2.1
    obtain ⟨F', v, m1, m2, m3, m4, m5⟩ := l76 G (s 70) f3 fr th h70.1 (by omega) (Or.inr rfl) (fun w => absurd w z30)
    exact ⟨F', v, m1, m2, m3, Or.inr ⟨k, m4, Or.inr ⟨fun c => z (eqv.mpr c), m5⟩⟩⟩
end RJ

variable {sT : pd_S}
/-! the class: ties -/
theorem c_holds {F : pd_F} {x p : Int} (hx : 0 ≤ x ∧ x < 4096) (hp : 0 ≤ p ∧ p < 31) : pfX10_holds (pd_SH sT) 5000 F x p = some (ci (tb x p) 1 0, F) := by
  unfold pfX10_holds
  rcases Classical.em (tb x p) with k | k
  · rw [if_neg (fun h => (tb_holds hx hp).mp h k), ci_t k]
  · rw [if_pos ((tb_holds hx hp).mpr k), ci_f k]
theorem tb_12 {x q : Int} (hx : 0 ≤ x ∧ x < 4096) (hq : 0 ≤ q) (h : tb x q) : q < 12 := by
  refine Classical.byContradiction fun k => ?_
  obtain ⟨a, rfl⟩ := Int.eq_ofNat_of_zero_le hx.1
  obtain ⟨b, rfl⟩ := Int.eq_ofNat_of_zero_le hq
  unfold tb at h
  rw [Int.toNat_natCast, Int.toNat_natCast] at h
  have h2 : 2 ^ 12 ≤ 2 ^ b := Nat.pow_le_pow_right (by decide) (by omega)
  rw [Nat.testBit_lt_two_pow (by omega)] at h
  cases h
section CT
variable {F : pd_F} {t : Int}
/-- near: p itself, and those beside it -/
def nR (A : Int → Int → Prop) (g : Int → Int) : Prop := ∀ p, 0 ≤ p → p < 12 → (0 ≤ g p ∧ g p < 4096) ∧ ∀ q, 0 ≤ q → q < 12 → (tb (g p) q ↔ q = p ∨ A p q)
theorem nR_c {A B : Int → Int → Prop} {g : Int → Int} (h : nR A g) (e : ∀ p q, 0 ≤ p → p < 12 → 0 ≤ q → q < 12 → (q = p ∨ A p q ↔ q = p ∨ B p q)) : nR B g := fun p a b => ⟨(h p a b).1, fun q c d => ((h p a b).2 q c d).trans (e p q a b c d)⟩
theorem c_tie (hL : pd_Ly F) (ht : aT t) {x : Int} (hx : 0 ≤ x ∧ x < 4096) {A : Int → Int → Prop} (hn : nR A (F (t + 1))) : ∃ F', pfX10_tie (pd_SH sT) 5000 F t x = some F' ∧ pd_Ly F' ∧ (∀ b, b ≠ t + 1 → F' b = F b) ∧ nR (fun p q => A p q ∨ (tb x p ∧ tb x q)) (F' (t + 1)) := by
  obtain ⟨s0, s1, s2, s3⟩ := sh_t (sT := sT) ht
  unfold pfX10_tie
  refine pl_for (f := fun j (q : pd_F) i => pfX10_tie_b2 (pd_SH sT) 5000 j q t x i) (P := fun i q => pd_Ly q ∧ (∀ b, b ≠ t + 1 → q b = F b) ∧ ∀ p, 0 ≤ p → p < 12 → q (t + 1) p = ci (p < i ∧ tb x p) (pd_or (F (t + 1) p) x) (F (t + 1) p)) (N := 12)
    (res := fun o => ∃ F', o = some F' ∧ pd_Ly F' ∧ (∀ b, b ≠ t + 1 → F' b = F b) ∧ nR (fun p q => A p q ∨ (tb x p ∧ tb x q)) (F' (t + 1))) ?_ ?_ 5000 F 0 (by omega) (by omega) (by omega) ⟨hL, fun _ _ => rfl, fun p a b => by rw [ci_f (by omega)]⟩
  · intro j G i a b ⟨q1, q2, q3⟩
    obtain ⟨e0, -, -⟩ := ly_t q1 ht
    have eh := c_holds (sT := sT) (F := G) (p := i) hx (by omega)
    have e3 := q3 i a b
    rw [ci_f (by omega)] at e3
    left
    rcases Classical.em (tb x i) with k | k
    · rw [ci_t k] at eh
      refine ⟨pd_up G (t + 1) i (pd_or (F (t + 1) i) x), ⟨q1.up (pl_rc0 s1 (by decide)), fun b hb => by rw [pu_a hb]; exact q2 b hb, fun p c d => ?_⟩, ?_⟩
      · rw [pu_r]
        by_cases e : p = i
        · rw [if_pos e, e, ci_t ⟨by omega, k⟩]
        · rw [if_neg e, q3 p c d]
          exact ci_c ⟨fun z => ⟨by omega, z.2⟩, fun z => ⟨by omega, z.2⟩⟩
      · show pfX10_tie_b2 (pd_SH sT) 5000 (j + 1) G t x i = _
        simp (disch := omega) only [pfX10_tie_b2, pfX10_tie_b29, pl_l, pl_b, pl_iT, pl_t, pl_f, e0, pl_ob s0, pl_ln s1, pl_ib s1, eh, e3, pl_w, pl_i, if_pos, if_neg]
    · rw [ci_f k] at eh
      refine ⟨G, ⟨q1, q2, fun p c d => ?_⟩, ?_⟩
      · rw [q3 p c d]
        refine ci_c ⟨fun z => ⟨by omega, z.2⟩, fun z => ⟨?_, z.2⟩⟩
        by_cases e : p = i
        · exact absurd (e ▸ z.2) k
        · omega
      · show pfX10_tie_b2 (pd_SH sT) 5000 (j + 1) G t x i = _
        simp (disch := omega) only [pfX10_tie_b2, pfX10_tie_b29, pl_l, pl_b, pl_iT, pl_t, pl_f, e0, pl_ob s0, pl_ln s1, pl_ib s1, eh, e3, pl_w, pl_i, if_pos, if_neg]
  · intro j G ⟨q1, q2, q3⟩
    obtain ⟨e0, -, -⟩ := ly_t q1 ht
    refine ⟨G, ?_, q1, q2, fun p a b => ?_⟩
    · show pfX10_tie_b2 (pd_SH sT) 5000 (j + 1) G t x _ = _
      simp (disch := omega) only [pfX10_tie_b2, pl_l, pl_b, pl_iT, pl_t, pl_f, e0, pl_ob s0, pl_ln s1, pl_i, if_pos, if_neg]
    · obtain ⟨h1, h2⟩ := hn p a b
      rw [q3 p a b]
      rcases Classical.em (tb x p) with k | k
      · rw [ci_t ⟨b, k⟩]
        have o := tb_or h1 hx
        refine ⟨o.1, fun q c d => ?_⟩
        rw [o.2 q, h2 q c d]
        constructor
        · rintro ((z | z) | z)
          · exact Or.inl z
          · exact Or.inr (Or.inl z)
          · exact Or.inr (Or.inr ⟨k, z⟩)
        · rintro (z | z | z)
          · exact Or.inl (Or.inl z)
          · exact Or.inl (Or.inr z)
          · exact Or.inr z.2
      · rw [ci_f (fun z => k z.2)]
        refine ⟨h1, fun q c d => ?_⟩
        rw [h2 q c d]
        exact ⟨fun z => z.elim Or.inl (fun z => Or.inr (Or.inl z)), fun z => z.elim Or.inl (fun z => z.elim Or.inr (fun z => absurd z.1 k))⟩
/-- the persons of a set, as bits -/
def bR (x : Int) (P : Int → Prop) : Prop := (0 ≤ x ∧ x < 4096) ∧ ∀ q, 0 ≤ q → q < 12 → (tb x q ↔ P q)
theorem bR_c {x : Int} {P Q : Int → Prop} (h : bR x P) (e : ∀ q, 0 ≤ q → q < 12 → (P q ↔ Q q)) : bR x Q := ⟨h.1, fun q a b => (h.2 q a b).trans (e q a b)⟩
/-- beside one another, both below np -/
def An (np : Int) (A : Int → Int → Prop) (p q : Int) : Prop := (0 ≤ p ∧ p < np) ∧ (0 ≤ q ∧ q < np) ∧ A p q
theorem c_oneStep (hL : pd_Ly F) (ht : aT t) {np p x : Int} {A : Int → Int → Prop} (hnp : np ≤ 12) (hn : nR (An np A) (F (t + 1))) {d : Nat} (hp : 0 ≤ p ∧ p < np) (hx : bR x (Rk np A p d)) : ∃ y, pfX10_oneStepFrom (pd_SH sT) 5000 F t x = some (y, F) ∧ bR y (Rk np A p (d + 1)) := by
  obtain ⟨s0, s1, s2, s3⟩ := sh_t (sT := sT) ht
  obtain ⟨e0, -, -⟩ := ly_t hL ht
  unfold pfX10_oneStepFrom
  refine pl_for (f := fun j (q : Int) i => pfX10_oneStepFrom_b4 (pd_SH sT) 5000 j F t x q i) (P := fun i y => bR y (fun q => Rk np A p d q ∨ ∃ r, 0 ≤ r ∧ r < i ∧ Rk np A p d r ∧ (q = r ∨ An np A r q))) (N := 12)
    (res := fun o => ∃ y, o = some (y, F) ∧ bR y (Rk np A p (d + 1))) ?_ ?_ 5000 x 0 (by omega) (by omega) (by omega) (bR_c hx (fun q a b => ⟨Or.inl, fun z => z.elim id (fun ⟨r, u, v, _⟩ => by omega)⟩))
  · intro j y i a b hy
    left
    have eh := c_holds (sT := sT) (F := F) (p := i) hx.1 (by omega)
    obtain ⟨h1, h2⟩ := hn i a b
    rcases Classical.em (tb x i) with k | k
    · have k' := (hx.2 i a b).mp k
      rw [ci_t k] at eh
      have o := tb_or hy.1 h1
      refine ⟨pd_or y (F (t + 1) i), ⟨o.1, fun q u v => ?_⟩, ?_⟩
      · rw [o.2 q, hy.2 q u v, h2 q u v]
        constructor
        · rintro ((z | ⟨r, r0, r1, r2⟩) | z)
          · exact Or.inl z
          · exact Or.inr ⟨r, r0, by omega, r2⟩
          · exact Or.inr ⟨i, a, by omega, k', z⟩
        · rintro (z | ⟨r, r0, r1, r2, r3⟩)
          · exact Or.inl (Or.inl z)
          · by_cases e : r = i
            · exact Or.inr (e ▸ r3)
            · exact Or.inl (Or.inr ⟨r, r0, by omega, r2, r3⟩)
      · show pfX10_oneStepFrom_b4 (pd_SH sT) 5000 (j + 1) F t x y i = _
        simp (disch := omega) only [pfX10_oneStepFrom_b4, pfX10_oneStepFrom_b30, pl_l, pl_b, pl_iT, pl_t, pl_f, e0, pl_ob s0, pl_ln s1, pl_ib s1, eh, pl_w, pl_i, if_pos, if_neg]
    · have k' : ¬ Rk np A p d i := fun z => k ((hx.2 i a b).mpr z)
      rw [ci_f k] at eh
      refine ⟨y, bR_c hy (fun q u v => ?_), ?_⟩
      · constructor
        · rintro (z | ⟨r, r0, r1, r2⟩)
          · exact Or.inl z
          · exact Or.inr ⟨r, r0, by omega, r2⟩
        · rintro (z | ⟨r, r0, r1, r2, r3⟩)
          · exact Or.inl z
          · by_cases e : r = i
            · exact absurd (e ▸ r2) k'
            · exact Or.inr ⟨r, r0, by omega, r2, r3⟩
      · show pfX10_oneStepFrom_b4 (pd_SH sT) 5000 (j + 1) F t x y i = _
        simp (disch := omega) only [pfX10_oneStepFrom_b4, pfX10_oneStepFrom_b30, pl_l, pl_b, pl_iT, pl_t, pl_f, e0, pl_ob s0, pl_ln s1, pl_ib s1, eh, pl_w, pl_i, if_pos, if_neg]
  · intro j y hy
    refine ⟨y, ?_, bR_c hy (fun q u v => ?_)⟩
    · show pfX10_oneStepFrom_b4 (pd_SH sT) 5000 (j + 1) F t x y _ = _
      simp (disch := omega) only [pfX10_oneStepFrom_b4, pl_l, pl_b, pl_iT, pl_t, pl_f, e0, pl_ob s0, pl_ln s1, pl_i, if_pos, if_neg]
    · constructor
      · rintro (z | ⟨r, r0, r1, r2, rfl | r3⟩)
        · exact Or.inl z
        · exact Or.inl r2
        · exact Or.inr ⟨r3.2.1.1, r3.2.1.2, r, r0, r3.1.2, r2, r3.2.2⟩
      · rintro (z | ⟨q0, q1, r, r0, r1, r2, r3⟩)
        · exact Or.inl z
        · exact Or.inr ⟨r, r0, by omega, r2, Or.inr ⟨⟨r0, r1⟩, ⟨q0, q1⟩, r3⟩⟩
theorem c_allOne (hL : pd_Ly F) (ht : aT t) {np p : Int} {A : Int → Int → Prop} (hnp : np ≤ 12) (hn : nR (An np A) (F (t + 1))) (hp : 0 ≤ p ∧ p < np) : ∃ y, pfX10_allOneWith (pd_SH sT) 5000 F t p = some (y, F) ∧ bR y (Cn np A p) := by
  obtain ⟨s0, s1, s2, s3⟩ := sh_t (sT := sT) ht
  obtain ⟨e0, -, -⟩ := ly_t hL ht
  obtain ⟨h1, h2⟩ := hn p hp.1 (by omega)
  have o1 := tb_one (p := p) (by omega)
  unfold pfX10_allOneWith
  simp only [pl_l, pl_b, pl_iT, pl_t, pl_f]
  refine pl_for (f := fun j (q : Int) i => pfX10_allOneWith_b6 (pd_SH sT) 5000 j F t q i) (P := fun i y => bR y (Rk np A p i.toNat)) (N := 12) (res := fun z => ∃ y, z = some (y, F) ∧ bR y (Cn np A p)) ?_ ?_ 5000 (pd_shl 1 p) 0 (by omega) (by omega) (by omega) ⟨o1.1, fun q a b => o1.2 q a⟩
  · intro j y i a b hy
    obtain ⟨y', k1, k2⟩ := c_oneStep (sT := sT) hL ht hnp hn hp hy
    by_cases c : y' = y
    · right
      refine ⟨y, ?_, bR_c hy (fun q u v => ?_)⟩
      · show pfX10_allOneWith_b6 (pd_SH sT) 5000 (j + 1) F t y i = _
        simp (disch := omega) only [pfX10_allOneWith_b6, pl_l, pl_b, pl_iT, pl_t, pl_f, e0, pl_ob s0, pl_ln s1, k1, pl_w, pl_i, if_pos, if_neg]
      · have stop : ∀ q, Rk np A p (i.toNat + 1) q → Rk np A p i.toNat q := fun q hq => by
          have hi := Rk_in hp hq
          rw [← hy.2 q hi.1 (by omega), ← c]
          exact (k2.2 q hi.1 (by omega)).mpr hq
        constructor
        · exact Rk_11 hnp hp _
        · intro h
          rcases Nat.lt_or_ge 11 i.toNat with g | g
          · exact Rk_mono (by omega) h
          · obtain ⟨z, hz⟩ := Nat.exists_eq_add_of_le g
            exact Rk_stop stop z q (hz ▸ h)
    · left
      refine ⟨y', by rw [show (i + 1).toNat = i.toNat + 1 by omega]; exact k2, ?_⟩
      show pfX10_allOneWith_b6 (pd_SH sT) 5000 (j + 1) F t y i = _
      simp (disch := omega) only [pfX10_allOneWith_b6, pl_l, pl_b, pl_iT, pl_t, pl_f, e0, pl_ob s0, pl_ln s1, k1, pl_w, pl_i, if_neg]
      rw [if_pos c]
  · intro j y hy
    refine ⟨y, ?_, bR_c hy (fun q u v => ⟨Rk_11 hnp hp _, fun h => Rk_mono (by decide) h⟩)⟩
    show pfX10_allOneWith_b6 (pd_SH sT) 5000 (j + 1) F t y _ = _
    simp (disch := omega) only [pfX10_allOneWith_b6, pl_l, pl_b, pl_iT, pl_t, pl_f, e0, pl_ob s0, pl_ln s1, pl_i, if_pos, if_neg]
/-- what numberDepositors lays -/
def tP (np : Int) (C : Int → Int → Prop) (t : Int) (G : pd_F) : Prop := G t 3 = DC np C ∧ (∀ p, 0 ≤ p → p < np → G (t + 2) p = DN np C p) ∧ ∀ d, 0 ≤ d → d < DC np C → bR (G (t + 3) d) (fun p => p < np ∧ DN np C p = d)
theorem c_giveNumber (hL : pd_Ly F) (ht : aT t) {x v : Int} (hx : 0 ≤ x ∧ x < 4096) : ∃ F', pfX10_giveNumber (pd_SH sT) 5000 F t x v = some F' ∧ pd_Ly F' ∧ (∀ b, b ≠ t + 2 → F' b = F b) ∧ ∀ p, 0 ≤ p → p < 12 → F' (t + 2) p = ci (tb x p) v (F (t + 2) p) := by
  obtain ⟨s0, s1, s2, s3⟩ := sh_t (sT := sT) ht
  unfold pfX10_giveNumber
  refine pl_for (f := fun j (q : pd_F) i => pfX10_giveNumber_b2 (pd_SH sT) 5000 j q t x v i) (P := fun i q => pd_Ly q ∧ (∀ b, b ≠ t + 2 → q b = F b) ∧ ∀ p, 0 ≤ p → p < 12 → q (t + 2) p = ci (p < i ∧ tb x p) v (F (t + 2) p)) (N := 12)
    (res := fun o => ∃ F', o = some F' ∧ pd_Ly F' ∧ (∀ b, b ≠ t + 2 → F' b = F b) ∧ ∀ p, 0 ≤ p → p < 12 → F' (t + 2) p = ci (tb x p) v (F (t + 2) p)) ?_ ?_ 5000 F 0 (by omega) (by omega) (by omega) ⟨hL, fun _ _ => rfl, fun p a b => by rw [ci_f (by omega)]⟩
  · intro j G i a b ⟨q1, q2, q3⟩
    obtain ⟨-, e1, -⟩ := ly_t q1 ht
    have eh := c_holds (sT := sT) (F := G) (p := i) hx (by omega)
    left
    rcases Classical.em (tb x i) with k | k
    · rw [ci_t k] at eh
      refine ⟨pd_up G (t + 2) i v, ⟨q1.up (pl_rc0 s2 (by decide)), fun b hb => by rw [pu_a hb]; exact q2 b hb, fun p c d => ?_⟩, ?_⟩
      · rw [pu_r]
        by_cases e : p = i
        · rw [if_pos e, e, ci_t ⟨by omega, k⟩]
        · rw [if_neg e, q3 p c d]
          exact ci_c ⟨fun z => ⟨by omega, z.2⟩, fun z => ⟨by omega, z.2⟩⟩
      · show pfX10_giveNumber_b2 (pd_SH sT) 5000 (j + 1) G t x v i = _
        simp (disch := omega) only [pfX10_giveNumber_b2, pfX10_giveNumber_b26, pl_l, pl_b, pl_iT, pl_t, pl_f, e1, pl_ob s0, pl_ln s2, pl_ib s2, eh, pl_w, pl_i, if_pos, if_neg]
    · rw [ci_f k] at eh
      refine ⟨G, ⟨q1, q2, fun p c d => ?_⟩, ?_⟩
      · rw [q3 p c d]
        refine ci_c ⟨fun z => ⟨by omega, z.2⟩, fun z => ⟨?_, z.2⟩⟩
        by_cases e : p = i
        · exact absurd (e ▸ z.2) k
        · omega
      · show pfX10_giveNumber_b2 (pd_SH sT) 5000 (j + 1) G t x v i = _
        simp (disch := omega) only [pfX10_giveNumber_b2, pfX10_giveNumber_b26, pl_l, pl_b, pl_iT, pl_t, pl_f, e1, pl_ob s0, pl_ln s2, pl_ib s2, eh, pl_w, pl_i, if_pos, if_neg]
  · intro j G ⟨q1, q2, q3⟩
    obtain ⟨-, e1, -⟩ := ly_t q1 ht
    refine ⟨G, ?_, q1, q2, fun p a b => ?_⟩
    · show pfX10_giveNumber_b2 (pd_SH sT) 5000 (j + 1) G t x v _ = _
      simp (disch := omega) only [pfX10_giveNumber_b2, pl_l, pl_b, pl_iT, pl_t, pl_f, e1, pl_ob s0, pl_ln s2, pl_i, if_pos, if_neg]
    · rw [q3 p a b]
      exact ci_c ⟨fun z => z.2, fun z => ⟨b, z⟩⟩
theorem c_numberDepositors (hL : pd_Ly F) (ht : aT t) {np : Int} {A : Int → Int → Prop} (hnp : 0 ≤ np ∧ np ≤ 12) (hA : ∀ x y, A x y → A y x) (hn : nR (An np A) (F (t + 1))) : ∃ F', pfX10_numberDepositors (pd_SH sT) 5000 F t np = some F' ∧ pd_Ly F' ∧ (∀ b, b ≠ t → b ≠ t + 2 → b ≠ t + 3 → F' b = F b) ∧ tP np (Cn np A) t F' := by
  obtain ⟨s0, s1, s2, s3⟩ := sh_t (sT := sT) ht
  have inv := dn_inv (np := np) (C := Cn np A) (fun p _ _ => Cn_rf)
  have tr := Cn_t (A := A) hnp.2
  unfold pfX10_numberDepositors
  simp only [pl_l, pl_b, pl_iT, pl_t, pl_f, pl_ob s0]
  refine pl_for (f := fun j (q : pd_F × Int) i => pfX10_numberDepositors_b9 (pd_SH sT) 5000 j q.1 t np q.2 i)
    (P := fun i q => pd_Ly q.1 ∧ (∀ b, b ≠ t → b ≠ t + 2 → b ≠ t + 3 → q.1 b = F b) ∧ q.1 t 3 = (dn np (Cn np A) i.toNat).2 ∧ bR q.2 (fun o => o < np ∧ 0 ≤ (dn np (Cn np A) i.toNat).1 o) ∧ (∀ o, 0 ≤ o → o < np → 0 ≤ (dn np (Cn np A) i.toNat).1 o → q.1 (t + 2) o = (dn np (Cn np A) i.toNat).1 o) ∧ ∀ d, 0 ≤ d → d < (dn np (Cn np A) i.toNat).2 → bR (q.1 (t + 3) d) (fun o => o < np ∧ (dn np (Cn np A) i.toNat).1 o = d)) (N := np)
    (res := fun o => ∃ F', o = some F' ∧ pd_Ly F' ∧ (∀ b, b ≠ t → b ≠ t + 2 → b ≠ t + 3 → F' b = F b) ∧ tP np (Cn np A) t F') ?_ ?_ 5000 (pd_up F t 3 0, 0) 0 (by omega) hnp.1 (by omega)
    ⟨hL.up (pl_rc4 s0 (by decide)), fun b x _ _ => pu_a x, by show pd_up F t 3 0 t 3 = 0; rw [pu_r, if_pos rfl], ⟨by show 0 ≤ (0 : Int) ∧ (0 : Int) < 4096; decide, fun q a b => ⟨fun z => absurd z (tb_0 q), fun z => absurd z.2 (by show ¬ (0 : Int) ≤ -1; decide)⟩⟩, fun o a b h => absurd h (by show ¬ (0 : Int) ≤ -1; decide), fun d a b => absurd b (by show ¬ d < 0; omega)⟩
  · intro j ⟨G, x⟩ i a b ⟨q1, q2, q3, q4, q5, q6⟩
    simp only at q1 q2 q3 q4 q5 q6
    left
    obtain ⟨e0, e1, e2⟩ := ly_t q1 ht
    have ei : (i + 1).toNat = i.toNat + 1 := by omega
    have eii : ((i.toNat : Nat) : Int) = i := by omega
    obtain ⟨i1, i2, i3, i4, i5⟩ := inv i.toNat (by omega)
    have din := dn_in tr i.toNat (by omega)
    have eh := c_holds (sT := sT) (F := G) (p := i) q4.1 (by omega)
    have hb := q4.2 i a (by omega)
    rw [ei, dn_s, eii]
    by_cases c : 0 ≤ (dn np (Cn np A) i.toNat).1 i
    · rw [if_pos c]
      rw [ci_t (hb.mpr ⟨b, c⟩)] at eh
      refine ⟨(G, x), ⟨q1, q2, q3, q4, q5, q6⟩, ?_⟩
      show pfX10_numberDepositors_b9 (pd_SH sT) 5000 (j + 1) G t np x i = _
      simp (disch := omega) only [pfX10_numberDepositors_b9, pfX10_numberDepositors_b77, pl_l, pl_b, pl_iT, pl_t, pl_f, eh, e2, q3, pl_ob s0, pl_ln s3, pl_i, pl_w, if_pos, if_neg]
    · rw [if_neg c]
      rw [ci_f (fun z => c (hb.mp z).2)] at eh
      have hn' : nR (An np A) (G (t + 1)) := by rw [q2 (t + 1) (by omega) (by omega) (by omega)]; exact hn
      obtain ⟨y, m1, m2⟩ := c_allOne (sT := sT) q1 ht hnp.2 hn' ⟨a, b⟩
      generalize hcnt : (dn np (Cn np A) i.toNat).2 = cnt at *
      have g1 : pd_Ly (pd_up G (t + 3) cnt y) := q1.up (pl_rc0 s3 (by decide))
      obtain ⟨H, k1, k2, k3, k4⟩ := c_giveNumber (sT := sT) g1 ht (x := y) (v := cnt) m2.1
      obtain ⟨h0, h1, h2⟩ := ly_t g1 ht
      obtain ⟨f0, f1, f2⟩ := ly_t k2 ht
      have et3 : pd_up G (t + 3) cnt y t 3 = cnt := by rw [pu_a (by omega)]; exact q3
      have eH : H t 3 = cnt := by rw [k3 t (by omega)]; exact et3
      have new : ∀ o, 0 ≤ o → o < np → Cn np A i o → ¬ 0 ≤ (dn np (Cn np A) i.toNat).1 o := fun o o0 o1 z g => by
        obtain ⟨q, x0, y0, z0⟩ := (din o o0 o1).mp g
        exact c ((din i a b).mpr ⟨q, x0, y0, tr q o i x0 (by omega) z0 (Cn_sy hnp.2 hA ⟨a, b⟩ z)⟩)
      have o2 := tb_or q4.1 m2.1
      refine ⟨(pd_up H t 3 (cnt + 1), pd_or x y), ⟨k2.up (pl_rc4 s0 (by decide)), fun b u v w => by dsimp only; rw [pu_a u, k3 b v, pu_a w]; exact q2 b u v w, by dsimp only; rw [pu_r, if_pos rfl], ⟨o2.1, fun o o0 o1 => ?_⟩, fun o o0 o1 hg => ?_, fun d d0 d1 => ?_⟩, ?_⟩
      · dsimp only
        rw [o2.2 o, q4.2 o o0 o1, m2.2 o o0 o1]
        rcases ci_o (0 ≤ o ∧ o < np ∧ Cn np A i o) cnt ((dn np (Cn np A) i.toNat).1 o) with ⟨z, z2⟩ | ⟨z, z2⟩
        · rw [z2]; exact ⟨fun _ => ⟨z.2.1, i1⟩, fun _ => Or.inr z.2.2⟩
        · rw [z2]
          refine ⟨fun w => w.elim id (fun w => absurd ⟨o0, (Rk_in ⟨a, b⟩ w).2, w⟩ z), Or.inl⟩
      · dsimp only at hg ⊢
        rw [pu_a (by omega), k4 o o0 (by omega)]
        rcases ci_o (0 ≤ o ∧ o < np ∧ Cn np A i o) cnt ((dn np (Cn np A) i.toNat).1 o) with ⟨z, z2⟩ | ⟨z, z2⟩
        · rw [z2, ci_t ((m2.2 o o0 (by omega)).mpr z.2.2)]
        · rw [z2] at hg ⊢
          rw [ci_f (fun w => z ⟨o0, o1, (m2.2 o o0 (by omega)).mp w⟩), pu_a (by omega)]
          exact q5 o o0 o1 hg
      · dsimp only at d1 ⊢
        rw [pu_a (by omega), k3 (t + 3) (by omega), pu_r]
        by_cases e : d = cnt
        · rw [if_pos e, e]
          refine bR_c m2 (fun o o0 o1 => ?_)
          rcases ci_o (0 ≤ o ∧ o < np ∧ Cn np A i o) cnt ((dn np (Cn np A) i.toNat).1 o) with ⟨z, z2⟩ | ⟨z, z2⟩
          · rw [z2]; exact ⟨fun _ => ⟨z.2.1, rfl⟩, fun _ => z.2.2⟩
          · rw [z2]
            have := i3 o
            exact ⟨fun w => absurd ⟨o0, (Rk_in ⟨a, b⟩ w).2, w⟩ z, fun w => by omega⟩
        · rw [if_neg e]
          refine bR_c (q6 d d0 (by omega)) (fun o o0 o1 => ?_)
          rcases ci_o (0 ≤ o ∧ o < np ∧ Cn np A i o) cnt ((dn np (Cn np A) i.toNat).1 o) with ⟨z, z2⟩ | ⟨z, z2⟩
          · rw [z2]
            exact ⟨fun w => absurd (show 0 ≤ (dn np (Cn np A) i.toNat).1 o by omega) (new o o0 z.2.1 z.2.2), fun w => absurd w.2 (fun w => e w.symm)⟩
          · rw [z2]
      · show pfX10_numberDepositors_b9 (pd_SH sT) 5000 (j + 1) G t np x i = _
        simp (disch := omega) only [pfX10_numberDepositors_b9, pfX10_numberDepositors_b77, pl_l, pl_b, pl_iT, pl_t, pl_f, eh, m1, e2, q3, pl_ob s0, pl_ib s3, pl_ln s3, pl_i, if_pos, if_neg]
        simp (disch := omega) only [pl_l, pl_b, pl_iT, pl_t, pl_f, et3, k1, eH, pl_w]
  · intro j ⟨G, x⟩ ⟨q1, q2, q3, q4, q5, q6⟩
    simp only at q1 q2 q3 q4 q5 q6
    obtain ⟨i1, i2, i3, i4, i5⟩ := inv np.toNat (by omega)
    refine ⟨G, ?_, q1, q2, q3, fun p a b => q5 p a b (i5 p a (by omega)), q6⟩
    show pfX10_numberDepositors_b9 (pd_SH sT) 5000 (j + 1) G t np x _ = _
    simp (disch := omega) only [pfX10_numberDepositors_b9, if_pos]
end CT

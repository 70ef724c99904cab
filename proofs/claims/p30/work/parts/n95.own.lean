/-! sums: what all get is what there was -/
theorem Sm_swap {f : Int → Int → Int} {n m : Int} (hn : 0 ≤ n) (hm : 0 ≤ m) : Sm (fun p => Sm (fun i => f p i) m) n = Sm (fun i => Sm (fun p => f p i) n) m := by
  obtain ⟨k, rfl⟩ := Int.eq_ofNat_of_zero_le hn
  clear hn
  induction k with
  | zero =>
    rw [show ((0 : Nat) : Int) = 0 from rfl, Sm_0, Sm_zero]
    intro i _ _
    exact Sm_0
  | succ k ih =>
    have e : ((k + 1 : Nat) : Int) = (k : Int) + 1 := by omega
    rw [e, Sm_s (by omega), ih, ← Sm_add hm]
    exact Sm_congr fun i _ _ => (Sm_s (f := fun p => f p i) (by omega)).symm
theorem Sm_one {n q v : Int} (h0 : 0 ≤ q) (h1 : q < n) : Sm (fun p => if q = p then v else 0) n = v := by
  have := Sm_up (f := fun _ => 0) (v := v) h0 h1
  rw [Sm_zero (f := fun _ => 0) (fun _ _ _ => rfl)] at this
  refine Eq.trans (Sm_congr (g := fun i => if i = q then 0 + v else 0) fun i _ _ => ?_) (this.trans (Int.zero_add v))
  show (if q = i then v else 0) = if i = q then 0 + v else 0
  rw [Int.zero_add]
  by_cases e : q = i
  · rw [if_pos e, if_pos e.symm]
  · rw [if_neg e, if_neg (fun z => e z.symm)]
theorem Sm_tel {f : Int → Int} {n : Int} (hn : 0 ≤ n) : Sm (fun i => f (i + 1) - f i) n = f n - f 0 := by
  obtain ⟨k, rfl⟩ := Int.eq_ofNat_of_zero_le hn
  clear hn
  induction k with
  | zero => rw [show ((0 : Nat) : Int) = 0 from rfl, Sm_0]; omega
  | succ k ih =>
    have e : ((k + 1 : Nat) : Int) = (k : Int) + 1 := by omega
    rw [e, Sm_s (by omega), ih]; omega
theorem lGv_all {np : Int} {pm pt pw : Int → Int} (hnp : 0 ≤ np ∧ np ≤ 12) : ∀ (k : Nat) (l nt a : Int), lOk np pm pt pw l nt → (∀ t, 0 ≤ t → t < nt → lOk np pm pt pw t t) → 0 ≤ nt → nt < k → ¬ lFl pm pt pw k l → 0 ≤ a → Sm (fun p => lGv pm pt pw k l a p) np = a
  | 0, l, nt, a, h, ht, h0, hk, hf, ha => by omega
  | k + 1, l, nt, a, h, ht, h0, hk, hf, ha => by
    have hw : lW pw l (pm l) ≠ 0 := fun e => hf (Or.inl e)
    show Sm (fun p => Sm (fun i => if 16 ≤ pt (5 * l + i) then lGv pm pt pw k (pt (5 * l + i) - 16) (lUp pw l (lW pw l (pm l)) a (i + 1) - lUp pw l (lW pw l (pm l)) a i) p else if pt (5 * l + i) = p then lUp pw l (lW pw l (pm l)) a (i + 1) - lUp pw l (lW pw l (pm l)) a i else 0) (pm l)) np = a
    rw [Sm_swap hnp.1 h.1]
    have each : ∀ i, 0 ≤ i → i < pm l → Sm (fun p => if 16 ≤ pt (5 * l + i) then lGv pm pt pw k (pt (5 * l + i) - 16) (lUp pw l (lW pw l (pm l)) a (i + 1) - lUp pw l (lW pw l (pm l)) a i) p else if pt (5 * l + i) = p then lUp pw l (lW pw l (pm l)) a (i + 1) - lUp pw l (lW pw l (pm l)) a i else 0) np = lUp pw l (lW pw l (pm l)) a (i + 1) - lUp pw l (lW pw l (pm l)) a i := fun i x y => by
      have mono := lUp_mono h ha hw (i := i) (j := i + 1) x (by omega) (by omega)
      obtain ⟨o1, -⟩ := h.2.2 i x y
      by_cases z : 16 ≤ pt (5 * l + i)
      · have ih := lGv_all hnp k (pt (5 * l + i) - 16) (pt (5 * l + i) - 16) (lUp pw l (lW pw l (pm l)) a (i + 1) - lUp pw l (lW pw l (pm l)) a i) (ht _ (by omega) (by omega)) (fun t t0 t1 => ht t t0 (by omega)) (by omega) (by omega) (fun e => hf (Or.inr ⟨i, x, y, z, e⟩)) (by omega)
        rw [← ih]
        exact Sm_congr fun p _ _ => by rw [if_pos z]; rw [ih]
      · have e : Sm (fun p => if pt (5 * l + i) = p then lUp pw l (lW pw l (pm l)) a (i + 1) - lUp pw l (lW pw l (pm l)) a i else 0) np = lUp pw l (lW pw l (pm l)) a (i + 1) - lUp pw l (lW pw l (pm l)) a i := Sm_one (by omega) (by omega)
        rw [← e]
        exact Sm_congr fun p _ _ => by rw [if_neg z]; rw [e]
    rw [Sm_congr each, Sm_tel h.1, lUp_0]
    have : lUp pw l (lW pw l (pm l)) a (pm l) = a := by
      unfold lUp
      exact Int.mul_tdiv_cancel _ hw
    omega
theorem lGv_way {np : Int} {pm pt pw : Int → Int} (hnp : np ≤ 12) {p : Int} : ∀ (k : Nat) (l nt a : Int), lOk np pm pt pw l nt → (∀ t, 0 ≤ t → t < nt → lOk np pm pt pw t t) → lWy pm pt k l p = 0 → lGv pm pt pw k l a p = 0
  | 0, l, nt, a, h, ht, hz => rfl
  | k + 1, l, nt, a, h, ht, hz => by
    have nn : ∀ i, 0 ≤ i → i < pm l → 0 ≤ (if pt (5 * l + i) = p then 1 else if 16 ≤ pt (5 * l + i) then lWy pm pt k (pt (5 * l + i) - 16) p else 0) := fun i x y => by
      by_cases e : pt (5 * l + i) = p
      · rw [if_pos e]; decide
      · rw [if_neg e]
        by_cases z : 16 ≤ pt (5 * l + i)
        · rw [if_pos z]
          obtain ⟨o1, -⟩ := h.2.2 i x y
          exact (lWy_bd hnp k _ (pt (5 * l + i) - 16) p (ht _ (by omega) (by omega)) (fun t t0 t1 => ht t t0 (by omega))).1
        · rw [if_neg z]; exact Int.le_refl _
    have hz' : Sm (fun i => if pt (5 * l + i) = p then 1 else if 16 ≤ pt (5 * l + i) then lWy pm pt k (pt (5 * l + i) - 16) p else 0) (pm l) = 0 := hz
    show Sm (fun i => if 16 ≤ pt (5 * l + i) then _ else if pt (5 * l + i) = p then _ else 0) (pm l) = 0
    refine Sm_zero fun i x y => ?_
    have le := Sm_tm nn x y
    rw [hz'] at le
    have ge := nn i x y
    have z0 : (if pt (5 * l + i) = p then (1 : Int) else if 16 ≤ pt (5 * l + i) then lWy pm pt k (pt (5 * l + i) - 16) p else 0) = 0 := Int.le_antisymm le ge
    by_cases e : pt (5 * l + i) = p
    · rw [if_pos e] at z0; exact absurd z0 (by decide)
    · rw [if_neg e] at z0
      by_cases z : 16 ≤ pt (5 * l + i)
      · rw [if_pos z] at z0 ⊢
        obtain ⟨o1, -⟩ := h.2.2 i x y
        exact lGv_way hnp k _ (pt (5 * l + i) - 16) _ (ht _ (by omega) (by omega)) (fun t t0 t1 => ht t t0 (by omega)) z0
      · rw [if_neg z, if_neg e]
section SH
variable {sT : pd_S} {D : pd_F} {s : Int → Int} {F : pd_F}
theorem p_share (h : cS D s F) {a p : Int} (a0 : 0 ≤ a ∧ a < D 371 0) (c : 0 ≤ p ∧ p < D 369 0) : pfX11_share (pd_SH sT) 5000 F 1 a p = some (gA D s a p, F) := by
  have hD := h.2.2.1
  have n5 := hD.1.2.2.2.2.2.1
  have n1 := hD.1.2.1
  unfold pfX11_share
  simp only [pl_l, pl_b, pl_iT, pl_t, pl_f, gx_1, gx_2, gx_3, gx_4, gx_113, gx_114, gx_115, gx_116, gx_212, gx_213, gx_224, gn_4, gn_114, gn_115, gn_116, gn_213, gn_224, lx_1_0 h.1, lx_1_1 h.1, lx_1_2 h.1, lx_1_3 h.1, lx_1_4 h.1, lx_1_5 h.1, lx_1_6 h.1, lx_1_7 h.1, lx_2_0 h.1, lx_3_0 h.1, lx_113_0 h.1, lx_113_1 h.1, lx_113_2 h.1, lx_212_0 h.1, lx_212_1 h.1, p_isAccount (sT := sT) h, p_isPerson (sT := sT) h]
  rw [if_pos a0, if_neg (by decide)]
  obtain ⟨ea, sa⟩ := fy_oa (sT := sT) h.1 (i := a) a0.1 (by omega)
  have eg := h.2.2.2.2.2.1.1 a p a0.1 a0.2 c.1 (by omega)
  rw [if_pos c, if_pos (by decide)]
  simp (disch := omega) only [ea, pl_ib sa, eg, pl_i]
theorem gA_all (h : cS D s F) {a : Int} (a0 : 0 ≤ a ∧ a < D 371 0) : Sm (fun p => gA D s a p) (D 369 0) = ci (lFl (D 381) (D 382) (D 383) 8 (5 + a)) 0 (s a) := by
  have hD := h.2.2.1
  obtain ⟨b0, b1, b2, b3, b4, b5, b6, b7⟩ := hD.1
  have sa := (h.2.2.2.2.1.1.1 a a0.1 a0.2).1
  unfold gA
  rcases Classical.em (lFl (D 381) (D 382) (D 383) 8 (5 + a)) with hf | hf
  · rw [ci_t hf]
    exact Sm_zero fun i _ _ => ci_t hf
  · have e := lGv_all ⟨b0, b1⟩ 8 (5 + a) (D 370 0) (s a) (b7 a a0.1 a0.2) b6 b2 (by omega) hf sa
    rw [ci_f hf]
    refine Eq.trans (Sm_congr fun i _ _ => ?_) e
    exact ci_f hf
theorem gA_way (h : cS D s F) {a p : Int} (a0 : 0 ≤ a ∧ a < D 371 0) (hz : lWy (D 381) (D 382) 8 (5 + a) p = 0) : gA D s a p = 0 := by
  have hD := h.2.2.1
  obtain ⟨b0, b1, b2, b3, b4, b5, b6, b7⟩ := hD.1
  unfold gA
  rcases Classical.em (lFl (D 381) (D 382) (D 383) 8 (5 + a)) with hf | hf
  · exact ci_t hf
  · rw [ci_f hf]
    exact lGv_way b1 8 (5 + a) (D 370 0) (s a) (b7 a a0.1 a0.2) b6 hz
end SH

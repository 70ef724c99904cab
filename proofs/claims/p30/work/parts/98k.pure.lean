variable {sT : pd_S}
/-! lists of parts: fuel, alike lists; a group settled -/
theorem Mx_congr {f g : Int → Int} {n : Int} (hn : 0 ≤ n) (h : ∀ i, 0 ≤ i → i < n → f i = g i) : Mx f n = Mx g n := by
  obtain ⟨k, rfl⟩ := Int.eq_ofNat_of_zero_le hn
  clear hn
  induction k with
  | zero => rfl
  | succ k ih =>
    have e : ((k + 1 : Nat) : Int) = (k : Int) + 1 := by omega
    rw [e, Mx_s (by omega), Mx_s (by omega), ih (fun i a b => h i a (by omega)), h k (by omega) (by omega)]
theorem l_fu {np : Int} {pm pt pw : Int → Int} (hnp : np ≤ 12) : ∀ (k : Nat) (l nt : Int), lOk np pm pt pw l nt → (∀ t, 0 ≤ t → t < nt → lOk np pm pt pw t t) → 0 ≤ nt → nt < k → (lFl pm pt pw k l ↔ lFl pm pt pw (k + 1) l) ∧ lDp pm pt k l = lDp pm pt (k + 1) l ∧ ∀ p, lWy pm pt k l p = lWy pm pt (k + 1) l p
  | 0, l, nt, h, ht, h0, hk => by omega
  | k + 1, l, nt, h, ht, h0, hk => by
    have ih : ∀ i, 0 ≤ i → i < pm l → 16 ≤ pt (5 * l + i) → (lFl pm pt pw k (pt (5 * l + i) - 16) ↔ lFl pm pt pw (k + 1) (pt (5 * l + i) - 16)) ∧ lDp pm pt k (pt (5 * l + i) - 16) = lDp pm pt (k + 1) (pt (5 * l + i) - 16) ∧ ∀ p, lWy pm pt k (pt (5 * l + i) - 16) p = lWy pm pt (k + 1) (pt (5 * l + i) - 16) p := fun i a c g => by
      have hp := (h.2.2 i a c).1
      exact l_fu hnp k (pt (5 * l + i) - 16) (pt (5 * l + i) - 16) (ht _ (by omega) (by omega)) (fun t u v => ht t u (by omega)) (by omega) (by omega)
    refine ⟨?_, ?_, fun p => ?_⟩
    · rw [lFl_s, lFl_s (k := k + 1)]
      refine or_congr Iff.rfl ⟨fun ⟨i, a, c, g, d⟩ => ⟨i, a, c, g, (ih i a c g).1.mp d⟩, fun ⟨i, a, c, g, d⟩ => ⟨i, a, c, g, (ih i a c g).1.mpr d⟩⟩
    · show Mx (fun i => if pt (5 * l + i) < 16 then 1 else 1 + lDp pm pt k (pt (5 * l + i) - 16)) (pm l) = Mx (fun i => if pt (5 * l + i) < 16 then 1 else 1 + lDp pm pt (k + 1) (pt (5 * l + i) - 16)) (pm l)
      refine Mx_congr h.1 fun i a c => ?_
      by_cases g : pt (5 * l + i) < 16
      · rw [if_pos g, if_pos g]
      · rw [if_neg g, if_neg g, (ih i a c (by omega)).2.1]
    · show Sm (fun i => if pt (5 * l + i) = p then 1 else if 16 ≤ pt (5 * l + i) then lWy pm pt k (pt (5 * l + i) - 16) p else 0) (pm l) = Sm (fun i => if pt (5 * l + i) = p then 1 else if 16 ≤ pt (5 * l + i) then lWy pm pt (k + 1) (pt (5 * l + i) - 16) p else 0) (pm l)
      refine Sm_congr fun i a c => ?_
      by_cases g : 16 ≤ pt (5 * l + i)
      · rw [if_pos g, if_pos g, (ih i a c g).2.2 p]
      · rw [if_neg g, if_neg g]
/-- lists alike on S -/
theorem l_cg {pm pt pw pm' pt' pw' : Int → Int} {S : Int → Prop} (e1 : ∀ l, S l → 0 ≤ pm l ∧ pm' l = pm l) (e2 : ∀ l i, S l → 0 ≤ i → i < pm l → pt' (5 * l + i) = pt (5 * l + i) ∧ pw' (5 * l + i) = pw (5 * l + i)) (cl : ∀ l i, S l → 0 ≤ i → i < pm l → 16 ≤ pt (5 * l + i) → S (pt (5 * l + i) - 16)) :
    (∀ l j, S l → j ≤ pm l → lW pw' l j = lW pw l j) ∧ ∀ (k : Nat) (l : Int), S l → (lFl pm' pt' pw' k l ↔ lFl pm pt pw k l) ∧ lDp pm' pt' k l = lDp pm pt k l ∧ (∀ p, lWy pm' pt' k l p = lWy pm pt k l p) ∧ ∀ a p, lGv pm' pt' pw' k l a p = lGv pm pt pw k l a p := by
  have hW : ∀ l j, S l → j ≤ pm l → lW pw' l j = lW pw l j := fun l j s hj => Sm_congr fun i a c => (e2 l i s a (by omega)).2
  refine ⟨hW, ?_⟩
  intro k
  induction k with
  | zero => exact fun l s => ⟨Iff.rfl, rfl, fun _ => rfl, fun _ _ => rfl⟩
  | succ k ih =>
    intro l s
    obtain ⟨p0, e1'⟩ := e1 l s
    have hU : ∀ a j, j ≤ pm l → lUp pw' l (lW pw' l (pm' l)) a j = lUp pw l (lW pw l (pm l)) a j := fun a j hj => by
      unfold lUp
      rw [e1', hW l (pm l) s (Int.le_refl _), hW l j s hj]
    refine ⟨?_, ?_, fun p => ?_, fun a p => ?_⟩
    · rw [lFl_s, lFl_s (pm := pm), e1', hW l (pm l) s (Int.le_refl _)]
      refine or_congr Iff.rfl ⟨?_, ?_⟩
      · rintro ⟨i, a, c, g, d⟩
        rw [(e2 l i s a c).1] at g d
        exact ⟨i, a, c, g, (ih _ (cl l i s a c g)).1.mp d⟩
      · rintro ⟨i, a, c, g, d⟩
        refine ⟨i, a, c, ?_, ?_⟩
        · rw [(e2 l i s a c).1]; exact g
        · rw [(e2 l i s a c).1]; exact (ih _ (cl l i s a c g)).1.mpr d
    · show Mx (fun i => if pt' (5 * l + i) < 16 then 1 else 1 + lDp pm' pt' k (pt' (5 * l + i) - 16)) (pm' l) = Mx (fun i => if pt (5 * l + i) < 16 then 1 else 1 + lDp pm pt k (pt (5 * l + i) - 16)) (pm l)
      rw [e1']
      refine Mx_congr p0 fun i a c => ?_
      rw [(e2 l i s a c).1]
      by_cases g : pt (5 * l + i) < 16
      · rw [if_pos g, if_pos g]
      · rw [if_neg g, if_neg g, (ih _ (cl l i s a c (by omega))).2.1]
    · show Sm (fun i => if pt' (5 * l + i) = p then 1 else if 16 ≤ pt' (5 * l + i) then lWy pm' pt' k (pt' (5 * l + i) - 16) p else 0) (pm' l) = Sm (fun i => if pt (5 * l + i) = p then 1 else if 16 ≤ pt (5 * l + i) then lWy pm pt k (pt (5 * l + i) - 16) p else 0) (pm l)
      rw [e1']
      refine Sm_congr fun i a c => ?_
      rw [(e2 l i s a c).1]
      by_cases g : 16 ≤ pt (5 * l + i)
      · rw [if_pos g, if_pos g, (ih _ (cl l i s a c g)).2.2.1 p]
      · rw [if_neg g, if_neg g]
    · show Sm (fun i => if 16 ≤ pt' (5 * l + i) then lGv pm' pt' pw' k (pt' (5 * l + i) - 16) (lUp pw' l (lW pw' l (pm' l)) a (i + 1) - lUp pw' l (lW pw' l (pm' l)) a i) p else if pt' (5 * l + i) = p then lUp pw' l (lW pw' l (pm' l)) a (i + 1) - lUp pw' l (lW pw' l (pm' l)) a i else 0) (pm' l) = Sm (fun i => if 16 ≤ pt (5 * l + i) then lGv pm pt pw k (pt (5 * l + i) - 16) (lUp pw l (lW pw l (pm l)) a (i + 1) - lUp pw l (lW pw l (pm l)) a i) p else if pt (5 * l + i) = p then lUp pw l (lW pw l (pm l)) a (i + 1) - lUp pw l (lW pw l (pm l)) a i else 0) (pm l)
      have := e1'
      rw [e1']
      refine Sm_congr fun i u v => ?_
      have hU' : ∀ j, j ≤ pm l → lUp pw' l (lW pw' l (pm l)) a j = lUp pw l (lW pw l (pm l)) a j := fun j hj => by
        have := hU a j hj
        rw [e1'] at this
        exact this
      rw [(e2 l i s u v).1, hU' (i + 1) (by omega), hU' i (by omega)]
      by_cases g : 16 ≤ pt (5 * l + i)
      · rw [if_pos g, if_pos g, (ih _ (cl l i s u v g)).2.2.2]
      · rw [if_neg g, if_neg g]
section ST
variable {F : pd_F}
theorem c_goThrough (hL : pd_Ly F) {g g' : Int} (hg : g + 3 < g' ∨ g' + 3 < g) (sg : pd_sh (pd_SH sT) g = some (4, 2, 8)) (sg3 : pd_sh (pd_SH sT) (g + 3) = some (0, 0, 12)) (sg' : pd_sh (pd_SH sT) g' = some (4, 2, 8)) (sg3' : pd_sh (pd_SH sT) (g' + 3) = some (0, 0, 12)) (l2 : ∀ H : pd_F, pd_Ly H → H g 2 = g + 3 ∧ H g' 2 = g' + 3)
    (hd : 0 ≤ F g' 6 ∧ F g' 6 ≤ 100) (hw : ∀ p, 0 ≤ p → p < 12 → (0 ≤ F (g + 3) p ∧ F (g + 3) p ≤ 1000000) ∧ 0 ≤ F (g' + 3) p ∧ F (g' + 3) p ≤ 1000000) :
    ∃ F', pfX2_goThrough (pd_SH sT) 5000 F g g' = some F' ∧ pd_Ly F' ∧ (∀ a, a ≠ g → a ≠ g + 3 → F' a = F a) ∧ (∀ j, j ≠ 6 → j ≠ 7 → F' g j = F g j) ∧ F' g 6 = max (F g 6) (F g' 6 + 1) ∧ F' g 7 = (if F g 7 ≠ 0 then 1 else if F g' 7 = 0 then 0 else 1) ∧ ∀ p, 0 ≤ p → p < 12 → F' (g + 3) p = F (g + 3) p + F (g' + 3) p := by
  unfold pfX2_goThrough
  simp only [pl_l, pl_b, pl_iT, pl_t, pl_f, pl_ob sg, pl_ob sg']
  rw [pl_w (by omega)]
  have h1 : pd_Ly (pd_up F g 6 (max (F g 6) (F g' 6 + 1))) := hL.up (pl_rc4 sg (by decide))
  have e7 : pd_up F g 6 (max (F g 6) (F g' 6 + 1)) g 7 = F g 7 := by rw [pu_r, if_neg (by decide)]
  have e7' : pd_up F g 6 (max (F g 6) (F g' 6 + 1)) g' 7 = F g' 7 := by rw [pu_a (by omega)]
  have go : ∀ t, (t = 0 ∨ t = 1) → ∃ F', pfX2_goThrough_b37 (pd_SH sT) 5000 (pd_up F g 6 (max (F g 6) (F g' 6 + 1))) g g' t g = some F' ∧ pd_Ly F' ∧ (∀ a, a ≠ g → a ≠ g + 3 → F' a = F a) ∧ (∀ j, j ≠ 6 → j ≠ 7 → F' g j = F g j) ∧ F' g 6 = max (F g 6) (F g' 6 + 1) ∧ F' g 7 = t ∧ ∀ p, 0 ≤ p → p < 12 → F' (g + 3) p = F (g + 3) p + F (g' + 3) p := fun t ht => by
    unfold pfX2_goThrough_b37
    simp only [pl_l, pl_b, pl_iT, pl_t, pl_f, pl_ob sg]
    rw [pl_i ht]
    have h2 : pd_Ly (pd_up (pd_up F g 6 (max (F g 6) (F g' 6 + 1))) g 7 t) := h1.up (pl_rc4 sg (by decide))
    refine pl_for (f := fun j (q : pd_F) i => pfX2_goThrough_b42 (pd_SH sT) 5000 j q g g' i) (P := fun i q => pd_Ly q ∧ (∀ a, a ≠ g → a ≠ g + 3 → q a = F a) ∧ (∀ j, j ≠ 6 → j ≠ 7 → q g j = F g j) ∧ q g 6 = max (F g 6) (F g' 6 + 1) ∧ q g 7 = t ∧ ∀ p, 0 ≤ p → p < 12 → q (g + 3) p = F (g + 3) p + (if p < i then F (g' + 3) p else 0)) (N := 12)
      (res := fun o => ∃ F', o = some F' ∧ pd_Ly F' ∧ (∀ a, a ≠ g → a ≠ g + 3 → F' a = F a) ∧ (∀ j, j ≠ 6 → j ≠ 7 → F' g j = F g j) ∧ F' g 6 = max (F g 6) (F g' 6 + 1) ∧ F' g 7 = t ∧ ∀ p, 0 ≤ p → p < 12 → F' (g + 3) p = F (g + 3) p + F (g' + 3) p) ?_ ?_ 5000 _ 0 (by omega) (by omega) (by omega)
      ⟨h2, fun a x y => by rw [pu_a x, pu_a x], fun j x y => by rw [pu_r, if_neg y, pu_r, if_neg x], by rw [pu_r, if_neg (by decide), pu_r, if_pos rfl], by rw [pu_r, if_pos rfl], fun p x y => by rw [pu_a (by omega), pu_a (by omega), if_neg (by omega)]; omega⟩
    · intro k q i a0 b0 ⟨q1, q2, q3, q4, q5, q6⟩
      left
      have w := hw i a0 b0
      have qi := q6 i a0 b0
      rw [if_neg (by omega)] at qi
      have qi' : q (g' + 3) i = F (g' + 3) i := by rw [q2 _ (by omega) (by omega)]
      refine ⟨pd_up q (g + 3) i (q (g + 3) i + F (g' + 3) i), ⟨q1.up (pl_rc0 sg3 (by decide)), fun a x y => by rw [pu_a y]; exact q2 a x y, fun j x y => by rw [pu_a (by omega)]; exact q3 j x y, by rw [pu_a (by omega)]; exact q4, by rw [pu_a (by omega)]; exact q5, fun p x y => ?_⟩, ?_⟩
      · rw [pu_r]
        by_cases e : p = i
        · rw [if_pos e, if_pos (by omega), qi, e]; omega
        · rw [if_neg e, q6 p x y]
          by_cases z : p < i
          · rw [if_pos z, if_pos (by omega)]
          · rw [if_neg z, if_neg (by omega)]
      · show pfX2_goThrough_b42 (pd_SH sT) 5000 (k + 1) q g g' i = _
        simp only [pfX2_goThrough_b42, pl_l, pl_b, pl_iT, pl_t, pl_f, pl_ob sg, pl_ob sg', (l2 q q1).1, (l2 q q1).2, pl_ln sg3, pl_ib sg3, pl_ib sg3', qi']
        rw [pl_i (by decide), if_neg (by omega), pl_i (by omega), pl_i (by omega), pl_w (by omega), pl_w (by omega)]
    · intro k q ⟨q1, q2, q3, q4, q5, q6⟩
      refine ⟨q, ?_, q1, q2, q3, q4, q5, fun p x y => by rw [q6 p x y, if_pos y]⟩
      show pfX2_goThrough_b42 (pd_SH sT) 5000 (k + 1) q g g' _ = _
      simp only [pfX2_goThrough_b42, pl_l, pl_b, pl_iT, pl_t, pl_f, pl_ob sg, (l2 q q1).1, pl_ln sg3]
      rw [pl_i (by decide), if_pos (by decide)]
  rw [e7, e7']
  unfold pfX2_goThrough_b32
  by_cases z : F g 7 ≠ 0
  · rw [if_pos z, if_pos z]; exact go 1 (Or.inr rfl)
  · rw [if_neg z, if_neg z]
    by_cases y : F g' 7 = 0
    · rw [if_pos y, if_pos y]; exact go 0 (Or.inl rfl)
    · rw [if_neg y, if_neg y]; exact go 1 (Or.inr rfl)
/-- a list's line ends: what holds of it is reckoned -/
theorem c_settle {D : pd_F} {b l nt np : Int} (hL : pd_Ly F) (hb : aB b) (hl : 0 ≤ l ∧ l < 15) (hnp : np ≤ 12) (h0 : 0 ≤ nt ∧ nt ≤ 5) (hlt : nt ≤ l) (ho : lOk np (D 381) (D 382) (D 383) l nt) (ht : ∀ t, 0 ≤ t → t < nt → lOk np (D 381) (D 382) (D 383) t t ∧ kG D F b t)
    (hm : F (b + 34 + 4 * l) 3 = D 381 l) (hp : ∀ i, 0 ≤ i → i < D 381 l → F (b + 34 + 4 * l + 1) i = pcl (D 382 (5 * l + i)) ∧ F (b + 34 + 4 * l + 2) i = D 383 (5 * l + i)) :
    ∃ F', pfX2_settle (pd_SH sT) 5000 F (b + 34 + 4 * l) (b + 2) = some F' ∧ pd_Ly F' ∧ (∀ a, a ≠ b + 34 + 4 * l → a ≠ b + 34 + 4 * l + 3 → F' a = F a) ∧ (∀ j, j ≠ 5 → j ≠ 6 → j ≠ 7 → F' (b + 34 + 4 * l) j = F (b + 34 + 4 * l) j) ∧ kG D F' b l := by
  have b5 := aB_5 hb
  obtain ⟨-, -, s2, -⟩ := sh_b (sT := sT) hb
  obtain ⟨-, -, -, sg, sg1, sg2, sg3⟩ := fy_g (sT := sT) hL hb hl.1 hl.2
  have lg : ∀ H : pd_F, pd_Ly H → H (b + 34 + 4 * l) 0 = b + 34 + 4 * l + 1 ∧ H (b + 34 + 4 * l) 1 = b + 34 + 4 * l + 2 ∧ H (b + 34 + 4 * l) 2 = b + 34 + 4 * l + 3 := fun H hH => by
    obtain ⟨x1, x2, x3, -⟩ := fy_g (sT := sT) hH hb hl.1 hl.2
    exact ⟨x1, x2, x3⟩
  obtain ⟨g, hg⟩ : ∃ g, b + 34 + 4 * l = g := ⟨_, rfl⟩
  have ho' := ho
  have bw := fun j x y => lW_bd ho (j := j) x y
  have p5 := ho.2.1
  unfold kG
  rw [hg] at sg sg1 sg2 sg3 lg hm hp ⊢
  -- what the sums are made of
  have f7 : ∀ t, 0 ≤ t → t < nt → (lFl (D 381) (D 382) (D 383) 7 t ↔ lFl (D 381) (D 382) (D 383) 8 t) ∧ lDp (D 381) (D 382) 7 t = lDp (D 381) (D 382) 8 t ∧ ∀ p, lWy (D 381) (D 382) 7 t p = lWy (D 381) (D 382) 8 t p := fun t x y => l_fu hnp 7 t t (ht t x y).1 (fun u v w => (ht u v (by omega)).1) x (by omega)
  obtain ⟨fd, hfd⟩ : ∃ f : Int → Int, f = fun i => if D 382 (5 * l + i) < 16 then 1 else 1 + lDp (D 381) (D 382) 7 (D 382 (5 * l + i) - 16) := ⟨_, rfl⟩
  obtain ⟨fw, hfw⟩ : ∃ f : Int → Int → Int, f = fun p i => if D 382 (5 * l + i) = p then 1 else if 16 ≤ D 382 (5 * l + i) then lWy (D 381) (D 382) 7 (D 382 (5 * l + i) - 16) p else 0 := ⟨_, rfl⟩
  have hpart : ∀ i, 0 ≤ i → i < D 381 l → (0 ≤ D 382 (5 * l + i) ∧ D 382 (5 * l + i) < np) ∨ (16 ≤ D 382 (5 * l + i) ∧ D 382 (5 * l + i) < 16 + nt) := fun i x y => (ho.2.2 i x y).1
  have w7 : ∀ t p, 0 ≤ t → t < nt → 0 ≤ lWy (D 381) (D 382) 7 t p ∧ lWy (D 381) (D 382) 7 t p ≤ 78125 := fun t p x y => by
    have := lWy_bd hnp 7 t t p (ht t x y).1 (fun u v w => (ht u v (by omega)).1)
    have e : ((5 ^ 7 : Nat) : Int) = 78125 := by decide
    omega
  have d7 : ∀ t, 0 ≤ t → t < nt → 1 ≤ lDp (D 381) (D 382) 7 t ∧ lDp (D 381) (D 382) 7 t ≤ 8 := fun t x y => by
    have := lDp_bd hnp 7 t t (ht t x y).1 (fun u v w => (ht u v (by omega)).1)
    omega
  have fwb : ∀ p i, 0 ≤ i → i < D 381 l → 0 ≤ fw p i ∧ fw p i ≤ 78125 := fun p i x y => by
    have e : fw p i = if D 382 (5 * l + i) = p then 1 else if 16 ≤ D 382 (5 * l + i) then lWy (D 381) (D 382) 7 (D 382 (5 * l + i) - 16) p else 0 := by rw [hfw]
    rw [e]
    by_cases z : D 382 (5 * l + i) = p
    · rw [if_pos z]; omega
    rw [if_neg z]
    by_cases w : 16 ≤ D 382 (5 * l + i)
    · rw [if_pos w]
      have := hpart i x y
      exact w7 _ p (by omega) (by omega)
    · rw [if_neg w]; omega
  have Swb : ∀ p j, 0 ≤ j → j ≤ D 381 l → 0 ≤ Sm (fw p) j ∧ Sm (fw p) j ≤ 390625 := fun p j x y => by
    have := Sm_bd (f := fw p) (lo := 0) (hi := 78125) (n := j) x (fun i u v => fwb p i u (by omega))
    omega
  unfold pfX2_settle
  simp only [pl_l, pl_b, pl_iT, pl_t, pl_f, pl_ob sg]
  -- the ways are none at first
  have h3 : pd_Ly (pd_up (pd_up (pd_up F g 5 0) g 6 1) g 7 0) := ((hL.up (pl_rc4 sg (by decide))).up (pl_rc4 sg (by decide))).up (pl_rc4 sg (by decide))
  refine pl_for (f := fun j (q : pd_F) i => pfX2_settle_b17 (pd_SH sT) 5000 j q g (b + 2) i) (P := fun i q => pd_Ly q ∧ (∀ a, a ≠ g → a ≠ g + 3 → q a = F a) ∧ (∀ j, j ≠ 5 → j ≠ 6 → j ≠ 7 → q g j = F g j) ∧ (q g 5 = 0 ∧ q g 6 = 1 ∧ q g 7 = 0) ∧ ∀ p, 0 ≤ p → p < i → q (g + 3) p = 0) (N := 12)
    (res := fun o => ∃ F', o = some F' ∧ pd_Ly F' ∧ (∀ a, a ≠ g → a ≠ g + 3 → F' a = F a) ∧ (∀ j, j ≠ 5 → j ≠ 6 → j ≠ 7 → F' g j = F g j) ∧ F' g 3 = D 381 l ∧ F' g 5 = lW (D 383) l (D 381 l) ∧ F' g 7 = ci (lFl (D 381) (D 382) (D 383) 8 l) 1 0 ∧ F' g 6 = lDp (D 381) (D 382) 8 l ∧ (∀ p, 0 ≤ p → p < 12 → F' (g + 3) p = lWy (D 381) (D 382) 8 l p) ∧ ∀ i, 0 ≤ i → i < D 381 l → F' (g + 1) i = pcl (D 382 (5 * l + i)) ∧ F' (g + 2) i = D 383 (5 * l + i)) ?_ ?_ 5000 _ 0 (by omega) (by omega) (by omega)
    ⟨h3, fun a x y => by rw [pu_a x, pu_a x, pu_a x], fun j x y z => by rw [pu_r, if_neg z, pu_r, if_neg y, pu_r, if_neg x], ⟨by rw [pu_r, if_neg (by decide), pu_r, if_neg (by decide), pu_r, if_pos rfl], by rw [pu_r, if_neg (by decide), pu_r, if_pos rfl], by rw [pu_r, if_pos rfl]⟩, fun p x y => by omega⟩
  · intro k q i a0 b0 ⟨q1, q2, q3, q4, q5⟩
    left
    refine ⟨pd_up q (g + 3) i 0, ⟨q1.up (pl_rc0 sg3 (by decide)), fun a x y => by rw [pu_a y]; exact q2 a x y, fun j x y z => by rw [pu_a (by omega)]; exact q3 j x y z, by rw [pu_a (by omega)]; exact q4, fun p x y => ?_⟩, ?_⟩
    · rw [pu_r]
      by_cases e : p = i
      · rw [if_pos e]
      · rw [if_neg e]; exact q5 p x (by omega)
    · show pfX2_settle_b17 (pd_SH sT) 5000 (k + 1) q g (b + 2) i = _
      simp only [pfX2_settle_b17, pl_l, pl_b, pl_iT, pl_t, pl_f, pl_ob sg, (lg q q1).2.2, pl_ln sg3, pl_ib sg3]
      rw [pl_i (by decide), if_neg (by omega), pl_i (by omega), pl_w (by omega)]
  intro k q ⟨q1, q2, q3, q4, q5⟩
  show ∃ F', pfX2_settle_b17 (pd_SH sT) 5000 (k + 1) q g (b + 2) _ = some F' ∧ _
  simp only [pfX2_settle_b17, pl_l, pl_b, pl_iT, pl_t, pl_f, pl_ob sg, (lg q q1).2.2, pl_ln sg3]
  rw [pl_i (by decide), if_pos (by decide)]
  unfold pfX2_settle_b39
  clear k
  -- the parts
  refine pl_for (f := fun j (q : pd_F) i => pfX2_settle_b41 (pd_SH sT) 5000 j q g (b + 2) i) (P := fun i q => pd_Ly q ∧ (∀ a, a ≠ g → a ≠ g + 3 → q a = F a) ∧ (∀ j, j ≠ 5 → j ≠ 6 → j ≠ 7 → q g j = F g j) ∧ q g 5 = lW (D 383) l i ∧ (q g 6 = Mx fd i ∧ 1 ≤ q g 6) ∧ q g 7 = ci (∃ j, 0 ≤ j ∧ j < i ∧ 16 ≤ D 382 (5 * l + j) ∧ lFl (D 381) (D 382) (D 383) 7 (D 382 (5 * l + j) - 16)) 1 0 ∧ ∀ p, 0 ≤ p → p < 12 → q (g + 3) p = Sm (fw p) i) (N := D 381 l)
    (res := fun o => ∃ F', o = some F' ∧ pd_Ly F' ∧ (∀ a, a ≠ g → a ≠ g + 3 → F' a = F a) ∧ (∀ j, j ≠ 5 → j ≠ 6 → j ≠ 7 → F' g j = F g j) ∧ F' g 3 = D 381 l ∧ F' g 5 = lW (D 383) l (D 381 l) ∧ F' g 7 = ci (lFl (D 381) (D 382) (D 383) 8 l) 1 0 ∧ F' g 6 = lDp (D 381) (D 382) 8 l ∧ (∀ p, 0 ≤ p → p < 12 → F' (g + 3) p = lWy (D 381) (D 382) 8 l p) ∧ ∀ i, 0 ≤ i → i < D 381 l → F' (g + 1) i = pcl (D 382 (5 * l + i)) ∧ F' (g + 2) i = D 383 (5 * l + i)) ?_ ?_ 5000 q 0 (by omega) ho.1 (by omega)
    ⟨q1, q2, q3, by rw [q4.1]; rfl, ⟨by rw [q4.2.1]; rfl, by rw [q4.2.1]; omega⟩, by rw [q4.2.2, ci_f (fun ⟨j, x, y, _⟩ => by omega)], fun p x y => by rw [q5 p x y]; rfl⟩
  · clear q1 q2 q3 q4 q5 q
    intro k q i a0 b0 ⟨q1, q2, q3, q4, ⟨q5, q5'⟩, q6, q7⟩
    left
    have hpi := hpart i a0 b0
    obtain ⟨pi1, pi2⟩ := hp i a0 b0
    have wi := (ho.2.2 i a0 b0).2
    have wl := bw i a0 (by omega)
    have qp : q (g + 1) i = pcl (D 382 (5 * l + i)) := by rw [q2 _ (by omega) (by omega)]; exact pi1
    have qw : q (g + 2) i = D 383 (5 * l + i) := by rw [q2 _ (by omega) (by omega)]; exact pi2
    have q3' : q g 3 = D 381 l := by rw [q3 3 (by decide) (by decide) (by decide)]; exact hm
    have u1 : pd_Ly (pd_up q g 5 (lW (D 383) l i + D 383 (5 * l + i))) := q1.up (pl_rc4 sg (by decide))
    have up1 : pd_up q g 5 (lW (D 383) l i + D 383 (5 * l + i)) (g + 1) i = pcl (D 382 (5 * l + i)) := by rw [pu_a (by omega)]; exact qp
    have up3 : pd_up q g 5 (lW (D 383) l i + D 383 (5 * l + i)) (g + 3) = q (g + 3) := pu_a (by omega)
    have eW : lW (D 383) l (i + 1) = lW (D 383) l i + D 383 (5 * l + i) := Sm_s a0
    have st : ∀ {R : pd_F}, (∀ c41 : pd_F → Int → Int → Int → Option pd_F, True) → True := fun _ => trivial
    by_cases c : D 382 (5 * l + i) < 16
    · -- a person
      have ep : pcl (D 382 (5 * l + i)) = D 382 (5 * l + i) := by unfold pcl; rw [if_pos c]
      rw [ep] at up1
      obtain ⟨r, hr⟩ : ∃ r, D 382 (5 * l + i) = r := ⟨_, rfl⟩
      rw [hr] at up1 hpi c
      have hr0 : 0 ≤ r ∧ r < 12 := by omega
      have sb := Swb r i a0 (by omega)
      have q7r := q7 r hr0.1 hr0.2
      refine ⟨pd_up (pd_up q g 5 (lW (D 383) l i + D 383 (5 * l + i))) (g + 3) r (q (g + 3) r + 1), ⟨u1.up (pl_rc0 sg3 (by decide)), fun a x y => by rw [pu_a y, pu_a x]; exact q2 a x y, fun j x y z => by rw [pu_a (by omega), pu_r, if_neg x]; exact q3 j x y z, by rw [pu_a (by omega), pu_r, if_pos rfl, eW], ⟨?_, ?_⟩, ?_, fun p x y => ?_⟩, ?_⟩
      · rw [pu_a (by omega), pu_r, if_neg (by decide), q5, Mx_s a0]
        have : fd i = 1 := by rw [hfd]; show (if D 382 (5 * l + i) < 16 then _ else _) = _; rw [hr, if_pos c]
        rw [this]
        omega
      · rw [pu_a (by omega), pu_r, if_neg (by decide)]; exact q5'
      · rw [pu_a (by omega), pu_r, if_neg (by decide), q6]
        refine ci_c ⟨fun ⟨j, x, y, z⟩ => ⟨j, x, by omega, z⟩, fun ⟨j, x, y, z, w⟩ => ⟨j, x, ?_, z, w⟩⟩
        rcases Int.lt_or_le j i with e | e
        · exact e
        · have : j = i := by omega
          rw [this, hr] at z
          omega
      · have ew : fw p i = if r = p then 1 else 0 := by
          rw [hfw]
          show (if D 382 (5 * l + i) = p then _ else if 16 ≤ D 382 (5 * l + i) then _ else _) = _
          rw [hr]
          by_cases e : r = p
          · rw [if_pos e, if_pos e]
          · rw [if_neg e, if_neg e, if_neg (by omega)]
        rw [Sm_s a0, ew, pu_r]
        by_cases e : p = r
        · rw [if_pos e, if_pos e.symm, ← e, q7 p x y]
        · rw [if_neg e, if_neg (fun z => e z.symm), up3, q7 p x y]; omega
      · show pfX2_settle_b41 (pd_SH sT) 5000 (k + 1) q g (b + 2) i = _
        simp only [pfX2_settle_b41, pl_l, pl_b, pl_iT, pl_t, pl_f, pl_ob sg, (lg q q1).2.1, q3', pl_ib sg2, q4, qw]
        rw [if_neg (by omega), pl_i (by omega), pl_w (x := lW (D 383) l i + D 383 (5 * l + i)) (by omega)]
        simp only [pl_l, pl_b, pl_iT, pl_t, pl_f, (lg _ u1).1, (lg _ u1).2.2, pl_ib sg1, up1, pl_ln sg3, pl_ib sg3, up3]
        rw [pl_i (by omega), if_neg (by omega), pl_i (by decide), if_neg (by omega), pl_i (by omega), pl_w (by omega)]
        unfold pfX2_settle_b122
        simp only [pl_l, pl_b, pl_iT, pl_t, pl_f]
        rw [pl_w (by omega)]
    · -- a trust
      have ep : pcl (D 382 (5 * l + i)) = D 382 (5 * l + i) - 4 := by unfold pcl; rw [if_neg c]
      rw [ep] at up1
      obtain ⟨t, hr⟩ : ∃ t, D 382 (5 * l + i) = 16 + t := ⟨D 382 (5 * l + i) - 16, by omega⟩
      rw [hr] at up1 hpi c
      have t0 : 0 ≤ t ∧ t < nt := by omega
      obtain ⟨ot, kt⟩ := ht t t0.1 t0.2
      obtain ⟨k3, k5, k7, k6, kw, kp⟩ := kt
      obtain ⟨g', hg'⟩ : ∃ g', b + 34 + 4 * t = g' := ⟨_, rfl⟩
      obtain ⟨-, -, -, sh', -, -, sh3'⟩ := fy_g (sT := sT) hL hb (i := t) (by omega) (by omega)
      have lt' : ∀ H : pd_F, pd_Ly H → H (b + 2) t = g' := fun H hH => by rw [← hg']; exact fy_tr hH hb (by omega) (by omega)
      have l2' : ∀ H : pd_F, pd_Ly H → H g' 2 = g' + 3 := fun H hH => by rw [← hg']; exact (fy_g (sT := sT) hH hb (i := t) (by omega) (by omega)).2.2.1
      rw [hg'] at k3 k5 k7 k6 kw sh' sh3'
      have far : g + 3 < g' ∨ g' + 3 < g := by omega
      have ug' : ∀ a, a = g' ∨ a = g' + 3 → pd_up q g 5 (lW (D 383) l i + D 383 (5 * l + i)) a = F a := fun a x => by rw [pu_a (by omega)]; exact q2 a (by omega) (by omega)
      obtain ⟨f1, f2, f3⟩ := f7 t t0.1 t0.2
      have dt := d7 t t0.1 t0.2
      obtain ⟨H, v1, v2, v3, v4, v5, v6, v7⟩ := c_goThrough (sT := sT) u1 (g := g) (g' := g') far sg sg3 sh' sh3' (fun H hH => ⟨(lg H hH).2.2, l2' H hH⟩) (by rw [ug' g' (Or.inl rfl), k6, ← f2]; omega) (fun p x y => by
        rw [up3, ug' (g' + 3) (Or.inr rfl), q7 p x y, kw p x y, ← f3 p]
        have s1 := Swb p i a0 (by omega)
        have s2 := w7 t p t0.1 t0.2
        omega)
      have u6 : pd_up q g 5 (lW (D 383) l i + D 383 (5 * l + i)) g 6 = q g 6 := by rw [pu_r, if_neg (by decide)]
      have u7 : pd_up q g 5 (lW (D 383) l i + D 383 (5 * l + i)) g 7 = q g 7 := by rw [pu_r, if_neg (by decide)]
      rw [u6, ug' g' (Or.inl rfl), k6, ← f2, q5] at v5
      rw [u7, ug' g' (Or.inl rfl), k7] at v6
      have efd : fd i = 1 + lDp (D 381) (D 382) 7 t := by
        rw [hfd]
        show (if D 382 (5 * l + i) < 16 then _ else 1 + lDp (D 381) (D 382) 7 (D 382 (5 * l + i) - 16)) = _
        rw [hr, if_neg c, show 16 + t - 16 = t by omega]
      refine ⟨H, ⟨v2, fun a x y => by rw [v3 a x y, pu_a x]; exact q2 a x y, fun j x y z => by rw [v4 j y z, pu_r, if_neg x]; exact q3 j x y z, by rw [v4 5 (by decide) (by decide), pu_r, if_pos rfl, eW], ⟨?_, ?_⟩, ?_, fun p x y => ?_⟩, ?_⟩
      · rw [v5, Mx_s a0, efd, Int.add_comm 1]
      · rw [v5, ← q5]; omega
      · rw [v6, q6]
        have cc : (∃ j, 0 ≤ j ∧ j < i + 1 ∧ 16 ≤ D 382 (5 * l + j) ∧ lFl (D 381) (D 382) (D 383) 7 (D 382 (5 * l + j) - 16)) ↔ (∃ j, 0 ≤ j ∧ j < i ∧ 16 ≤ D 382 (5 * l + j) ∧ lFl (D 381) (D 382) (D 383) 7 (D 382 (5 * l + j) - 16)) ∨ lFl (D 381) (D 382) (D 383) 8 t := by
          constructor
          · rintro ⟨j, x, y, z, w⟩
            by_cases e : j = i
            · rw [e, hr, show 16 + t - 16 = t by omega] at w
              exact Or.inr (f1.mp w)
            · exact Or.inl ⟨j, x, by omega, z, w⟩
          · rintro (⟨j, x, y, z, w⟩ | w)
            · exact ⟨j, x, by omega, z, w⟩
            · exact ⟨i, a0, by omega, by omega, by rw [hr, show 16 + t - 16 = t by omega]; exact f1.mpr w⟩
        rw [ci_c cc]
        rcases Classical.em (∃ j, 0 ≤ j ∧ j < i ∧ 16 ≤ D 382 (5 * l + j) ∧ lFl (D 381) (D 382) (D 383) 7 (D 382 (5 * l + j) - 16)) with z | z
        · rw [ci_t z, if_pos (by decide), ci_t (Or.inl z)]
        · rw [ci_f z, if_neg (by decide)]
          rcases Classical.em (lFl (D 381) (D 382) (D 383) 8 t) with y | y
          · rw [ci_t y, if_neg (by decide), ci_t (Or.inr y)]
          · rw [ci_f y, if_pos rfl, ci_f (fun w => w.elim z y)]
      · have ew : fw p i = lWy (D 381) (D 382) 7 t p := by
          rw [hfw]
          show (if D 382 (5 * l + i) = p then _ else if 16 ≤ D 382 (5 * l + i) then lWy (D 381) (D 382) 7 (D 382 (5 * l + i) - 16) p else _) = _
          rw [hr, if_neg (by omega), if_pos (by omega), show 16 + t - 16 = t by omega]
        rw [v7 p x y, up3, ug' (g' + 3) (Or.inr rfl), q7 p x y, kw p x y, Sm_s a0, ew, f3 p]
      · show pfX2_settle_b41 (pd_SH sT) 5000 (k + 1) q g (b + 2) i = _
        simp only [pfX2_settle_b41, pl_l, pl_b, pl_iT, pl_t, pl_f, pl_ob sg, (lg q q1).2.1, q3', pl_ib sg2, q4, qw]
        rw [if_neg (by omega), pl_i (by omega), pl_w (x := lW (D 383) l i + D 383 (5 * l + i)) (by omega)]
        simp only [pl_l, pl_b, pl_iT, pl_t, pl_f, (lg _ u1).1, (lg _ u1).2.2, pl_ib sg1, up1, pl_ln sg3]
        rw [pl_i (by omega), if_neg (by omega), pl_i (by decide), if_pos (by omega)]
        unfold pfX2_settle_b97 pfX2_settle_b122
        rw [if_neg (by omega), show 16 + t - 4 - 12 = t by omega, pl_w (x := t) (by omega)]
        simp only [pl_l, pl_b, pl_iT, pl_t, pl_f, pl_ln s2, pl_ib s2, pl_ob sg, lt' _ u1, v1]
        rw [pl_i (by decide), if_neg (by omega), pl_i (by omega), pl_w (by omega)]
  · clear q1 q2 q3 q4 q5 q
    intro k q ⟨q1, q2, q3, q4, ⟨q5, q5'⟩, q6, q7⟩
    have q3' : q g 3 = D 381 l := by rw [q3 3 (by decide) (by decide) (by decide)]; exact hm
    have ed : Mx fd (D 381 l) = lDp (D 381) (D 382) 8 l := by rw [hfd]; rfl
    have ew : ∀ p, Sm (fw p) (D 381 l) = lWy (D 381) (D 382) 8 l p := fun p => by rw [hfw]; rfl
    have cells : ∀ H : pd_F, (∀ a, a ≠ g → a ≠ g + 3 → H a = F a) → ∀ i, 0 ≤ i → i < D 381 l → H (g + 1) i = pcl (D 382 (5 * l + i)) ∧ H (g + 2) i = D 383 (5 * l + i) := fun H hH i x y => by
      rw [hH _ (by omega) (by omega), hH _ (by omega) (by omega)]; exact hp i x y
    show ∃ F', pfX2_settle_b41 (pd_SH sT) 5000 (k + 1) q g (b + 2) _ = some F' ∧ _
    simp only [pfX2_settle_b41, pl_l, pl_b, pl_iT, pl_t, pl_f, pl_ob sg, q3']
    rw [if_pos (by omega)]
    unfold pfX2_settle_b128
    simp only [pl_l, pl_b, pl_iT, pl_t, pl_f, pl_ob sg, q4]
    by_cases z : lW (D 383) l (D 381 l) = 0
    · rw [if_neg (fun e => e z)]
      refine ⟨pd_up q g 7 1, rfl, q1.up (pl_rc4 sg (by decide)), fun a x y => by rw [pu_a x]; exact q2 a x y, fun j x y w => by rw [pu_r, if_neg w]; exact q3 j x y w, by rw [pu_r, if_neg (by decide)]; exact q3', by rw [pu_r, if_neg (by decide)]; exact q4, by rw [pu_r, if_pos rfl, ci_t (lFl_s.mpr (Or.inl z))], by rw [pu_r, if_neg (by decide), q5, ed], fun p x y => by rw [pu_a (by omega), q7 p x y, ew], cells _ (fun a x y => by rw [pu_a x]; exact q2 a x y)⟩
    · rw [if_pos z]
      refine ⟨q, rfl, q1, q2, q3, q3', q4, ?_, by rw [q5, ed], fun p x y => by rw [q7 p x y, ew], cells _ q2⟩
      rw [q6]
      exact ci_c ⟨fun w => lFl_s.mpr (Or.inr w), fun w => (lFl_s.mp w).elim (fun e => absurd e z) id⟩
end ST

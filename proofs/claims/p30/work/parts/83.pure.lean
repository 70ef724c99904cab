variable {sT : pd_S}
/-! the class: its book against the reference's, shares -/
def nm (x8 x5 f : Int) : Prop := ∃ (c : Nat → Int) (n : Nat), (1 ≤ n ∧ n ≤ 8) ∧ (∀ k, k < n → 1 ≤ c k ∧ c k ≤ 26) ∧ x8 = w8 c n ∧ x5 = w5 c n ∧ f = c 0 - 1
/-- a part's number in the class: trusts behind twelve persons -/
def pcl (r : Int) : Int := if r < 16 then r else r - 4
def kG (D F : pd_F) (b l : Int) : Prop := F (b + 34 + 4 * l) 3 = D 381 l ∧ F (b + 34 + 4 * l) 5 = lW (D 383) l (D 381 l) ∧ F (b + 34 + 4 * l) 7 = ci (lFl (D 381) (D 382) (D 383) 8 l) 1 0 ∧ F (b + 34 + 4 * l) 6 = lDp (D 381) (D 382) 8 l ∧
  (∀ p, 0 ≤ p → p < 12 → F (b + 34 + 4 * l + 3) p = lWy (D 381) (D 382) 8 l p) ∧ ∀ i, 0 ≤ i → i < D 381 l → F (b + 34 + 4 * l + 1) i = pcl (D 382 (5 * l + i)) ∧ F (b + 34 + 4 * l + 2) i = D 383 (5 * l + i)
def kP (D F : pd_F) (b p : Int) : Prop := F (b + 10 + 2 * p) 1 = D 375 p ∧ (∀ k, 0 ≤ k → k < D 375 p → F (b + 10 + 2 * p + 1) k = D 376 (3 * p + k)) ∧ F (b + 10 + 2 * p) 4 = D 377 p ∧ nm (F (b + 10 + 2 * p) 2) (D 374 p) (F (b + 10 + 2 * p) 3)
/-- the marks told, and who has them -/
def kM (D F : pd_F) (b : Int) : Prop := (0 ≤ F b 14 ∧ F b 14 ≤ 36) ∧ (∀ i j, 0 ≤ i → i < F b 14 → 0 ≤ j → j < F b 14 → F (b + 8) i = F (b + 8) j → i = j) ∧ (∀ i, 0 ≤ i → i < F b 14 → isMk D (F (b + 8) i)) ∧ (∀ m, isMk D m → ∃ i, 0 ≤ i ∧ i < F b 14 ∧ F (b + 8) i = m) ∧
  ∀ i, 0 ≤ i → i < F b 14 → bR (F (b + 9) i) (fun q => q < D 369 0 ∧ Hk (D 375) (D 376) q (F (b + 8) i))
/-- the class's book b is the book D -/
def kB (D F : pd_F) (b : Int) : Prop := F b 9 = D 369 0 ∧ F b 10 = D 370 0 ∧ F b 11 = D 371 0 ∧ F b 12 = D 372 0 ∧ F b 13 = D 373 0 ∧ (∀ p, 0 ≤ p → p < D 369 0 → kP D F b p) ∧ (∀ t, 0 ≤ t → t < D 370 0 → kG D F b t) ∧ (∀ a, 0 ≤ a → a < D 371 0 → kG D F b (5 + a)) ∧
  (∀ h, 0 ≤ h → h < D 372 0 → F (b + 94 + h) 0 = D 384 h ∧ F (b + 94 + h) 1 = D 385 h ∧ F (b + 94 + h) 2 = D 386 h ∧ F (b + 94 + h) 3 = D 387 h) ∧ (∀ l, 0 ≤ l → l < D 373 0 → F (b + 100 + l) 0 = D 388 l ∧ F (b + 100 + l) 1 = D 389 l ∧ F (b + 100 + l) 2 = D 390 l ∧ F (b + 100 + l) 3 = 999) ∧ kM D F b
theorem kB.fr {D F G : pd_F} {b : Int} (h : kB D F b) (hb : aB b) (hD : bOk D) (e : ∀ a, b ≤ a → a ≤ b + 107 → G a = F a) : kB D G b := by
  have n0 := hD.1.1
  have n1 := hD.1.2.1
  have n3 := hD.1.2.2.2.1
  have n5 := hD.1.2.2.2.2.2.1
  have n7 := hD.2.2.1.2
  have n9 := hD.2.2.2.1.2
  unfold kB kM
  rw [e b (by omega) (by omega), e (b + 8) (by omega) (by omega), e (b + 9) (by omega) (by omega)]
  obtain ⟨h1, h2, h3, h4, h5, h6, h7, h8, h9, h10, h11⟩ := h
  have gg : ∀ l, 0 ≤ l → l < 15 → kG D F b l → kG D G b l := fun l a c k => by
    unfold kG
    rw [e (b + 34 + 4 * l) (by omega) (by omega), e (b + 34 + 4 * l + 1) (by omega) (by omega), e (b + 34 + 4 * l + 2) (by omega) (by omega), e (b + 34 + 4 * l + 3) (by omega) (by omega)]
    exact k
  refine ⟨h1, h2, h3, h4, h5, fun p a c => ?_, fun t a c => gg t a (by omega) (h7 t a c), fun t a c => gg (5 + t) (by omega) (by omega) (h8 t a c), fun t a c => ?_, fun t a c => ?_, h11⟩
  · have := h6 p a c
    unfold kP at this ⊢
    rw [e (b + 10 + 2 * p) (by omega) (by omega), e (b + 10 + 2 * p + 1) (by omega) (by omega)]
    exact this
  · rw [e (b + 94 + t) (by omega) (by omega)]; exact h9 t a c
  · rw [e (b + 100 + t) (by omega) (by omega)]; exact h10 t a c
/-- rows of shares -/
def aR (r : Int) : Prop := (214 ≤ r ∧ r < 224) ∨ (225 ≤ r ∧ r < 231)
theorem sh_r {r : Int} {F : pd_F} (hL : pd_Ly F) (h : aR r) : pd_sh (pd_SH sT) r = some (0, 0, 12) := by
  rcases h with h | h
  · have := (fy_oa (sT := sT) hL (i := r - 214) (by omega) (by omega)).2
    rw [show 214 + (r - 214) = r by omega] at this
    exact this
  · have := (fy_oh (sT := sT) hL (i := r - 225) (by omega) (by omega)).2
    rw [show 225 + (r - 225) = r by omega] at this
    exact this
section SO
variable {D : pd_F} {b : Int}
theorem c_shareOut (hb : aB b) (hD : bOk D) : ∀ (k : Nat) (F : pd_F) (l nt v r x : Int), pd_Ly F → kB D F b → aR r → k ≤ 8 → (0 ≤ l ∧ l < 15) → lOk (D 369 0) (D 381) (D 382) (D 383) l nt → kG D F b l → 0 ≤ nt → nt ≤ D 370 0 → nt < k → 0 ≤ x → x + nt ≤ 5 → ¬ lFl (D 381) (D 382) (D 383) k l → 0 ≤ v ∧ v ≤ 9999999 → (∀ p, 0 ≤ p → p < 12 → 0 ≤ F r p ∧ F r p + v ≤ 20000000) →
    ∃ F', pfX7_shareOut (pd_SH sT) 5000 k F (b + 2) (b + 34 + 4 * l) v r x = some F' ∧ pd_Ly F' ∧ (∀ a, a ≠ r → F' a = F a) ∧ ∀ p, 0 ≤ p → p < 12 → F' r p = F r p + lGv (D 381) (D 382) (D 383) k l v p
  | 0, F, l, nt, v, r, x, hL, hk, hr, h8, hl, ho, hg, h0, h1, h2, hx, hx2, hf, hv, hgot => by omega
  | k + 1, F, l, nt, v, r, x, hL, hk, hr, h8, hl, ho, hg, h0, h1, h2, hx, hx2, hf, hv, hgot => by
    have hnp := hD.1.2.1
    have ht := bOk_tr hD
    have ht' : ∀ t, 0 ≤ t → t < nt → lOk (D 369 0) (D 381) (D 382) (D 383) t t := fun t a c => ht t a (by omega)
    have hw : lW (D 383) l (D 381 l) ≠ 0 := fun e => hf (Or.inl e)
    have hb0 := lW_bd ho ho.1 (Int.le_refl _)
    have hsum := fun p => lGs_bd (pm := D 381) (pt := D 382) (pw := D 383) hnp k l nt v p ho ht' (by omega) hf hv.1
    have hp5 := ho.2.1
    obtain ⟨k3, k5, k7, k6, kw, kp⟩ := hg
    have srow := sh_r (sT := sT) hL hr
    obtain ⟨t1, t2, t3, sg, sg1, sg2, sg3⟩ := fy_g (sT := sT) hL hb hl.1 hl.2
    have bsh := (sh_b (sT := sT) hb).2.2.1
    have rb : (r < b ∨ b + 107 < r) := by
      rcases hb with rfl | rfl <;> rcases hr with hr | hr <;> omega
    unfold pfX7_shareOut
    simp only [pl_l, pl_b, pl_iT, pl_t, pl_f, pl_ob sg, k5]
    rw [if_neg (by omega), if_pos (by omega)]
    generalize hW : lW (D 383) l (D 381 l) = W at hw hb0 k5
    refine pl_for (f := fun j (q : pd_F × Int × Int) i => pfX7_shareOut_b23 (pd_SH sT) 5000 (pfX7_shareOut (pd_SH sT) 5000 k) j q.1 (b + 2) (b + 34 + 4 * l) v r x q.2.1 q.2.2 i)
      (P := fun i q => pd_Ly q.1 ∧ (∀ a, a ≠ r → q.1 a = F a) ∧ q.2.1 = lW (D 383) l i ∧ q.2.2 = lUp (D 383) l W v i ∧ ∀ p, 0 ≤ p → p < 12 → q.1 r p = F r p + Sm (lGt (D 381) (D 382) (D 383) k l v p) i) (N := D 381 l)
      (res := fun o => ∃ F', o = some F' ∧ pd_Ly F' ∧ (∀ a, a ≠ r → F' a = F a) ∧ ∀ p, 0 ≤ p → p < 12 → F' r p = F r p + lGv (D 381) (D 382) (D 383) (k + 1) l v p) ?_ ?_ 5000 (F, 0, 0) 0 (by omega) ho.1 (by omega)
      ⟨hL, fun _ _ => rfl, rfl, by rw [lUp_0], fun p _ _ => by show F r p = _; rw [Sm_0]; omega⟩
    · intro j ⟨G, s, u⟩ i a0 b0 ⟨q1, q2, q3, q4, q5⟩
      simp only at q1 q2 q3 q4 q5
      left
      have hp := ho.2.2 i a0 b0
      have hkp := kp i a0 b0
      have eg : G (b + 34 + 4 * l) = F (b + 34 + 4 * l) := q2 _ (by omega)
      have eg1 : G (b + 34 + 4 * l + 1) = F (b + 34 + 4 * l + 1) := q2 _ (by omega)
      have eg2 : G (b + 34 + 4 * l + 2) = F (b + 34 + 4 * l + 2) := q2 _ (by omega)
      obtain ⟨u1, u2, u3, -, -, -, -⟩ := fy_g (sT := sT) q1 hb hl.1 hl.2
      have hs1 : lW (D 383) l (i + 1) = s + D 383 (5 * l + i) := by rw [q3]; unfold lW; rw [Sm_s a0]
      have hb1 := lW_bd ho (j := i + 1) (by omega) (by omega)
      have hm0 : 0 ≤ v * lW (D 383) l (i + 1) := Int.mul_nonneg hv.1 hb1.1
      have hm1 : v * lW (D 383) l (i + 1) ≤ 9999999 * 495 := Int.mul_le_mul hv.2 (by omega) hb1.1 (by decide)
      have hu := lUp_mono ho hv.1 (by rw [hW]; exact hw) a0 (show i ≤ i + 1 by omega) (by omega)
      have hu0 := lUp_bd ho hv.1 (by rw [hW]; exact hw) a0 (by omega)
      have hu1 := lUp_bd ho hv.1 (by rw [hW]; exact hw) (show 0 ≤ i + 1 by omega) (by omega)
      rw [hW] at hu hu0 hu1
      have hd : lUp (D 383) l W v (i + 1) = Int.tdiv (v * lW (D 383) l (i + 1)) W := rfl
      have hpart : ∀ p, 0 ≤ Sm (lGt (D 381) (D 382) (D 383) k l v p) i ∧ Sm (lGt (D 381) (D 382) (D 383) k l v p) i ≤ lUp (D 383) l W v i := fun p => by
        have z := hsum p i.toNat (by omega)
        rw [show ((i.toNat : Nat) : Int) = i by omega, hW] at z
        exact z
      generalize hT : lUp (D 383) l W v (i + 1) = T at hu hu1 hd
      by_cases g : D 382 (5 * l + i) < 16
      · have ep : pcl (D 382 (5 * l + i)) = D 382 (5 * l + i) := by unfold pcl; rw [if_pos g]
        rw [ep] at hkp
        refine ⟨(pd_up G r (D 382 (5 * l + i)) (G r (D 382 (5 * l + i)) + (T - u)), lW (D 383) l (i + 1), T), ⟨q1.up (pl_rc0 srow (by decide)), fun a ha => by dsimp only; rw [pu_a ha]; exact q2 a ha, rfl, rfl, ?_⟩, ?_⟩
        · intro p c d
          dsimp only
          have ht : lGt (D 381) (D 382) (D 383) k l v p i = if D 382 (5 * l + i) = p then T - u else 0 := by
            unfold lGt
            rw [if_neg (show ¬ 16 ≤ D 382 (5 * l + i) by omega), hW, hT, ← q4]
          rw [pu_r, Sm_s a0, ht]
          by_cases c2 : p = D 382 (5 * l + i)
          · rw [if_pos c2, if_pos c2.symm, ← c2, q5 p c d]; omega
          · rw [if_neg c2, if_neg (fun e => c2 e.symm), q5 p c d]; omega
        · show pfX7_shareOut_b23 (pd_SH sT) 5000 (pfX7_shareOut (pd_SH sT) 5000 k) (j + 1) G (b + 2) (b + 34 + 4 * l) v r x s u i = pfX7_shareOut_b23 (pd_SH sT) 5000 (pfX7_shareOut (pd_SH sT) 5000 k) j _ (b + 2) (b + 34 + 4 * l) v r x _ _ (i + 1)
          have hr1 := q5 (D 382 (5 * l + i)) (by omega) (by omega)
          have hr2 := hgot (D 382 (5 * l + i)) (by omega) (by omega)
          have hr3 := hpart (D 382 (5 * l + i))
          rw [hs1] at hd hm0 hm1 ⊢
          simp (disch := omega) only [pfX7_shareOut_b23, pfX7_shareOut_b138, pl_l, pl_b, pl_iT, pl_t, pl_f, pl_ob sg, pl_ib sg1, pl_ib sg2, pl_ib srow, pl_ln srow, u1, u2, eg, eg1, eg2, k3, k5, hkp.1, hkp.2, pl_w, pl_W, pl_i, if_pos, if_neg, ← hd]
      · have ep : pcl (D 382 (5 * l + i)) = D 382 (5 * l + i) - 4 := by unfold pcl; rw [if_neg g]
        rw [ep] at hkp
        have tt0 : 0 ≤ D 382 (5 * l + i) - 16 := by omega
        have tt1 : D 382 (5 * l + i) - 16 < nt := by omega
        have hfk : ¬ lFl (D 381) (D 382) (D 383) k (D 382 (5 * l + i) - 16) := fun e => hf (Or.inr ⟨i, a0, b0, by omega, e⟩)
        have n3 := hD.1.2.2.2.1
        have ih := c_shareOut hb hD k G (D 382 (5 * l + i) - 16) (D 382 (5 * l + i) - 16) (T - u) r (x + 1) q1 (hk.fr hb hD (fun a c d => q2 a (by omega))) hr (by omega) (by omega) (ht' _ tt0 tt1) ((hk.fr hb hD (fun a c d => q2 a (by omega))).2.2.2.2.2.2.1 _ tt0 (by omega)) tt0 (by omega) (by omega) (by omega) (by omega) hfk (by omega) (fun p c d => by
            have := q5 p c d; have := hgot p c d; have := hpart p; omega)
        obtain ⟨G', i1, i2, i3, i4⟩ := ih
        have etr := (fy_tr q1 hb (i := D 382 (5 * l + i) - 16) tt0 (by omega))
        refine ⟨(G', lW (D 383) l (i + 1), T), ⟨i2, fun a ha => (i3 a ha).trans (q2 a ha), rfl, rfl, ?_⟩, ?_⟩
        · intro p c d
          show G' r p = _
          rw [i4 p c d, q5 p c d, Sm_s a0]
          have : lGt (D 381) (D 382) (D 383) k l v p i = lGv (D 381) (D 382) (D 383) k (D 382 (5 * l + i) - 16) (T - u) p := by
            unfold lGt
            rw [if_pos (show 16 ≤ D 382 (5 * l + i) by omega), hW, hT, ← q4]
          rw [this]; omega
        · show pfX7_shareOut_b23 (pd_SH sT) 5000 (pfX7_shareOut (pd_SH sT) 5000 k) (j + 1) G (b + 2) (b + 34 + 4 * l) v r x s u i = pfX7_shareOut_b23 (pd_SH sT) 5000 (pfX7_shareOut (pd_SH sT) 5000 k) j _ (b + 2) (b + 34 + 4 * l) v r x _ _ (i + 1)
          have e16 : D 382 (5 * l + i) - 4 - 12 = D 382 (5 * l + i) - 16 := by omega
          rw [hs1] at hd hm0 hm1 ⊢
          simp (disch := omega) only [pfX7_shareOut_b23, pfX7_shareOut_b103, pfX7_shareOut_b138, pl_l, pl_b, pl_iT, pl_t, pl_f, pl_ob sg, pl_ib sg1, pl_ib sg2, pl_ln srow, pl_ln bsh, pl_ib bsh, u1, u2, eg, eg1, eg2, k3, k5, hkp.1, hkp.2, e16, etr, pl_w, pl_W, pl_i, if_pos, if_neg, ← hd, i1]
    · intro j ⟨G, s, u⟩ ⟨q1, q2, q3, q4, q5⟩
      simp only at q1 q2 q3 q4 q5
      have eg : G (b + 34 + 4 * l) = F (b + 34 + 4 * l) := q2 _ (by omega)
      refine ⟨G, ?_, q1, q2, fun p c d => ?_⟩
      · show pfX7_shareOut_b23 (pd_SH sT) 5000 (pfX7_shareOut (pd_SH sT) 5000 k) (j + 1) G (b + 2) (b + 34 + 4 * l) v r x s u _ = _
        simp (disch := omega) only [pfX7_shareOut_b23, pl_l, pl_b, pl_iT, pl_t, pl_f, pl_ob sg, eg, k3, if_pos]
      · rw [q5 p c d, lGv_s]
theorem c_shareOf (hb : aB b) (hD : bOk D) {F : pd_F} (hL : pd_Ly F) (hk : kB D F b) {a v r : Int} (hr : aR r) (ha : 0 ≤ a ∧ a < D 371 0) (hv : 0 ≤ v ∧ v ≤ 9999999) :
    ∃ F', pfX7_shareOf (pd_SH sT) 5000 F b a v r = some F' ∧ pd_Ly F' ∧ (∀ c, c ≠ r → F' c = F c) ∧ ∀ p, 0 ≤ p → p < 12 → F' r p = ci (lFl (D 381) (D 382) (D 383) 8 (5 + a)) 0 (lGv (D 381) (D 382) (D 383) 8 (5 + a) v p) := by
  have srow := sh_r (sT := sT) hL hr
  have n5 := hD.1.2.2.2.2.2.1
  have rb : (r < b ∨ b + 107 < r) := by
    rcases hb with rfl | rfl <;> rcases hr with hr | hr <;> omega
  unfold pfX7_shareOf
  refine pl_for (f := fun j (q : pd_F) i => pfX7_shareOf_b3 (pd_SH sT) 5000 j q b a v r i) (P := fun i q => pd_Ly q ∧ (∀ c, c ≠ r → q c = F c) ∧ ∀ p, 0 ≤ p → p < i → q r p = 0) (N := 12)
    (res := fun o => ∃ F', o = some F' ∧ pd_Ly F' ∧ (∀ c, c ≠ r → F' c = F c) ∧ ∀ p, 0 ≤ p → p < 12 → F' r p = ci (lFl (D 381) (D 382) (D 383) 8 (5 + a)) 0 (lGv (D 381) (D 382) (D 383) 8 (5 + a) v p)) ?_ ?_ 5000 F 0 (by omega) (by omega) (by omega) ⟨hL, fun _ _ => rfl, fun p a b => by omega⟩
  · intro j G i x y ⟨q1, q2, q3⟩
    refine Or.inl ⟨pd_up G r i 0, ⟨q1.up (pl_rc0 srow (by decide)), fun c hc => by rw [pu_a hc]; exact q2 c hc, fun p c d => ?_⟩, ?_⟩
    · rw [pu_r]
      split
      · rfl
      · exact q3 p c (by omega)
    · show pfX7_shareOf_b3 (pd_SH sT) 5000 (j + 1) G b a v r i = _
      simp (disch := omega) only [pfX7_shareOf_b3, pl_l, pl_b, pl_iT, pl_t, pl_f, pl_ln srow, pl_ib srow, pl_w, pl_i, if_neg]
  · intro j G ⟨q1, q2, q3⟩
    have hkG := hk.fr hb hD (G := G) (fun a c d => q2 a (by omega))
    have hg := hkG.2.2.2.2.2.2.2.1 a ha.1 ha.2
    obtain ⟨sb, -, -, sb3, -⟩ := sh_b (sT := sT) hb
    obtain ⟨-, l2, l3, -⟩ := ly_b q1 hb
    have eac := fy_ac q1 hb (i := a) ha.1 (by omega)
    obtain ⟨-, -, -, sg, -⟩ := fy_g (sT := sT) q1 hb (i := 5 + a) (by omega) (by omega)
    have na : b + 34 + 4 * (5 + a) ≠ 0 := by rcases hb with rfl | rfl <;> omega
    rcases Classical.em (lFl (D 381) (D 382) (D 383) 8 (5 + a)) with z | z
    · refine ⟨G, ?_, q1, q2, fun p c d => by rw [q3 p c d, ci_t z]⟩
      have e7 := hg.2.2.1
      rw [ci_t z] at e7
      show pfX7_shareOf_b3 (pd_SH sT) 5000 (j + 1) G b a v r _ = _
      simp (disch := omega) only [pfX7_shareOf_b3, pfX7_shareOf_b21, pl_l, pl_b, pl_iT, pl_t, pl_f, pl_ln srow, pl_ob sb, pl_ob sg, pl_ib sb3, hkG.2.2.1, l2, l3, eac, e7, pl_i, if_pos, if_neg]
    · have e7 := hg.2.2.1
      rw [ci_f z] at e7
      have n3 := hD.1.2.2.2.1
      obtain ⟨H, f1, f2, f3, f4⟩ := c_shareOut (sT := sT) hb hD 8 G (5 + a) (D 370 0) v r 0 q1 hkG hr (by omega) (by omega) (bOk_ac hD ha.1 ha.2) hg hD.1.2.2.1 (Int.le_refl _) (by omega) (by omega) (by omega) z hv (fun p c d => by rw [q3 p c d]; omega)
      refine ⟨H, ?_, f2, fun c hc => (f3 c hc).trans (q2 c hc), fun p c d => by rw [f4 p c d, q3 p c d, ci_f z]; omega⟩
      show pfX7_shareOf_b3 (pd_SH sT) 5000 (j + 1) G b a v r _ = _
      simp (disch := omega) only [pfX7_shareOf_b3, pfX7_shareOf_b21, pl_l, pl_b, pl_iT, pl_t, pl_f, pl_ln srow, pl_ob sb, pl_ob sg, pl_ib sb3, hkG.2.2.1, l2, l3, eac, e7, f1, pl_i, if_pos, if_neg]
/-- the shares as reckoned -/
def hP (D : pd_F) (s : Int → Int) (F : pd_F) : Prop := (∀ a p, 0 ≤ a → a < D 371 0 → 0 ≤ p → p < 12 → F (214 + a) p = gA D s a p) ∧ ∀ h p, 0 ≤ h → h < D 372 0 → 0 ≤ p → p < 12 → F (225 + h) p = gH D s h p
theorem c_sharesReckon (hb : aB b) (hD : bOk D) {F : pd_F} (hL : pd_Ly F) (hk : kB D F b) {st : Int} {s : Int → Int} (hst : st = 231) (hs : sR D F b st s) :
    ∃ F', pfX7_reckon (pd_SH sT) 5000 F 212 b st = some F' ∧ pd_Ly F' ∧ (∀ c, (c < 214 ∨ 230 < c) → F' c = F c) ∧ hP D s F' := by
  subst hst
  obtain ⟨sb, -, -, -, -, sb5, -⟩ := sh_b (sT := sT) hb
  obtain ⟨n0, n1, -⟩ := sh_s (sT := sT) aS_now
  have m5 := hD.1.2.2.2.2
  have m7 := hD.2.2.1
  have hbal := hs.1.1
  have ebal := hs.2.2.2.2.2.1
  have bo : ∀ a, b ≤ a → a ≤ b + 107 → (a < 214 ∨ 230 < a) := by
    rcases hb with rfl | rfl <;> intro a h1 h2 <;> omega
  -- highs
  have l35 : ∀ G : pd_F, pd_Ly G → (∀ c, (c < 214 ∨ 230 < c) → G c = F c) → (∀ a p, 0 ≤ a → a < D 371 0 → 0 ≤ p → p < 12 → G (214 + a) p = gA D s a p) → ∃ F', pfX7_reckon_b35 (pd_SH sT) 5000 5000 G 212 b 231 0 = some F' ∧ pd_Ly F' ∧ (∀ c, (c < 214 ∨ 230 < c) → F' c = F c) ∧ hP D s F' := by
    intro G g1 g2 g3
    refine pl_for (f := fun j (q : pd_F) i => pfX7_reckon_b35 (pd_SH sT) 5000 j q 212 b 231 i) (P := fun i q => pd_Ly q ∧ (∀ c, (c < 214 ∨ 230 < c) → q c = F c) ∧ (∀ a p, 0 ≤ a → a < D 371 0 → 0 ≤ p → p < 12 → q (214 + a) p = gA D s a p) ∧ ∀ h p, 0 ≤ h → h < i → 0 ≤ p → p < 12 → q (225 + h) p = gH D s h p) (N := D 372 0)
      (res := fun o => ∃ F', o = some F' ∧ pd_Ly F' ∧ (∀ c, (c < 214 ∨ 230 < c) → F' c = F c) ∧ hP D s F') ?_ ?_ 5000 G 0 (by omega) m7.1 (by omega) ⟨g1, g2, g3, fun h p a b => by omega⟩
    · intro j G i x y ⟨q1, q2, q3, q4⟩
      have hkG := hk.fr hb hD (G := G) (fun a c d => q2 a (bo a c d))
      have hh := hkG.2.2.2.2.2.2.2.2.1 i x y
      have hd := hD.2.2.2.2.1 i x y
      obtain ⟨eh, sh⟩ := fy_h (sT := sT) q1 hb (i := i) x (by omega)
      obtain ⟨-, -, -, -, l4, -⟩ := ly_b q1 hb
      have er := (fy_oh (sT := sT) q1 (i := i) x (by omega)).1
      have nz : b + 94 + i ≠ 0 := by rcases hb with rfl | rfl <;> omega
      have e232 : G (231 + 1) (D 384 i) = s (D 384 i) := by rw [q2 (231 + 1) (by omega)]; exact ebal _ hd.1.1 hd.1.2
      obtain ⟨v0, -⟩ := ly_s q1 aS_now
      have ebo : pfX8_balanceOf (pd_SH sT) 5000 G 231 (D 384 i) = some (s (D 384 i), G) := by
        unfold pfX8_balanceOf
        simp only [pl_l, pl_b, pl_iT, pl_t, pl_f, pl_ob n0, v0, pl_ln n1, pl_ib n1, e232]
        rw [if_neg (by omega), pl_i (by omega), if_neg (by omega), pl_i (by omega)]
      have hsv := hbal _ hd.1.1 hd.1.2
      obtain ⟨H, f1, f2, f3, f4⟩ := c_shareOf (sT := sT) hb hD q1 hkG (a := D 384 i) (v := min (D 385 i) (s (D 384 i))) (r := 225 + i) (Or.inr ⟨by omega, by omega⟩) hd.1 (by omega)
      refine Or.inl ⟨H, ⟨f2, fun c hc => by rw [f3 c (by omega)]; exact q2 c hc, fun a p a0 a1 p0 p1 => by rw [f3 _ (by omega)]; exact q3 a p a0 a1 p0 p1, fun h p h0 h1 p0 p1 => ?_⟩, ?_⟩
      · by_cases e : h = i
        · rw [e]; exact f4 p p0 p1
        · rw [f3 _ (by omega)]; exact q4 h p h0 (by omega) p0 p1
      · show pfX7_reckon_b35 (pd_SH sT) 5000 (j + 1) G 212 b 231 i = _
        simp (disch := omega) only [pfX7_reckon_b35, pl_l, pl_b, pl_iT, pl_t, pl_f, gx_1, gx_2, gx_3, gx_4, gx_113, gx_114, gx_115, gx_116, gx_212, gx_213, gx_224, gn_4, gn_114, gn_115, gn_116, gn_213, gn_224, lx_1_0 q1, lx_1_1 q1, lx_1_2 q1, lx_1_3 q1, lx_1_4 q1, lx_1_5 q1, lx_1_6 q1, lx_1_7 q1, lx_2_0 q1, lx_3_0 q1, lx_113_0 q1, lx_113_1 q1, lx_113_2 q1, lx_212_0 q1, lx_212_1 q1, pl_ob sb, pl_ob sh, pl_ob n0, pl_ib sb5, hkG.2.2.2.1, l4, eh, hh.1, hh.2.1, ebo, er, f1, pl_w, pl_i, if_neg]
    · intro j G ⟨q1, q2, q3, q4⟩
      have hkG := hk.fr hb hD (G := G) (fun a c d => q2 a (bo a c d))
      refine ⟨G, ?_, q1, q2, q3, q4⟩
      show pfX7_reckon_b35 (pd_SH sT) 5000 (j + 1) G 212 b 231 _ = _
      simp (disch := omega) only [pfX7_reckon_b35, pl_l, pl_b, pl_iT, pl_t, pl_f, pl_ob sb, hkG.2.2.2.1, if_pos]
  unfold pfX7_reckon
  refine pl_for (f := fun j (q : pd_F) i => pfX7_reckon_b2 (pd_SH sT) 5000 j q 212 b 231 i) (P := fun i q => pd_Ly q ∧ (∀ c, (c < 214 ∨ 230 < c) → q c = F c) ∧ ∀ a p, 0 ≤ a → a < i → 0 ≤ p → p < 12 → q (214 + a) p = gA D s a p) (N := D 371 0)
    (res := fun o => ∃ F', o = some F' ∧ pd_Ly F' ∧ (∀ c, (c < 214 ∨ 230 < c) → F' c = F c) ∧ hP D s F') ?_ ?_ 5000 F 0 (by omega) m5.1 (by omega) ⟨hL, fun _ _ => rfl, fun a p x y => by omega⟩
  · intro j G i x y ⟨q1, q2, q3⟩
    have hkG := hk.fr hb hD (G := G) (fun a c d => q2 a (bo a c d))
    have er := (fy_oa (sT := sT) q1 (i := i) x (by omega)).1
    obtain ⟨v0, -⟩ := ly_s q1 aS_now
    have e232 : G (231 + 1) i = s i := by rw [q2 (231 + 1) (by omega)]; exact ebal _ x y
    have hsv := hbal i x y
    obtain ⟨H, f1, f2, f3, f4⟩ := c_shareOf (sT := sT) hb hD q1 hkG (a := i) (v := s i) (r := 214 + i) (Or.inl ⟨by omega, by omega⟩) ⟨x, y⟩ hsv
    refine Or.inl ⟨H, ⟨f2, fun c hc => by rw [f3 c (by omega)]; exact q2 c hc, fun a p a0 a1 p0 p1 => ?_⟩, ?_⟩
    · by_cases e : a = i
      · rw [e]; exact f4 p p0 p1
      · rw [f3 _ (by omega)]; exact q3 a p a0 (by omega) p0 p1
    · show pfX7_reckon_b2 (pd_SH sT) 5000 (j + 1) G 212 b 231 i = _
      simp (disch := omega) only [pfX7_reckon_b2, pl_l, pl_b, pl_iT, pl_t, pl_f, gx_1, gx_2, gx_3, gx_4, gx_113, gx_114, gx_115, gx_116, gx_212, gx_213, gx_224, gn_4, gn_114, gn_115, gn_116, gn_213, gn_224, lx_1_0 q1, lx_1_1 q1, lx_1_2 q1, lx_1_3 q1, lx_1_4 q1, lx_1_5 q1, lx_1_6 q1, lx_1_7 q1, lx_2_0 q1, lx_3_0 q1, lx_113_0 q1, lx_113_1 q1, lx_113_2 q1, lx_212_0 q1, lx_212_1 q1, pl_ob sb, pl_ob n0, pl_ib n1, v0, e232, hkG.2.2.1, er, f1, pl_w, pl_i, if_neg]
  · intro j G ⟨q1, q2, q3⟩
    have hkG := hk.fr hb hD (G := G) (fun a c d => q2 a (bo a c d))
    obtain ⟨F', f1, f2⟩ := l35 G q1 q2 q3
    refine ⟨F', ?_, f2⟩
    show pfX7_reckon_b2 (pd_SH sT) 5000 (j + 1) G 212 b 231 _ = _
    simp (disch := omega) only [pfX7_reckon_b2, pfX7_reckon_b33, pl_l, pl_b, pl_iT, pl_t, pl_f, pl_ob sb, hkG.2.2.1, f1, if_pos]
end SO

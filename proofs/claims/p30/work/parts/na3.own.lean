/-! the law looks at what the estate pays -/
section LI
variable {sT : pd_S} {D : pd_F} {s : Int → Int} {F : pd_F} {Ls : Int} {xs : Int → Int}
/-- the row of the ranks -/
def rw3 (D : pd_F) (s : Int → Int) (F : pd_F) (o : Int) : Prop := F o 0 = cPU D s (s 72) ∧ F o 1 = cCn D s 0 (sD D s) ∧ F o 2 = cCn D s 1 (sD D s)
theorem i_46 (h : cS D s F) {x2 x4 o d j : Int} (hd : 0 ≤ d ∧ d < sD D s) (hj : 0 ≤ j ∧ j < 3) (so : pd_sh (pd_SH sT) o = some (1, 0, 3)) (hb : 0 ≤ F o j ∧ F o j ≤ 100000000000) {c20 : pd_S → pd_F → Int → Int → Int → Int → Int → Int → Option (Int × pd_S × pd_F)} :
    pfL_isPaid_b46 Ls xs 5000 c20 (pd_SH sT) F 1 (sD D s) x2 x4 o d j o = c20 (pd_SH sT) (pd_up F o j (F o j + cCl D s d)) 1 (sD D s) x2 x4 o (d + 1) := by
  have hD := h.2.2.1
  have hs := h.2.2.2.2.1.1
  have c := cCl_bd hD hs d
  have sd := h.sd
  have bb := h.b9
  obtain ⟨-, -, -, -, -, -, -, v7, -⟩ := vw (D := D) (s := s) hd
  have q7 : pfX11_view (pd_SH sT) 5000 F 1 d 7 = some (cCl D s d, F) := by rw [p_view h, v7]
  unfold pfL_isPaid_b46
  simp only [gx_1, pl_iT, q7, pl_b, pl_l, pl_ib so]
  rw [pl_i (by omega), pl_W (by omega), pl_w (by omega)]
theorem i_20 {x2 x4 o : Int} (ho : 366 < o) (so : pd_sh (pd_SH sT) o = some (1, 0, 3)) : ∀ (k : Nat) (F : pd_F) (d : Int), cS D s F → 0 ≤ d ∧ d ≤ sD D s → sD D s - d < k → (F o 0 = cPU D s (s 72) ∧ F o 1 = cCn D s 0 d ∧ F o 2 = cCn D s 1 d) →
    ∃ H, pfL_isPaid_b20 Ls xs 5000 k (pd_SH sT) F 1 (sD D s) x2 x4 o d = pfL_isPaid_b64 Ls xs 5000 (pd_SH sT) H 1 (sD D s) x2 x4 o ∧ cS D s H ∧ rw3 D s H o := by
  intro k
  induction k with
  | zero => intro F d h hd hk; omega
  | succ k ih =>
    intro F d h hd hk hr
    have hD := h.2.2.1
    have hs := h.2.2.2.2.1.1
    have sd := h.sd
    have bb := h.b9
    rw [pfL_isPaid_b20]
    by_cases c : d ≥ sD D s
    · rw [if_pos c]
      have e : d = sD D s := by omega
      subst e
      exact ⟨F, rfl, h, hr⟩
    · rw [if_neg c]
      have d0 : 0 ≤ d ∧ d < sD D s := by omega
      obtain ⟨-, -, -, -, -, -, -, -, v8⟩ := vw (D := D) (s := s) d0
      have q8 : pfX11_view (pd_SH sT) 5000 F 1 d 8 = some (cI D s d, F) := by rw [p_view h, v8]
      have b1 := cCn_bd hD hs (w := 0) hd.1
      have b2 := cCn_bd hD hs (w := 1) hd.1
      have g : ∀ (j v a : Int), a ≤ 366 → pd_up F o j v a = F a := fun j v a x => pu_a (by omega)
      simp only [gx_1, pl_iT, q8, pl_b, pl_l]
      rcases cI_01 D s d with z | z
      · rw [if_pos (by rw [z]; decide), i_46 h d0 (by decide) so (by rw [hr.2.1]; omega)]
        refine ih _ (d + 1) (h.hi (g _ _)) (by omega) (by omega) ⟨?_, ?_, ?_⟩
        · rw [pu_r, if_neg (by decide)]; exact hr.1
        · rw [pu_r, if_pos rfl, hr.2.1, cCn_s hd.1, if_pos z]
        · rw [pu_r, if_neg (by decide), hr.2.2, cCn_s hd.1, if_neg (by omega), Int.add_zero]
      · rw [if_neg (by rw [z]; decide), i_46 h d0 (by decide) so (by rw [hr.2.2]; omega)]
        refine ih _ (d + 1) (h.hi (g _ _)) (by omega) (by omega) ⟨?_, ?_, ?_⟩
        · rw [pu_r, if_neg (by decide)]; exact hr.1
        · rw [pu_r, if_neg (by decide), hr.2.1, cCn_s hd.1, if_neg (by omega), Int.add_zero]
        · rw [pu_r, if_pos rfl, hr.2.2, cCn_s hd.1, if_pos z]
theorem i_64 (h : cS D s F) {x2 x4 o : Int} (so : pd_sh (pd_SH sT) o = some (1, 0, 3)) (hr : rw3 D s F o) :
    pfL_isPaid_b64 Ls xs 5000 (pd_SH sT) F 1 (sD D s) x2 x4 o = pfL_isPaid_b138 Ls xs 5000 (pd_SH sT) F 1 (sD D s) x2 x4 o := by
  obtain ⟨r0, r1, r2⟩ := hr
  have bP := h.bd
  have b0 := h.bc 0
  have b1 := h.bc 1
  have q : ∀ r, pfX11_enough (pd_SH sT) 5000 F 1 r = some (aEn D s r, F) := fun r => p_enough h
  have e0 : aEn D s 0 = cPU D s (s 72) := rfl
  have e1 : aEn D s 1 = if cCn D s 0 (sD D s) ≤ 0 then 0 else cPU D s (s 72) + cCn D s 0 (sD D s) := rfl
  have e2 : aEn D s 2 = if cCn D s 1 (sD D s) ≤ 0 then 0 else cPU D s (s 72) + cCn D s 0 (sD D s) + cCn D s 1 (sD D s) := rfl
  have s0 : ∀ k, pfL_isPaid_b67 Ls xs 5000 (k + 1) (pd_SH sT) F 1 (sD D s) x2 x4 o 0 = pfL_isPaid_b67 Ls xs 5000 k (pd_SH sT) F 1 (sD D s) x2 x4 o 1 := fun k => by
    rw [pfL_isPaid_b67, if_neg (by decide)]
    simp only [gx_1, pl_iT, q, e0, pl_b, pl_l, pl_ib so, r0]
    rw [pl_i (by decide)]
    by_cases z : cPU D s (s 72) = 0
    · rw [if_neg (fun y => y z)]
      unfold pfL_isPaid_b126
      rw [if_pos z, pl_l, pl_w (by decide)]; rfl
    · rw [if_pos z, pl_i (by decide), if_pos (by decide)]
      unfold pfL_isPaid_b110 pfL_isPaid_b125 pfL_isPaid_b126
      rw [if_pos (by decide), pl_W (x := cPU D s (s 72) + 0) (by omega), pl_W (by omega), if_pos (by omega), pl_l, pl_w (by decide)]; rfl
  have s1 : ∀ k, pfL_isPaid_b67 Ls xs 5000 (k + 1) (pd_SH sT) F 1 (sD D s) x2 x4 o 1 = pfL_isPaid_b67 Ls xs 5000 k (pd_SH sT) F 1 (sD D s) x2 x4 o 2 := fun k => by
    rw [pfL_isPaid_b67, if_neg (by decide)]
    simp only [gx_1, pl_iT, q, e1, pl_b, pl_l, pl_ib so, r0, r1]
    rw [pl_i (by decide)]
    by_cases z : cCn D s 0 (sD D s) = 0
    · rw [if_neg (fun y => y z)]
      unfold pfL_isPaid_b126
      rw [if_pos (if_pos (by omega)), pl_l, pl_w (by decide)]; rfl
    · rw [if_pos z, pl_i (by decide), if_neg (by decide), pl_i (by decide)]
      unfold pfL_isPaid_b110 pfL_isPaid_b125 pfL_isPaid_b126
      rw [if_pos (by decide), pl_W (x := cPU D s (s 72) + cCn D s 0 (sD D s)) (by omega), pl_W (by omega), if_neg (show ¬ cCn D s 0 (sD D s) ≤ 0 by omega), if_pos (by omega), pl_l, pl_w (by decide)]; rfl
  have s2 : ∀ k, pfL_isPaid_b67 Ls xs 5000 (k + 1) (pd_SH sT) F 1 (sD D s) x2 x4 o 2 = pfL_isPaid_b67 Ls xs 5000 k (pd_SH sT) F 1 (sD D s) x2 x4 o 3 := fun k => by
    rw [pfL_isPaid_b67, if_neg (by decide)]
    simp only [gx_1, pl_iT, q, e2, pl_b, pl_l, pl_ib so, r0, r1, r2]
    rw [pl_i (by decide)]
    by_cases z : cCn D s 1 (sD D s) = 0
    · rw [if_neg (fun y => y z)]
      unfold pfL_isPaid_b126
      rw [if_pos (if_pos (by omega)), pl_l, pl_w (by decide)]; rfl
    · rw [if_pos z, pl_i (by decide), if_neg (by decide), pl_i (by decide)]
      unfold pfL_isPaid_b110 pfL_isPaid_b125 pfL_isPaid_b126
      rw [if_neg (by decide)]
      simp only [pl_ib so, r2]
      rw [pl_i (by decide), pl_W (x := cPU D s (s 72) + cCn D s 0 (sD D s)) (by omega), pl_W (by omega), if_neg (show ¬ cCn D s 1 (sD D s) ≤ 0 by omega), if_pos (by omega), pl_l, pl_w (by decide)]; rfl
  unfold pfL_isPaid_b64
  rw [show (5000 : Nat) = 4996 + 1 + 1 + 1 + 1 from rfl]
  exact (s0 (4996 + 1 + 1 + 1)).trans ((s1 (4996 + 1 + 1)).trans ((s2 (4996 + 1)).trans (by rw [pfL_isPaid_b67, if_pos (by decide)])))
/-- rank by rank, what is left -/
theorem i_280 {x2 x4 o x8 m g : Int} (hm : 0 ≤ m ∧ m ≤ 99999999) (hx : 0 ≤ x8 ∧ x8 < 6) (h : cS D s F) (so : pd_sh (pd_SH sT) o = some (1, 0, 3)) (sg : pd_sh (pd_SH sT) g = some (1, 0, 3)) (hr : rw3 D s F o) (hg : F g 0 = min m (cPU D s (s 72)) ∧ F g 1 = gt D s m 0 (sD D s) ∧ F g 2 = gt D s m 1 (sD D s)) {c141 : pd_S → pd_F → Int → Int → Int → Int → Int → Int → Option (Int × pd_S × pd_F)} :
    pfL_isPaid_b280 Ls xs 5000 c141 (pd_SH sT) F 1 (sD D s) x2 x4 o x8 m g = c141 (pd_SH sT) F 1 (sD D s) x2 x4 o (x8 + 1) := by
  obtain ⟨r0, r1, r2⟩ := hr
  obtain ⟨g0, g1, g2⟩ := hg
  have hD := h.2.2.1
  have hs := h.2.2.2.2.1.1
  have bP := h.bd
  have b0 := h.bc 0
  have b1 := h.bc 1
  have e1 := gt_all hD hs m 0
  have e2 := gt_all hD hs m 1
  have l1 : rL D s m 0 = m - cPU D s (s 72) - 0 := rfl
  have l2 : rL D s m 1 = m - cPU D s (s 72) - cCn D s 0 (sD D s) := rfl
  rw [l1] at e1
  rw [l2] at e2
  have st : ∀ (k : Nat) (left r : Int), 0 ≤ r ∧ r < 3 → 0 ≤ left ∧ left ≤ 99999999 → 0 ≤ F o r → F g r = min left (F o r) → pfL_isPaid_b288 Ls xs 5000 c141 (k + 1) (pd_SH sT) F 1 (sD D s) x2 x4 o x8 g left r = pfL_isPaid_b288 Ls xs 5000 c141 k (pd_SH sT) F 1 (sD D s) x2 x4 o x8 g (max (left - F o r) 0) (r + 1) := fun k left r a b c e => by
    rw [pfL_isPaid_b288, if_neg (by omega)]
    simp only [pl_ib sg, pl_ib so]
    rw [pl_i (by omega), pl_i (by omega), if_pos e, pl_l, pl_W (by omega)]
    by_cases z : F g r ≥ F o r
    · rw [if_pos z]
      unfold pfL_isPaid_b342
      rw [pl_l, pl_w (by omega), show left - F g r = max (left - F o r) 0 by omega]
    · rw [if_neg z]
      unfold pfL_isPaid_b342
      rw [pl_l, pl_w (by omega), show max (left - F o r) 0 = 0 by omega]
  unfold pfL_isPaid_b280
  rw [show (5000 : Nat) = 4996 + 1 + 1 + 1 + 1 from rfl]
  refine (st (4996 + 1 + 1 + 1) m 0 (by decide) hm (by omega) (by omega)).trans ?_
  refine (st (4996 + 1 + 1) _ (0 + 1) (by decide) (by omega) (by rw [show (0 : Int) + 1 = 1 from rfl]; omega) (by rw [show (0 : Int) + 1 = 1 from rfl]; omega)).trans ?_
  refine (st (4996 + 1) _ (0 + 1 + 1) (by decide) (by rw [show (0 : Int) + 1 = 1 from rfl]; omega) (by rw [show (0 : Int) + 1 + 1 = 2 from rfl]; omega) (by rw [show (0 : Int) + 1 + 1 = 2 from rfl, show (0 : Int) + 1 = 1 from rfl]; omega)).trans ?_
  rw [pfL_isPaid_b288, if_pos (by decide)]
  unfold pfL_isPaid_b348
  rw [pl_l, pl_w (by omega)]
end LI

/-! the law looks at what the estate pays: its trials -/
section LJ
variable {sT : pd_S} {D : pd_F} {s : Int → Int} {F : pd_F} {Ls : Int} {xs : Int → Int}
theorem i_268 (h : cS D s F) {x2 x4 o x8 m g d j v : Int} (hd : 0 ≤ d ∧ d ≤ 12) (hj : 0 ≤ j ∧ j < 3) (sg : pd_sh (pd_SH sT) g = some (1, 0, 3)) (hb : 0 ≤ F g j ∧ F g j ≤ 100000000000) (hv : 0 ≤ v ∧ v ≤ 1199999880) {c141 : pd_S → pd_F → Int → Int → Int → Int → Int → Int → Option (Int × pd_S × pd_F)} {c209 : pd_S → pd_F → Int → Int → Int → Int → Int → Int → Int → Int → Int → Option (Int × pd_S × pd_F)} :
    pfL_isPaid_b268 Ls xs 5000 c141 c209 (pd_SH sT) F 1 (sD D s) x2 x4 o x8 m g d v j g = c209 (pd_SH sT) (pd_up F g j (F g j + v)) 1 (sD D s) x2 x4 o x8 m g (d + 1) := by
  unfold pfL_isPaid_b268
  simp only [pl_ib sg]
  rw [pl_i (by omega), pl_l, pl_l, pl_W (by omega), pl_w (by omega)]
theorem i_209 {x2 x4 o x8 m g : Int} (hm : 0 ≤ m ∧ m ≤ 99999999) (hg : 366 < g) (hog : o ≠ g) (sg : pd_sh (pd_SH sT) g = some (1, 0, 3)) {c141 : pd_S → pd_F → Int → Int → Int → Int → Int → Int → Option (Int × pd_S × pd_F)} : ∀ (k : Nat) (F : pd_F) (d : Int), cS D s F → rw3 D s F o → 0 ≤ d ∧ d ≤ sD D s → sD D s - d < k → (F g 0 = min m (cPU D s (s 72)) ∧ F g 1 = gt D s m 0 d ∧ F g 2 = gt D s m 1 d) →
    ∃ H, pfL_isPaid_b209 Ls xs 5000 c141 k (pd_SH sT) F 1 (sD D s) x2 x4 o x8 m g d = pfL_isPaid_b280 Ls xs 5000 c141 (pd_SH sT) H 1 (sD D s) x2 x4 o x8 m g ∧ cS D s H ∧ rw3 D s H o ∧ (H g 0 = min m (cPU D s (s 72)) ∧ H g 1 = gt D s m 0 (sD D s) ∧ H g 2 = gt D s m 1 (sD D s)) := by
  intro k
  induction k with
  | zero => intro F d h hw hd hk; omega
  | succ k ih =>
    intro F d h hw hd hk hr
    have hD := h.2.2.1
    have hs := h.2.2.2.2.1.1
    have sd := h.sd
    have bb := h.b9
    rw [pfL_isPaid_b209]
    by_cases c : d ≥ sD D s
    · rw [if_pos c]
      have e : d = sD D s := by omega
      subst e
      exact ⟨F, rfl, h, hw, hr⟩
    · rw [if_neg c]
      have d0 : 0 ≤ d ∧ d < sD D s := by omega
      obtain ⟨-, -, -, -, -, -, -, v7, v8⟩ := vw (D := D) (s := s) d0
      have q7 : pfX11_view (pd_SH sT) 5000 F 1 d 7 = some (cCl D s d, F) := by rw [p_view h, v7]
      have q8 : pfX11_view (pd_SH sT) 5000 F 1 d 8 = some (cI D s d, F) := by rw [p_view h, v8]
      have qe : pfX11_estate (pd_SH sT) 5000 F 1 m d = some (aEs D s m d, F) := by
        rw [p_estate h]
        unfold aEst
        rw [if_pos ⟨hm, by omega, d0.2⟩, if_neg (by omega)]
      have b1 := gt_bd hD hs (m := m) (w := 0) hd.1
      have b2 := gt_bd hD hs (m := m) (w := 1) hd.1
      have c1 := cCl_bd hD hs d
      have c2 := aEs_bd hD hs (m := m) hd.1
      have gF : ∀ (j v a : Int), a ≤ 366 → pd_up F g j v a = F a := fun j v a x => pu_a (by omega)
      have gw : ∀ (j v : Int), rw3 D s (pd_up F g j v) o := fun j v => by unfold rw3; rw [pu_a hog]; exact hw
      simp only [gx_1, pl_iT, qe, q7, q8, pl_b, pl_l]
      rw [if_neg (by omega), if_pos c2.2]
      rcases cI_01 D s d with z | z
      · rw [if_pos (by rw [z]; decide), i_268 h (by omega) (by decide) sg (by rw [hr.2.1]; omega) (by omega)]
        refine ih _ (d + 1) (h.hi (gF _ _)) (gw _ _) (by omega) (by omega) ⟨?_, ?_, ?_⟩
        · rw [pu_r, if_neg (by decide)]; exact hr.1
        · rw [pu_r, if_pos rfl, hr.2.1, gt_s hd.1, if_pos z]
        · rw [pu_r, if_neg (by decide), hr.2.2, gt_s hd.1, if_neg (by omega), Int.add_zero]
      · rw [if_neg (by rw [z]; decide), i_268 h (by omega) (by decide) sg (by rw [hr.2.2]; omega) (by omega)]
        refine ih _ (d + 1) (h.hi (gF _ _)) (gw _ _) (by omega) (by omega) ⟨?_, ?_, ?_⟩
        · rw [pu_r, if_neg (by decide)]; exact hr.1
        · rw [pu_r, if_neg (by decide), hr.2.1, gt_s hd.1, if_neg (by omega), Int.add_zero]
        · rw [pu_r, if_pos rfl, hr.2.2, gt_s hd.1, if_pos z]
theorem i_181 (h : cS D s F) {x2 x4 o x8 m : Int} (hm : 0 ≤ m ∧ m ≤ 99999999) (hx : 0 ≤ x8 ∧ x8 < 6) (so : pd_sh (pd_SH sT) o = some (1, 0, 3)) (hr : rw3 D s F o) {c141 : pd_S → pd_F → Int → Int → Int → Int → Int → Int → Option (Int × pd_S × pd_F)} :
    ∃ H, pfL_isPaid_b181 Ls xs 5000 c141 (pd_SH sT) F 1 (sD D s) x2 x4 o x8 m = c141 (pd_SH (sT ++ [(1, 0, 3)])) H 1 (sD D s) x2 x4 o (x8 + 1) ∧ cS D s H ∧ rw3 D s H o ∧ pd_sh (pd_SH (sT ++ [(1, 0, 3)])) o = some (1, 0, 3) := by
  have sd := h.sd
  have ob := sh_bd so
  obtain ⟨g, hg⟩ : ∃ g : Int, ((pd_SH sT).length : Int) + 1 = g := ⟨_, rfl⟩
  have gl : 366 < g := by rw [← hg, pd_SH_l]; omega
  have og : o ≠ g := by omega
  have sg : pd_sh (pd_SH (sT ++ [(1, 0, 3)])) g = some (1, 0, 3) := by rw [← pd_SH_app, ← hg]; exact sh_new
  have so' : pd_sh (pd_SH (sT ++ [(1, 0, 3)])) o = some (1, 0, 3) := by rw [← pd_SH_app]; exact ex.one.sh so
  obtain ⟨G, hG⟩ : ∃ G, pd_z F g = G := ⟨_, rfl⟩
  have gG : ∀ a, a ≠ g → G a = F a := fun a x => by rw [← hG]; funext j; unfold pd_z; rw [if_neg x]
  have hG' : cS D s G := h.hi (fun a x => gG a (by omega))
  have qe : pfX11_estate (pd_SH (sT ++ [(1, 0, 3)])) 5000 G 1 m (-1) = some (min m (cPU D s (s 72)), G) := by
    rw [p_estate hG']
    unfold aEst
    rw [if_pos ⟨hm, by decide, by omega⟩, if_pos rfl]
  obtain ⟨K, hK⟩ : ∃ K, pd_up (pd_up (pd_up G g 0 (min m (cPU D s (s 72)))) g 1 0) g 2 0 = K := ⟨_, rfl⟩
  have gK : ∀ a, a ≠ g → K a = F a := fun a x => by rw [← hK, pu_a x, pu_a x, pu_a x]; exact gG a x
  have k0 : K g 0 = min m (cPU D s (s 72)) := by rw [← hK, pu_r, if_neg (by decide), pu_r, if_neg (by decide), pu_r, if_pos rfl]
  have k1 : K g 1 = 0 := by rw [← hK, pu_r, if_neg (by decide), pu_r, if_pos rfl]
  have k2 : K g 2 = 0 := by rw [← hK, pu_r, if_pos rfl]
  have hKc : cS D s K := h.hi (fun a x => gK a (by omega))
  have hKr : rw3 D s K o := by unfold rw3; rw [gK o og]; exact hr
  have bb := h.b9
  obtain ⟨H, e1, e2, e3, e4⟩ := i_209 (Ls := Ls) (xs := xs) (x2 := x2) (x4 := x4) (x8 := x8) (c141 := c141) hm gl og sg 5000 K 0 hKc hKr ⟨by decide, sd.1⟩ (by omega) ⟨k0, k1, k2⟩
  refine ⟨H, ?_, e2, e3, so'⟩
  rw [← i_280 (Ls := Ls) (xs := xs) (x2 := x2) (x4 := x4) (c141 := c141) hm hx e2 so' sg e3 e4, ← e1]
  unfold pfL_isPaid_b181
  simp only [pl_l, hg, pd_SH_app, hG, gx_1, pl_iT, qe, pl_b, pl_ib sg]
  rw [pl_i (by decide), pl_i (by decide), pl_i (by decide), pl_i (by omega), hK]
theorem tmod_le {x y : Int} (hx : 0 ≤ x) (hy : 0 < y) : 0 ≤ Int.tmod x y ∧ Int.tmod x y ≤ x := by
  refine ⟨Int.tmod_nonneg y hx, ?_⟩
  rw [Int.tmod_eq_emod_of_nonneg hx]
  have e := Int.mul_ediv_add_emod x y
  have f := Int.mul_nonneg (Int.le_of_lt hy) (Int.ediv_nonneg hx (Int.le_of_lt hy))
  omega
theorem i_141 (hL : 0 ≤ Ls) {x2 x4 o : Int} (hxx : 0 ≤ x2 + x4 ∧ x2 + x4 ≤ 100000000) : ∀ (k : Nat) (sT : pd_S) (F : pd_F) (x8 : Int), 0 ≤ x8 ∧ x8 ≤ 6 → 6 - x8 < k → cS D s F → rw3 D s F o → pd_sh (pd_SH sT) o = some (1, 0, 3) →
    ∃ sT' H, pfL_isPaid_b141 Ls xs 5000 k (pd_SH sT) F 1 (sD D s) x2 x4 o x8 = some (1, pd_SH sT', H) ∧ cS D s H := by
  intro k
  induction k with
  | zero => intro sT F x8 hx hk; omega
  | succ k ih =>
    intro sT F x8 hx hk h hr so
    rw [pfL_isPaid_b141]
    by_cases c : x8 ≥ 6
    · rw [if_pos c]
      refine ⟨sT, F, ?_, h⟩
      have q1 : pfX11_estate (pd_SH sT) 5000 F 1 (-1) 0 = some (-2, F) := by
        rw [p_estate h]
        unfold aEst
        rw [if_neg (by omega)]
      have q2 : pfX11_estate (pd_SH sT) 5000 F 1 0 (sD D s) = some (-2, F) := by
        rw [p_estate h]
        unfold aEst
        rw [if_neg (by omega)]
      have q3 : pfX11_enough (pd_SH sT) 5000 F 1 3 = some (-1, F) := p_enough h
      unfold pfL_isPaid_b354
      simp only [gx_1, pl_iT, q1, q2, q3, pl_b, pl_l]
      rw [if_neg (fun z => z rfl), if_neg (fun z => z rfl), if_neg (fun z => z rfl)]
    · rw [if_neg c]
      have on : ∀ F m, cS D s F → rw3 D s F o → 0 ≤ m ∧ m ≤ 99999999 → ∃ sT' H, pfL_isPaid_b181 Ls xs 5000 (pfL_isPaid_b141 Ls xs 5000 k) (pd_SH sT) F 1 (sD D s) x2 x4 o x8 m = some (1, pd_SH sT', H) ∧ cS D s H := fun F m h hr hm => by
        obtain ⟨H, e1, e2, e3, e4⟩ := i_181 (Ls := Ls) (xs := xs) (x2 := x2) (x4 := x4) (c141 := pfL_isPaid_b141 Ls xs 5000 k) h hm ⟨hx.1, by omega⟩ so hr
        rw [e1]
        exact ih _ H (x8 + 1) (by omega) (by omega) e2 e3 e4
      by_cases z : x8 = 0
      · rw [if_neg (fun y => y z)]
        exact on F 0 h hr (by decide)
      · rw [if_pos z]
        obtain ⟨v, hv⟩ := s_cell (Ls := Ls) (xs := xs) hL (x := 180 + x8) (by omega)
        have a := pand_r (x := v) (m := 1048575) (by decide)
        have t := tmod_le (x := pd_and v 1048575) (y := x2 + x4 + 100) a.1 (by omega)
        rw [pl_w (x := 180 + x8) (by omega), hv, pl_b, pl_l, pl_l, pl_W (x := x2 + x4) (by omega), pl_W (x := x2 + x4 + 100) (by omega), pl_w (x := x2 + x4 + 100) (by omega), pl_i (by omega)]
        have a2 : pd_and v 1048575 ≤ 1048575 := a.2
        exact on F _ h hr ⟨t.1, Int.le_trans t.2 (by omega)⟩
theorem sums_bd (h : cS D s F) : 0 ≤ Sm (fun d => cPd D s d (s 72)) (sD D s) + Sm (cCl D s) (sD D s) ∧ Sm (fun d => cPd D s d (s 72)) (sD D s) + Sm (cCl D s) (sD D s) ≤ 100000000 := by
  have hD := h.2.2.1
  have hs := h.2.2.2.2.1.1
  have bb := h.b9
  have sd := h.sd
  have al := has_all h
  have fz : 0 ≤ cFz D s := by
    have := Sm_bd (f := fun a => ci (lFl (D 381) (D 382) (D 383) 8 (5 + a)) (s a) 0) (lo := 0) (hi := 9999999) bb.2.1 (fun a x y => by
      have := h.sa ⟨x, y⟩
      rcases ci_o (lFl (D 381) (D 382) (D 383) 8 (5 + a)) (s a) 0 with w | w <;> rw [w.2] <;> omega)
    unfold cFz
    omega
  have bs := Sm_bd (f := s) (lo := 0) (hi := 9999999) bb.2.1 (fun i a b => h.sa ⟨a, b⟩)
  rw [← Sm_add sd.1]
  have e : Sm (fun d => cPd D s d (s 72) + cCl D s d) (sD D s) = Sm (cNt D s) (sD D s) := Sm_congr fun d _ _ => by unfold cCl; omega
  have le : Sm (cNt D s) (sD D s) ≤ Sm (sHas D s) (sD D s) := Sm_le sd.1 fun d _ _ => by
    have := cNt_bd hD hs d
    unfold cNt
    omega
  have ge := Sm_bd (f := cNt D s) (lo := 0) (hi := 1199999880) sd.1 (fun d _ _ => by have := cNt_bd hD hs d; omega)
  rw [e]
  omega
theorem l_isPaid (hL : 0 ≤ Ls) (h : cS D s F) {x2 x4 : Int} (e2 : x2 = Sm (fun d => cPd D s d (s 72)) (sD D s)) (e4 : x4 = Sm (cCl D s) (sD D s)) :
    ∃ sT' H, pfL_isPaid Ls xs (pd_SH sT) 5000 F 1 (sD D s) x2 x4 = some (1, pd_SH sT', H) ∧ cS D s H := by
  have sd := h.sd
  have bb := h.b9
  have b := sums_bd h
  rw [← e2, ← e4] at b
  obtain ⟨o, ho⟩ : ∃ g : Int, ((pd_SH sT).length : Int) + 1 = g := ⟨_, rfl⟩
  have ol : 366 < o := by rw [← ho, pd_SH_l]; omega
  have so : pd_sh (pd_SH (sT ++ [(1, 0, 3)])) o = some (1, 0, 3) := by rw [← pd_SH_app, ← ho]; exact sh_new
  obtain ⟨K, hK⟩ : ∃ K, pd_up (pd_up (pd_up (pd_z F o) o 0 x2) o 1 0) o 2 0 = K := ⟨_, rfl⟩
  have gK : ∀ a, a ≠ o → K a = F a := fun a x => by rw [← hK, pu_a x, pu_a x, pu_a x]; funext j; unfold pd_z; rw [if_neg x]
  have k0 : K o 0 = x2 := by rw [← hK, pu_r, if_neg (by decide), pu_r, if_neg (by decide), pu_r, if_pos rfl]
  have k1 : K o 1 = 0 := by rw [← hK, pu_r, if_neg (by decide), pu_r, if_pos rfl]
  have k2 : K o 2 = 0 := by rw [← hK, pu_r, if_pos rfl]
  have hKc : cS D s K := h.hi (fun a x => gK a (by omega))
  obtain ⟨H, f1, f2, f3⟩ := i_20 (Ls := Ls) (xs := xs) (x2 := x2) (x4 := x4) ol so 5000 K 0 hKc ⟨by decide, sd.1⟩ (by omega) ⟨k0.trans e2, k1, k2⟩
  have f4 := i_64 (Ls := Ls) (xs := xs) (x2 := x2) (x4 := x4) f2 so f3
  obtain ⟨sT', H', g1, g2⟩ := i_141 (Ls := Ls) (xs := xs) (o := o) hL b 7 _ H 0 (by decide) (by decide) f2 f3 so
  refine ⟨sT', H', ?_, g2⟩
  refine Eq.trans ?_ g1
  refine Eq.trans ?_ f4
  refine Eq.trans ?_ f1
  unfold pfL_isPaid
  simp only [pl_l, ho, pd_SH_app, pl_ib so]
  rw [pl_i (by decide), pl_i (by decide), pl_i (by decide), pl_i (by omega), hK]
end LJ

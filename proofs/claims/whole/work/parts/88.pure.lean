/-! the class: answers of the ledger -/
section CL
variable {D : pd_F} {s : Int → Int} {F : pd_F}
theorem cS.bd (h : cS D s F) : 0 ≤ cPU D s (s 72) ∧ cPU D s (s 72) ≤ 14399998560 := by
  have hb := h.2.2.1
  have hs := h.2.2.2.2.1.1
  have n := h.w.sd
  have : 0 ≤ cPU D s (s 72) ∧ cPU D s (s 72) ≤ 1199999880 * sD D s := cPU_bd hb hs hs.2.2.2.1.1 n.1
  omega
theorem cS.bc (h : cS D s F) (x : Int) : 0 ≤ cCn D s x (sD D s) ∧ cCn D s x (sD D s) ≤ 14399998560 := by
  have n := h.w.sd
  have := cCn_bd h.2.2.1 h.2.2.2.2.1.1 (w := x) n.1
  omega
theorem cCn_01 {n : Int} (hn : 0 ≤ n) : cCn D s 0 n + cCn D s 1 n = Sm (cCl D s) n := by
  unfold cCn
  rw [← Sm_add hn]
  refine Sm_congr fun d _ _ => ?_
  rcases cI_01 D s d with z | z
  · rw [z, if_pos rfl, if_neg (by decide)]; omega
  · rw [z, if_neg (by decide), if_pos rfl]; omega
theorem p_frozen (h : cS D s F) : pfX11_frozenBalances pd_SH 5000 F 1 = some (cFz D s, F) := by
  have hb := h.2.1
  have sb3 := (sh_b hb).2.2.2.1
  have hD := h.2.2.1
  have n5 := hD.1.2.2.2.2.2.1
  have l1 := (ly_b h.1 hb).2.2.1
  have hs := h.2.2.2.2.1.1
  unfold pfX11_frozenBalances cFz
  refine pl_sum (f := fun k q i => pfX11_frozenBalances_b4 pd_SH 5000 k F 1 q i) (g := fun a => ci (lFl (D 381) (D 382) (D 383) 8 (5 + a)) (s a) 0) hD.1.2.2.2.2.1 (fun k q i x y e => ?_) (fun k q => ?_) (by omega)
  · have kg := h.2.2.2.1.2.2.2.2.2.2.2.1 i x y
    obtain ⟨-, -, -, sg, -⟩ := fy_g h.1 hb (i := 5 + i) (by omega) (by omega)
    have eac := fy_ac h.1 hb (i := i) (by omega) (by omega)
    have ea := h.2.2.2.2.1.2.2.2.2.2.1 i x y
    rw [show (231 : Int) + 1 = 232 from rfl] at ea
    obtain ⟨-, -, k7, -⟩ := kg
    have b1 := Sm_bd (f := fun a => ci (lFl (D 381) (D 382) (D 383) 8 (5 + a)) (s a) 0) (lo := 0) (hi := 9999999) x (fun a u v => by
      have := hs.1 a u (by omega)
      rcases ci_o (lFl (D 381) (D 382) (D 383) 8 (5 + a)) (s a) 0 with w | w <;> rw [w.2] <;> omega)
    have b2 := hs.1 i x y
    show pfX11_frozenBalances_b4 pd_SH 5000 (k + 1) F 1 q i = pfX11_frozenBalances_b4 pd_SH 5000 k F 1 (q + ci (lFl (D 381) (D 382) (D 383) 8 (5 + i)) (s i) 0) (i + 1)
    rcases Classical.em (lFl (D 381) (D 382) (D 383) 8 (5 + i)) with z | z
    · rw [ci_t z] at k7 ⊢
      simp (disch := omega) only [pfX11_frozenBalances_b4, pfX11_frozenBalances_b43, pl_l, pl_b, pl_iT, pl_t, pl_f, gx_1, gx_2, gx_3, gx_4, gx_113, gx_114, gx_115, gx_116, gx_212, gx_213, gx_224, gn_4, gn_114, gn_115, gn_116, gn_213, gn_224, lx_1_0 h.1, lx_1_1 h.1, lx_1_2 h.1, lx_1_3 h.1, lx_1_4 h.1, lx_1_5 h.1, lx_1_6 h.1, lx_1_7 h.1, lx_2_0 h.1, lx_3_0 h.1, lx_113_0 h.1, lx_113_1 h.1, lx_113_2 h.1, lx_212_0 h.1, lx_212_1 h.1, h.ob, h.n2, l1, pl_ib sb3, eac, pl_ob sg, k7, ox_231, e_231 h.1, ix_232, ea, pl_i, pl_w, pl_W, if_neg]
    · rw [ci_f z] at k7 ⊢
      rw [Int.add_zero]
      simp (disch := omega) only [pfX11_frozenBalances_b4, pfX11_frozenBalances_b43, pl_l, pl_b, pl_iT, pl_t, pl_f, gx_1, gx_2, gx_3, gx_4, gx_113, gx_114, gx_115, gx_116, gx_212, gx_213, gx_224, gn_4, gn_114, gn_115, gn_116, gn_213, gn_224, lx_1_0 h.1, lx_1_1 h.1, lx_1_2 h.1, lx_1_3 h.1, lx_1_4 h.1, lx_1_5 h.1, lx_1_6 h.1, lx_1_7 h.1, lx_2_0 h.1, lx_3_0 h.1, lx_113_0 h.1, lx_113_1 h.1, lx_113_2 h.1, lx_212_0 h.1, lx_212_1 h.1, h.ob, h.n2, l1, pl_ib sb3, eac, pl_ob sg, k7, pl_i, pl_w, if_neg, if_pos]
  · show pfX11_frozenBalances_b4 pd_SH 5000 (k + 1) F 1 q _ = _
    simp (disch := omega) only [pfX11_frozenBalances_b4, pl_l, pl_b, pl_iT, pl_t, pl_f, gx_1, gx_2, gx_3, gx_4, gx_113, gx_114, gx_115, gx_116, gx_212, gx_213, gx_224, gn_4, gn_114, gn_115, gn_116, gn_213, gn_224, h.ob, h.n2, if_pos]
theorem p_all (h : cS D s F) {w : Int} : pfX11_all pd_SH 5000 F 1 w = some (aAll D s w, F) := by
  have n := h.w.sd
  have nt := h.w.nt
  rw [show (236 : Int) + 1 = 237 from rfl] at nt
  have e0 : Sm (aTm D s 0) (sD D s) = Sm (sHas D s) (sD D s) := Sm_congr fun d _ _ => by unfold aTm; rw [if_pos rfl]
  have e1 : Sm (aTm D s 1) (sD D s) = Sm (cSo D s) (sD D s) := Sm_congr fun d _ _ => by unfold aTm; rw [if_neg (by decide), if_pos rfl]
  have e2 : Sm (aTm D s 2) (sD D s) = cPU D s (s 72) := Sm_congr fun d _ _ => by unfold aTm; rw [if_neg (by decide), if_neg (by decide), if_pos rfl]
  have e3 : Sm (aTm D s 3) (sD D s) = cCn D s 0 (sD D s) + cCn D s 1 (sD D s) := by
    rw [cCn_01 n.1]
    exact Sm_congr fun d _ _ => by unfold aTm; rw [if_neg (by decide), if_neg (by decide), if_neg (by decide), if_pos rfl]
  have e6 : Sm (aTm D s 6) (sD D s) = Sm (fun d => if cCl D s d ≤ 0 then 0 else 1) (sD D s) := Sm_congr fun d _ _ => by unfold aTm; rw [if_neg (by decide), if_neg (by decide), if_neg (by decide), if_neg (by decide)]
  have b0 := h.bc 0
  have b1 := h.bc 1
  unfold pfX11_all aAll
  simp only [pl_l, pl_b, pl_iT, pl_t, pl_f, gx_1, gx_2, gx_3, gx_4, gx_113, gx_114, gx_115, gx_116, gx_212, gx_213, gx_224, gn_4, gn_114, gn_115, gn_116, gn_213, gn_224, lx_1_0 h.1, lx_1_1 h.1, lx_1_2 h.1, lx_1_3 h.1, lx_1_4 h.1, lx_1_5 h.1, lx_1_6 h.1, lx_1_7 h.1, lx_2_0 h.1, lx_3_0 h.1, lx_113_0 h.1, lx_113_1 h.1, lx_113_2 h.1, lx_212_0 h.1, lx_212_1 h.1, ox_236, ox_237, e_236 h.1, nt, k_hasTogether h.w, k_setOffTogether h.w, k_paidTogether h.w, k_claimsOf h.w, p_frozen h, k_claimants h.w]
  rw [pl_W (by omega)]
  by_cases w0 : w = 0
  · subst w0; rw [if_pos rfl, if_pos (by decide), if_neg (by decide), if_neg (by decide), e0]
  by_cases w1 : w = 1
  · subst w1; rw [if_neg w0, if_pos rfl, if_pos (by decide), if_neg (by decide), if_neg (by decide), e1]
  by_cases w2 : w = 2
  · subst w2; rw [if_neg w0, if_neg w1, if_pos rfl, if_pos (by decide), if_neg (by decide), if_neg (by decide), e2]
  by_cases w3 : w = 3
  · subst w3; rw [if_neg w0, if_neg w1, if_neg w2, if_pos rfl, if_pos (by decide), if_neg (by decide), if_neg (by decide), e3]
  by_cases w4 : w = 4
  · subst w4; rw [if_neg w0, if_neg w1, if_neg w2, if_neg w3, if_pos rfl, if_pos (by decide), if_pos rfl]
  by_cases w5 : w = 5
  · subst w5; rw [if_neg w0, if_neg w1, if_neg w2, if_neg w3, if_neg w4, if_pos rfl, if_pos (by decide), if_neg (by decide), if_pos rfl]
  by_cases w6 : w = 6
  · subst w6; rw [if_neg w0, if_neg w1, if_neg w2, if_neg w3, if_neg w4, if_neg w5, if_pos rfl, if_pos (by decide), if_neg (by decide), if_neg (by decide), e6]
  · rw [if_neg w0, if_neg w1, if_neg w2, if_neg w3, if_neg w4, if_neg w5, if_neg w6, if_neg (by omega)]
theorem p_ranked (h : cS D s F) {k : Int} : ∃ v, pfX11_ranked pd_SH 5000 F 1 k = some (v, F) ∧ aRk D s k v := by
  have n := h.w.sd
  have nt := h.w.nt
  rw [show (236 : Int) + 1 = 237 from rfl] at nt
  unfold pfX11_ranked
  rcases pl_find (f := fun j i => pfX11_ranked_b2 pd_SH 5000 j F 1 k i) (Q := fun i => cPl D s i = k) (hit := fun i => some (i, F)) (miss := some (-1, F)) (N := sD D s) n.1 (fun j i a b c => by
      show pfX11_ranked_b2 pd_SH 5000 (j + 1) F 1 k i = _
      simp (disch := omega) only [pfX11_ranked_b2, pl_l, pl_b, pl_iT, pl_t, pl_f, gx_1, gx_2, gx_3, gx_4, gx_113, gx_114, gx_115, gx_116, gx_212, gx_213, gx_224, gn_4, gn_114, gn_115, gn_116, gn_213, gn_224, lx_1_0 h.1, lx_1_1 h.1, lx_1_2 h.1, lx_1_3 h.1, lx_1_4 h.1, lx_1_5 h.1, lx_1_6 h.1, lx_1_7 h.1, lx_2_0 h.1, lx_3_0 h.1, lx_113_0 h.1, lx_113_1 h.1, lx_113_2 h.1, lx_212_0 h.1, lx_212_1 h.1, ox_236, ox_237, e_236 h.1, nt, k_aheadOf h.w ⟨a, b⟩, pl_w, if_pos, if_neg]) (fun j i a b c => by
      show pfX11_ranked_b2 pd_SH 5000 (j + 1) F 1 k i = _
      simp (disch := omega) only [pfX11_ranked_b2, pl_l, pl_b, pl_iT, pl_t, pl_f, gx_1, gx_2, gx_3, gx_4, gx_113, gx_114, gx_115, gx_116, gx_212, gx_213, gx_224, gn_4, gn_114, gn_115, gn_116, gn_213, gn_224, lx_1_0 h.1, lx_1_1 h.1, lx_1_2 h.1, lx_1_3 h.1, lx_1_4 h.1, lx_1_5 h.1, lx_1_6 h.1, lx_1_7 h.1, lx_2_0 h.1, lx_3_0 h.1, lx_113_0 h.1, lx_113_1 h.1, lx_113_2 h.1, lx_212_0 h.1, lx_212_1 h.1, ox_236, ox_237, e_236 h.1, nt, k_aheadOf h.w ⟨a, b⟩, pl_w, if_pos, if_neg]) (fun j => by
      show pfX11_ranked_b2 pd_SH 5000 (j + 1) F 1 k _ = _
      simp (disch := omega) only [pfX11_ranked_b2, pl_l, pl_b, pl_iT, pl_t, pl_f, gx_1, gx_2, gx_3, gx_4, gx_113, gx_114, gx_115, gx_116, gx_212, gx_213, gx_224, gn_4, gn_114, gn_115, gn_116, gn_213, gn_224, lx_1_0 h.1, lx_1_1 h.1, lx_1_2 h.1, lx_1_3 h.1, lx_1_4 h.1, lx_1_5 h.1, lx_1_6 h.1, lx_1_7 h.1, lx_2_0 h.1, lx_3_0 h.1, lx_113_0 h.1, lx_113_1 h.1, lx_113_2 h.1, lx_212_0 h.1, lx_212_1 h.1, ox_236, ox_237, e_236 h.1, nt, if_pos]) 5000 (by omega) with ⟨i, a, b, c, e, f⟩ | ⟨e, f⟩
  · exact ⟨i, f, Or.inl ⟨a, b, c, e⟩⟩
  · exact ⟨-1, f, Or.inr ⟨e, rfl⟩⟩
theorem p_enough (h : cS D s F) {r : Int} : pfX11_enough pd_SH 5000 F 1 r = some (aEn D s r, F) := by
  have b0 := h.bc 0
  have b1 := h.bc 1
  have b := h.bd
  unfold pfX11_enough aEn
  simp only [pl_l, pl_b, pl_iT, pl_t, pl_f, gx_1, gx_2, gx_3, gx_4, gx_113, gx_114, gx_115, gx_116, gx_212, gx_213, gx_224, gn_4, gn_114, gn_115, gn_116, gn_213, gn_224, lx_1_0 h.1, lx_1_1 h.1, lx_1_2 h.1, lx_1_3 h.1, lx_1_4 h.1, lx_1_5 h.1, lx_1_6 h.1, lx_1_7 h.1, lx_2_0 h.1, lx_3_0 h.1, lx_113_0 h.1, lx_113_1 h.1, lx_113_2 h.1, lx_212_0 h.1, lx_212_1 h.1, ox_236, k_paidTogether h.w, k_claimsOf h.w]
  rw [pl_W (x := cPU D s (s 72) + cCn D s 0 (sD D s)) (by omega), pl_W (x := cPU D s (s 72) + cCn D s 0 (sD D s) + cCn D s 1 (sD D s)) (by omega)]
  by_cases w0 : r = 0
  · rw [if_pos w0, if_pos w0]
  rw [if_neg w0, if_neg w0]
  by_cases w1 : r = 1
  · rw [if_pos w1, if_pos w1]
    by_cases z : cCn D s 0 (sD D s) ≤ 0
    · rw [if_pos z, if_neg (by omega)]
    · rw [if_neg z, if_pos (by omega)]
  rw [if_neg w1, if_neg w1]
  by_cases w2 : r = 2
  · rw [if_pos w2, if_pos w2]
    by_cases z : cCn D s 1 (sD D s) ≤ 0
    · rw [if_pos z, if_neg (by omega)]
    · rw [if_neg z, if_pos (by omega)]
  · rw [if_neg w2, if_neg w2]
theorem p_estate (h : cS D s F) {m d : Int} : pfX11_estate pd_SH 5000 F 1 m d = some (aEst D s m d, F) := by
  have n := h.w.sd
  unfold pfX11_estate aEst
  simp only [pl_l, pl_b, pl_iT, pl_t, pl_f, gx_1, gx_2, gx_3, gx_4, gx_113, gx_114, gx_115, gx_116, gx_212, gx_213, gx_224, gn_4, gn_114, gn_115, gn_116, gn_213, gn_224, lx_1_0 h.1, lx_1_1 h.1, lx_1_2 h.1, lx_1_3 h.1, lx_1_4 h.1, lx_1_5 h.1, lx_1_6 h.1, lx_1_7 h.1, lx_2_0 h.1, lx_3_0 h.1, lx_113_0 h.1, lx_113_1 h.1, lx_113_2 h.1, lx_212_0 h.1, lx_212_1 h.1, ox_236, k_paidTogether h.w, p_isDepositor h]
  by_cases k1 : m < 0
  · rw [if_pos k1, if_neg (by omega)]
  rw [if_neg k1]
  by_cases k2 : m ≤ 99999999
  · rw [if_pos k2]
    by_cases k3 : d = -1
    · rw [if_neg (by omega), if_pos (by omega), if_pos k3]
    · rw [if_pos k3]
      by_cases k4 : 0 ≤ d ∧ d < sD D s
      · rw [if_pos k4, if_neg (by decide), if_pos (by omega), if_neg k3, k_fromEstate h.w k4 (by omega)]
        rfl
      · rw [if_neg k4, if_pos rfl, if_neg (by omega)]
  · rw [if_neg k2, if_neg (by omega)]
theorem p_coverFor (h : cS D s F) {hu : Int} : ∃ v, pfX11_coverFor pd_SH 5000 F 1 hu = some (v, F) ∧ ((¬ (1 ≤ hu ∧ hu ≤ 100) ∧ v = -1) ∨ ((1 ≤ hu ∧ hu ≤ 100) ∧ aCv D s hu v)) := by
  have n := h.w.sd
  have bN : 0 ≤ cNa D s ∧ cNa D s ≤ 1199999880 * sD D s := cNa_bd h.2.2.1 h.2.2.2.2.1.1 n.1
  unfold pfX11_coverFor
  by_cases k1 : hu < 1
  · rw [if_pos k1]
    exact ⟨-1, rfl, Or.inl ⟨by omega, rfl⟩⟩
  rw [if_neg k1]
  by_cases k2 : hu ≤ 100
  · have hw : 0 ≤ cNa D s * hu ∧ cNa D s * hu ≤ 20000000000 * 100 := ⟨Int.mul_nonneg bN.1 (by omega), Int.mul_le_mul (by omega) k2 (by omega) (by decide)⟩
    have hw2 : cNa D s * hu ≤ cNa D s * 100 := Int.mul_le_mul_of_nonneg_left k2 bN.1
    generalize hx : cNa D s * hu = x at hw hw2
    have hd : Int.tdiv (x + 99) 100 = (x + 99) / 100 := Int.tdiv_eq_ediv_of_nonneg (by omega)
    obtain ⟨v, f1, f2, f3, f4, f5⟩ := k_leastCover h.w (x := (x + 99) / 100) (by omega)
    refine ⟨v, ?_, Or.inr ⟨by omega, f2, f3, ?_, fun u a b => ?_⟩⟩
    · rw [if_pos k2]
      simp only [pl_l, pl_b, pl_iT, pl_t, pl_f, gx_1, gx_2, gx_3, gx_4, gx_113, gx_114, gx_115, gx_116, gx_212, gx_213, gx_224, gn_4, gn_114, gn_115, gn_116, gn_213, gn_224, lx_1_0 h.1, lx_1_1 h.1, lx_1_2 h.1, lx_1_3 h.1, lx_1_4 h.1, lx_1_5 h.1, lx_1_6 h.1, lx_1_7 h.1, lx_2_0 h.1, lx_3_0 h.1, lx_113_0 h.1, lx_113_1 h.1, lx_113_2 h.1, lx_212_0 h.1, lx_212_1 h.1, ox_236, k_netTogether h.w, hx]
      rw [pl_W (x := x) (by omega), pl_W (x := x + 99) (by omega), hd, pl_W (x := (x + 99) / 100) (by omega), f1]
      rfl
    · rw [hx]; omega
    · have := f5 u a b
      rw [hx]; omega
  · rw [if_neg k2]
    exact ⟨-1, rfl, Or.inl ⟨by omega, rfl⟩⟩
/-- the trial's state copied from the state -/
theorem c_toTrial (h : cS D s F) : ∃ F', pfX8_copyFrom pd_SH 5000 F 245 231 = some F' ∧ cS D s F' ∧ yF F F' ∧ stE F F' 245 231 ∧ sR D F' (F' 1 8) 245 s := by
  obtain ⟨G, f1, f2, f3, f4⟩ := c_copyFrom h.1 (d := 245) (s := 231) (Or.inr (Or.inl rfl)) aS_now (by decide)
  have y : yF F G := fun a ha => f3 a (by omega)
  have hb := aB_out h.2.1
  refine ⟨G, f1, h.y f2 y, y, f4, ?_⟩
  rw [y 1 (by omega)]
  exact sR_st h.2.2.1 h.2.2.2.2.1 ⟨y _ (by omega), y _ (by omega)⟩ f4
theorem c_dayOn (h : cS D s F) (hT : yT D s F) {day : Int} (h71 : day ≤ 999) : ∃ F', pfX11_paidOn pd_SH 5000 F 1 day = some (fDay D s day, F') ∧ cS D s F' ∧ yF F F' ∧ yT D s F' := by
  have hs := h.2.2.2.2.1.1
  obtain ⟨e1, e2⟩ := sN_71 (day := day) hs
  obtain ⟨G, f1, f2, f3, f4, f5, f6⟩ := c_paidOn h (s' := ru s 71 day) (day := day) (hs.up h.2.2.1 (Or.inl rfl)) (fun j a b => ru_n (by omega)) ⟨ru_e, h71⟩
    ⟨by rw [ru_n (by decide), ru_n (by decide)]; exact hT.1, hT.2.1.trans e2.symm, fun p a b => (hT.2.2 p a b).trans (e1 p).symm⟩
  rw [ru_n (show (72 : Int) ≠ 71 by decide)] at f1
  exact ⟨G, f1, f2, f3, by rw [f4 1 (by decide), f4 2 (by decide)]; exact hT.1, by rw [f5]; exact hT.2.1, by rw [f6]; exact hT.2.2⟩
theorem c_trialNow (h : cS D s F) : ∃ F1 F2, pfX8_copyFrom pd_SH 5000 F 245 231 = some F1 ∧ cS D s F1 ∧ pfX10_reckon pd_SH 5000 F1 251 (F 1 8) 245 = some F2 ∧ F1 1 8 = F 1 8 ∧ cS D s F2 ∧ yF F F2 ∧ yT D s F2 := by
  obtain ⟨F1, f1, f2, f3, f4, f5⟩ := c_toTrial h
  have e8 : F1 1 8 = F 1 8 := by rw [f3 1 (by omega)]
  obtain ⟨F2, g1, g2, g3, g4, g5⟩ := c_trialTies f2 (s' := s) (br_cOk f2.2.2.1 f2.2.2.2.1 f5) (br_cn f2.2.2.1 f2.2.2.2.1 f5) f5.2.2.2.2.2.2.1.2
  rw [e8] at g1
  exact ⟨F1, F2, f1, f2, g1, e8, g2, f3.tr g3, g5⟩
theorem p_onDay (h : cS D s F) {day : Int} : ∃ F', pfX11_onDay pd_SH 5000 F 1 day = some (if 0 ≤ day ∧ day ≤ 999 then cPU D (ru s 71 day) (s 72) else -1, F') ∧ cS D s F' ∧ yF F F' := by
  unfold pfX11_onDay
  simp only [pl_l, pl_b, pl_iT, pl_t, pl_f, p_isDay]
  by_cases k : 0 ≤ day ∧ day ≤ 999
  · obtain ⟨F1, F2, f1, f2, f3, e8, f4, f5, f6⟩ := c_trialNow h
    obtain ⟨F3, g1, g2, g3, g4⟩ := c_dayOn f4 f6 k.2
    refine ⟨F3, ?_, g2, f5.tr g3⟩
    have el := (ly_l f2.1 (l := 250) (Or.inr rfl)).1
    rw [show (250 : Int) + 1 = 251 from rfl] at el
    rw [if_pos k, if_pos (by decide)]
    simp only [pl_l, pl_b, pl_iT, pl_t, pl_f, gx_1, gx_2, gx_3, gx_4, gx_113, gx_114, gx_115, gx_116, gx_212, gx_213, gx_224, gn_4, gn_114, gn_115, gn_116, gn_213, gn_224, lx_1_0 h.1, lx_1_1 h.1, lx_1_2 h.1, lx_1_3 h.1, lx_1_4 h.1, lx_1_5 h.1, lx_1_6 h.1, lx_1_7 h.1, lx_2_0 h.1, lx_3_0 h.1, lx_113_0 h.1, lx_113_1 h.1, lx_113_2 h.1, lx_212_0 h.1, lx_212_1 h.1, ox_245, f1]
    simp only [pl_l, pl_b, pl_iT, pl_t, pl_f, gx_1, gx_2, gx_3, gx_4, gx_113, gx_114, gx_115, gx_116, gx_212, gx_213, gx_224, gn_4, gn_114, gn_115, gn_116, gn_213, gn_224, lx_1_0 f2.1, lx_1_1 f2.1, lx_1_2 f2.1, lx_1_3 f2.1, lx_1_4 f2.1, lx_1_5 f2.1, lx_1_6 f2.1, lx_1_7 f2.1, lx_2_0 f2.1, lx_3_0 f2.1, lx_113_0 f2.1, lx_113_1 f2.1, lx_113_2 f2.1, lx_212_0 f2.1, lx_212_1 f2.1, ox_250, ox_251, el, e8, f3, g1]
    rw [if_pos k]; rfl
  · rw [if_neg k, if_neg (by decide)]
    exact ⟨F, by rw [if_neg k], h, yF.rf F⟩
end CL

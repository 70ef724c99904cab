variable {sT : pd_S}
/-! the class: answers of the ledger -/
section CL
variable {D : pd_F} {s : Int → Int} {F : pd_F}
theorem cS.bd (h : cS D s F) : 0 ≤ cPU D s (s 72) ∧ cPU D s (s 72) ≤ 14399998560 := by
  have hb := h.2.2.1
  have hs := h.2.2.2.2.1.1
  have n := h.w.sd
  have : 0 ≤ cPU D s (s 72) ∧ cPU D s (s 72) ≤ 1199999880 * sD D s := cPU_bd hb hs hs.2.2.2.1.1 n.1
  omega
theorem cS.bc (h : cS D s F) (x : Int) : 0 ≤ cCn D s x (sD D s) ∧ cCn D s x (sD D s) ≤ 14399998560 := by
  have n := h.w.sd
  have := cCn_bd h.2.2.1 h.2.2.2.2.1.1 (w := x) n.1
  omega
theorem cCn_01 {n : Int} (hn : 0 ≤ n) : cCn D s 0 n + cCn D s 1 n = Sm (cCl D s) n := by
  unfold cCn
  rw [← Sm_add hn]
  refine Sm_congr fun d _ _ => ?_
  rcases cI_01 D s d with z | z
  · rw [z, if_pos rfl, if_neg (by decide)]; omega
  · rw [z, if_neg (by decide), if_pos rfl]; omega
theorem p_frozen (h : cS D s F) : pfX11_frozenBalances (pd_SH sT) 5000 F 1 = some (cFz D s, F) := by
  have hb := h.2.1
  have sb3 := (sh_b (sT := sT) hb).2.2.2.1
  have hD := h.2.2.1
  have n5 := hD.1.2.2.2.2.2.1
  have l1 := (ly_b h.1 hb).2.2.1
  have hs := h.2.2.2.2.1.1
  unfold pfX11_frozenBalances cFz
  refine pl_sum (f := fun k q i => pfX11_frozenBalances_b4 (pd_SH sT) 5000 k F 1 q i) (g := fun a => ci (lFl (D 381) (D 382) (D 383) 8 (5 + a)) (s a) 0) hD.1.2.2.2.2.1 (fun k q i x y e => ?_) (fun k q => ?_) (by omega)
  · have kg := h.2.2.2.1.2.2.2.2.2.2.2.1 i x y
    obtain ⟨-, -, -, sg, -⟩ := fy_g (sT := sT) h.1 hb (i := 5 + i) (by omega) (by omega)
    have eac := fy_ac h.1 hb (i := i) (by omega) (by omega)
    have ea := h.2.2.2.2.1.2.2.2.2.2.1 i x y
    rw [show (231 : Int) + 1 = 232 from rfl] at ea
    obtain ⟨-, -, k7, -⟩ := kg
    have b1 := Sm_bd (f := fun a => ci (lFl (D 381) (D 382) (D 383) 8 (5 + a)) (s a) 0) (lo := 0) (hi := 9999999) x (fun a u v => by
      have := hs.1 a u (by omega)
      rcases ci_o (lFl (D 381) (D 382) (D 383) 8 (5 + a)) (s a) 0 with w | w <;> rw [w.2] <;> omega)
    have b2 := hs.1 i x y
    show pfX11_frozenBalances_b4 (pd_SH sT) 5000 (k + 1) F 1 q i = pfX11_frozenBalances_b4 (pd_SH sT) 5000 k F 1 (q + ci (lFl (D 381) (D 382) (D 383) 8 (5 + i)) (s i) 0) (i + 1)
    rcases Classical.em (lFl (D 381) (D 382) (D 383) 8 (5 + i)) with z | z
    · rw [ci_t z] at k7 ⊢
      simp (disch := omega) only [pfX11_frozenBalances_b4, pfX11_frozenBalances_b43, pl_l, pl_b, pl_iT, pl_t, pl_f, gx_1, gx_2, gx_3, gx_4, gx_113, gx_114, gx_115, gx_116, gx_212, gx_213, gx_224, gn_4, gn_114, gn_115, gn_116, gn_213, gn_224, lx_1_0 h.1, lx_1_1 h.1, lx_1_2 h.1, lx_1_3 h.1, lx_1_4 h.1, lx_1_5 h.1, lx_1_6 h.1, lx_1_7 h.1, lx_2_0 h.1, lx_3_0 h.1, lx_113_0 h.1, lx_113_1 h.1, lx_113_2 h.1, lx_212_0 h.1, lx_212_1 h.1, h.ob, h.n2, l1, pl_ib sb3, eac, pl_ob sg, k7, ox_231, e_231 h.1, ix_232, ea, pl_i, pl_w, pl_W, if_neg]
    · rw [ci_f z] at k7 ⊢
      rw [Int.add_zero]
      simp (disch := omega) only [pfX11_frozenBalances_b4, pfX11_frozenBalances_b43, pl_l, pl_b, pl_iT, pl_t, pl_f, gx_1, gx_2, gx_3, gx_4, gx_113, gx_114, gx_115, gx_116, gx_212, gx_213, gx_224, gn_4, gn_114, gn_115, gn_116, gn_213, gn_224, lx_1_0 h.1, lx_1_1 h.1, lx_1_2 h.1, lx_1_3 h.1, lx_1_4 h.1, lx_1_5 h.1, lx_1_6 h.1, lx_1_7 h.1, lx_2_0 h.1, lx_3_0 h.1, lx_113_0 h.1, lx_113_1 h.1, lx_113_2 h.1, lx_212_0 h.1, lx_212_1 h.1, h.ob, h.n2, l1, pl_ib sb3, eac, pl_ob sg, k7, pl_i, pl_w, if_neg, if_pos]
  · show pfX11_frozenBalances_b4 (pd_SH sT) 5000 (k + 1) F 1 q _ = _
    simp (disch := omega) only [pfX11_frozenBalances_b4, pl_l, pl_b, pl_iT, pl_t, pl_f, gx_1, gx_2, gx_3, gx_4, gx_113, gx_114, gx_115, gx_116, gx_212, gx_213, gx_224, gn_4, gn_114, gn_115, gn_116, gn_213, gn_224, h.ob, h.n2, if_pos]
theorem p_all (h : cS D s F) {w : Int} : pfX11_all (pd_SH sT) 5000 F 1 w = some (aAll D s w, F) := by
  have n := h.w.sd
  have nt := h.w.nt
  rw [show (236 : Int) + 1 = 237 from rfl] at nt
  have e0 : Sm (aTm D s 0) (sD D s) = Sm (sHas D s) (sD D s) := Sm_congr fun d _ _ => by unfold aTm; rw [if_pos rfl]
  have e1 : Sm (aTm D s 1) (sD D s) = Sm (cSo D s) (sD D s) := Sm_congr fun d _ _ => by unfold aTm; rw [if_neg (by decide), if_pos rfl]
  have e2 : Sm (aTm D s 2) (sD D s) = cPU D s (s 72) := Sm_congr fun d _ _ => by unfold aTm; rw [if_neg (by decide), if_neg (by decide), if_pos rfl]
  have e3 : Sm (aTm D s 3) (sD D s) = cCn D s 0 (sD D s) + cCn D s 1 (sD D s) := by
    rw [cCn_01 n.1]
    exact Sm_congr fun d _ _ => by unfold aTm; rw [if_neg (by decide), if_neg (by decide), if_neg (by decide), if_pos rfl]
  have e6 : Sm (aTm D s 6) (sD D s) = Sm (fun d => if cCl D s d ≤ 0 then 0 else 1) (sD D s) := Sm_congr fun d _ _ => by unfold aTm; rw [if_neg (by decide), if_neg (by decide), if_neg (by decide), if_neg (by decide)]
  have b0 := h.bc 0
  have b1 := h.bc 1
  unfold pfX11_all aAll
  simp only [pl_l, pl_b, pl_iT, pl_t, pl_f, gx_1, gx_2, gx_3, gx_4, gx_113, gx_114, gx_115, gx_116, gx_212, gx_213, gx_224, gn_4, gn_114, gn_115, gn_116, gn_213, gn_224, lx_1_0 h.1, lx_1_1 h.1, lx_1_2 h.1, lx_1_3 h.1, lx_1_4 h.1, lx_1_5 h.1, lx_1_6 h.1, lx_1_7 h.1, lx_2_0 h.1, lx_3_0 h.1, lx_113_0 h.1, lx_113_1 h.1, lx_113_2 h.1, lx_212_0 h.1, lx_212_1 h.1, ox_236, ox_237, e_236 h.1, nt, k_hasTogether (sT := sT) h.w, k_setOffTogether (sT := sT) h.w, k_paidTogether (sT := sT) h.w, k_claimsOf (sT := sT) h.w, p_frozen (sT := sT) h, k_claimants (sT := sT) h.w]
  rw [pl_W (by omega)]
  by_cases w0 : w = 0
  · subst w0; rw [if_pos rfl, if_pos (by decide), if_neg (by decide), if_neg (by decide), e0]
  by_cases w1 : w = 1
  · subst w1; rw [if_neg w0, if_pos rfl, if_pos (by decide), if_neg (by decide), if_neg (by decide), e1]
  by_cases w2 : w = 2
  · subst w2; rw [if_neg w0, if_neg w1, if_pos rfl, if_pos (by decide), if_neg (by decide), if_neg (by decide), e2]
  by_cases w3 : w = 3
  · subst w3; rw [if_neg w0, if_neg w1, if_neg w2, if_pos rfl, if_pos (by decide), if_neg (by decide), if_neg (by decide), e3]
  by_cases w4 : w = 4
  · subst w4; rw [if_neg w0, if_neg w1, if_neg w2, if_neg w3, if_pos rfl, if_pos (by decide), if_pos rfl]
  by_cases w5 : w = 5
  · subst w5; rw [if_neg w0, if_neg w1, if_neg w2, if_neg w3, if_neg w4, if_pos rfl, if_pos (by decide), if_neg (by decide), if_pos rfl]
  by_cases w6 : w = 6
  · subst w6; rw [if_neg w0, if_neg w1, if_neg w2, if_neg w3, if_neg w4, if_neg w5, if_pos rfl, if_pos (by decide), if_neg (by decide), if_neg (by decide), e6]
  · rw [if_neg w0, if_neg w1, if_neg w2, if_neg w3, if_neg w4, if_neg w5, if_neg w6, if_neg (by omega)]
theorem p_ranked (h : cS D s F) {k : Int} : ∃ v, pfX11_ranked (pd_SH sT) 5000 F 1 k = some (v, F) ∧ aRk D s k v := by
  have n := h.w.sd
  have nt := h.w.nt
  rw [show (236 : Int) + 1 = 237 from rfl] at nt
  unfold pfX11_ranked
  rcases pl_find (f := fun j i => pfX11_ranked_b2 (pd_SH sT) 5000 j F 1 k i) (Q := fun i => cPl D s i = k) (hit := fun i => some (i, F)) (miss := some (-1, F)) (N := sD D s) n.1 (fun j i a b c => by
      show pfX11_ranked_b2 (pd_SH sT) 5000 (j + 1) F 1 k i = _
      simp (disch := omega) only [pfX11_ranked_b2, pl_l, pl_b, pl_iT, pl_t, pl_f, gx_1, gx_2, gx_3, gx_4, gx_113, gx_114, gx_115, gx_116, gx_212, gx_213, gx_224, gn_4, gn_114, gn_115, gn_116, gn_213, gn_224, lx_1_0 h.1, lx_1_1 h.1, lx_1_2 h.1, lx_1_3 h.1, lx_1_4 h.1, lx_1_5 h.1, lx_1_6 h.1, lx_1_7 h.1, lx_2_0 h.1, lx_3_0 h.1, lx_113_0 h.1, lx_113_1 h.1, lx_113_2 h.1, lx_212_0 h.1, lx_212_1 h.1, ox_236, ox_237, e_236 h.1, nt, k_aheadOf (sT := sT) h.w ⟨a, b⟩, pl_w, if_pos, if_neg]) (fun j i a b c => by
      show pfX11_ranked_b2 (pd_SH sT) 5000 (j + 1) F 1 k i = _
      simp (disch := omega) only [pfX11_ranked_b2, pl_l, pl_b, pl_iT, pl_t, pl_f, gx_1, gx_2, gx_3, gx_4, gx_113, gx_114, gx_115, gx_116, gx_212, gx_213, gx_224, gn_4, gn_114, gn_115, gn_116, gn_213, gn_224, lx_1_0 h.1, lx_1_1 h.1, lx_1_2 h.1, lx_1_3 h.1, lx_1_4 h.1, lx_1_5 h.1, lx_1_6 h.1, lx_1_7 h.1, lx_2_0 h.1, lx_3_0 h.1, lx_113_0 h.1, lx_113_1 h.1, lx_113_2 h.1, lx_212_0 h.1, lx_212_1 h.1, ox_236, ox_237, e_236 h.1, nt, k_aheadOf (sT := sT) h.w ⟨a, b⟩, pl_w, if_pos, if_neg]) (fun j => by
      show pfX11_ranked_b2 (pd_SH sT) 5000 (j + 1) F 1 k _ = _
      simp (disch := omega) only [pfX11_ranked_b2, pl_l, pl_b, pl_iT, pl_t, pl_f, gx_1, gx_2, gx_3, gx_4, gx_113, gx_114, gx_115, gx_116, gx_212, gx_213, gx_224, gn_4, gn_114, gn_115, gn_116, gn_213, gn_224, lx_1_0 h.1, lx_1_1 h.1, lx_1_2 h.1, lx_1_3 h.1, lx_1_4 h.1, lx_1_5 h.1, lx_1_6 h.1, lx_1_7 h.1, lx_2_0 h.1, lx_3_0 h.1, lx_113_0 h.1, lx_113_1 h.1, lx_113_2 h.1, lx_212_0 h.1, lx_212_1 h.1, ox_236, ox_237, e_236 h.1, nt, if_pos]) 5000 (by omega) with ⟨i, a, b, c, e, f⟩ | ⟨e, f⟩
  · exact ⟨i, f, Or.inl ⟨a, b, c, e⟩⟩
  · exact ⟨-1, f, Or.inr ⟨e, rfl⟩⟩
theorem p_enough (h : cS D s F) {r : Int} : pfX11_enough (pd_SH sT) 5000 F 1 r = some (aEn D s r, F) := by
  have b0 := h.bc 0
  have b1 := h.bc 1
  have b := h.bd
  unfold pfX11_enough aEn
  simp only [pl_l, pl_b, pl_iT, pl_t, pl_f, gx_1, gx_2, gx_3, gx_4, gx_113, gx_114, gx_115, gx_116, gx_212, gx_213, gx_224, gn_4, gn_114, gn_115, gn_116, gn_213, gn_224, lx_1_0 h.1, lx_1_1 h.1, lx_1_2 h.1, lx_1_3 h.1, lx_1_4 h.1, lx_1_5 h.1, lx_1_6 h.1, lx_1_7 h.1, lx_2_0 h.1, lx_3_0 h.1, lx_113_0 h.1, lx_113_1 h.1, lx_113_2 h.1, lx_212_0 h.1, lx_212_1 h.1, ox_236, k_paidTogether (sT := sT) h.w, k_claimsOf (sT := sT) h.w]
  rw [pl_W (x := cPU D s (s 72) + cCn D s 0 (sD D s)) (by omega), pl_W (x := cPU D s (s 72) + cCn D s 0 (sD D s) + cCn D s 1 (sD D s)) (by omega)]
  by_cases w0 : r = 0
  · rw [if_pos w0, if_pos w0]
  rw [if_neg w0, if_neg w0]
  by_cases w1 : r = 1
  · rw [if_pos w1, if_pos w1]
    by_cases z : cCn D s 0 (sD D s) ≤ 0
    · rw [if_pos z, if_neg (by omega)]
    · rw [if_neg z, if_pos (by omega)]
  rw [if_neg w1, if_neg w1]
  by_cases w2 : r = 2
  · rw [if_pos w2, if_pos w2]
    by_cases z : cCn D s 1 (sD D s) ≤ 0
    · rw [if_pos z, if_neg (by omega)]
    · rw [if_neg z, if_pos (by omega)]
  · rw [if_neg w2, if_neg w2]
theorem p_estate (h : cS D s F) {m d : Int} : pfX11_estate (pd_SH sT) 5000 F 1 m d = some (aEst D s m d, F) := by
  have n := h.w.sd
  unfold pfX11_estate aEst
  simp only [pl_l, pl_b, pl_iT, pl_t, pl_f, gx_1, gx_2, gx_3, gx_4, gx_113, gx_114, gx_115, gx_116, gx_212, gx_213, gx_224, gn_4, gn_114, gn_115, gn_116, gn_213, gn_224, lx_1_0 h.1, lx_1_1 h.1, lx_1_2 h.1, lx_1_3 h.1, lx_1_4 h.1, lx_1_5 h.1, lx_1_6 h.1, lx_1_7 h.1, lx_2_0 h.1, lx_3_0 h.1, lx_113_0 h.1, lx_113_1 h.1, lx_113_2 h.1, lx_212_0 h.1, lx_212_1 h.1, ox_236, k_paidTogether (sT := sT) h.w, p_isDepositor (sT := sT) h]
  by_cases k1 : m < 0
  · rw [if_pos k1, if_neg (by omega)]
  rw [if_neg k1]
  by_cases k2 : m ≤ 99999999
  · rw [if_pos k2]
    by_cases k3 : d = -1
    · rw [if_neg (by omega), if_pos (by omega), if_pos k3]
    · rw [if_pos k3]
      by_cases k4 : 0 ≤ d ∧ d < sD D s
      · rw [if_pos k4, if_neg (by decide), if_pos (by omega), if_neg k3, k_fromEstate (sT := sT) h.w k4 (by omega)]
        rfl
      · rw [if_neg k4, if_pos rfl, if_neg (by omega)]
  · rw [if_neg k2, if_neg (by omega)]
end CL

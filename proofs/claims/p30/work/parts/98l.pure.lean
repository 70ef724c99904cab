variable {sT : pd_S}
/-! parts told -/
theorem pcl_in {x y np nt : Int} (hn : np ≤ 12) (hx : (0 ≤ x ∧ x < np) ∨ (16 ≤ x ∧ x < 16 + nt)) (hy : (0 ≤ y ∧ y < np) ∨ (16 ≤ y ∧ y < 16 + nt)) : pcl x = pcl y ↔ x = y := by
  unfold pcl
  by_cases a : x < 16
  · rw [if_pos a]
    by_cases c : y < 16
    · rw [if_pos c]
    · rw [if_neg c]; omega
  · rw [if_neg a]
    by_cases c : y < 16
    · rw [if_pos c]; omega
    · rw [if_neg c]; omega
section PA
variable {b g s np nt : Int}
theorem c_hasPart {F : pd_F} (hL : pd_Ly F) (hc : pd_sh (pd_SH sT) g = some (4, 2, 8)) (hc1 : pd_sh (pd_SH sT) (g + 1) = some (0, 0, 5)) (l0 : F g 0 = g + 1) (hm : 0 ≤ F g 3 ∧ F g 3 ≤ 5) {v : Int} : pfX2_hasPart (pd_SH sT) 5000 F g v = some (ci (∃ i, 0 ≤ i ∧ i < F g 3 ∧ F (g + 1) i = v) 1 0, F) := by
  unfold pfX2_hasPart
  refine pl_some (f := fun j i => pfX2_hasPart_b2 (pd_SH sT) 5000 j F g v i) hm.1 (fun k i a d q => ?_) (fun k i a d q => ?_) (fun k => ?_) 5000 (by omega)
  · show pfX2_hasPart_b2 (pd_SH sT) 5000 (k + 1) F g v i = _
    simp only [pfX2_hasPart_b2, pl_l, pl_b, pl_iT, pl_t, pl_f, pl_ob hc, l0, pl_ib hc1]
    rw [if_neg (by omega), pl_i (by omega), if_neg (fun z => z q)]
  · show pfX2_hasPart_b2 (pd_SH sT) 5000 (k + 1) F g v i = _
    simp only [pfX2_hasPart_b2, pl_l, pl_b, pl_iT, pl_t, pl_f, pl_ob hc, l0, pl_ib hc1]
    rw [if_neg (by omega), pl_i (by omega), if_pos q, pl_w (by omega)]
  · show pfX2_hasPart_b2 (pd_SH sT) 5000 (k + 1) F g v _ = _
    simp only [pfX2_hasPart_b2, pl_l, pl_b, pl_iT, pl_t, pl_f, pl_ob hc]
    rw [if_pos (by omega)]
end PA

variable {sT : pd_S}
/-! persons told: the line -/
section PM
variable {b c x : Int}
theorem c_hasMark {F : pd_F} (hL : pd_Ly F) (hc : pd_sh (pd_SH sT) c = some (4, 5, 5)) (hc1 : pd_sh (pd_SH sT) (c + 1) = some (0, 0, 3)) (l0 : F c 0 = c + 1) (hm : 0 ≤ F c 1 ∧ F c 1 ≤ 3) {v : Int} : pfX5_hasMark (pd_SH sT) 5000 F c v = some (ci (∃ i, 0 ≤ i ∧ i < F c 1 ∧ F (c + 1) i = v) 1 0, F) := by
  unfold pfX5_hasMark
  refine pl_some (f := fun j i => pfX5_hasMark_b2 (pd_SH sT) 5000 j F c v i) hm.1 (fun k i a d q => ?_) (fun k i a d q => ?_) (fun k => ?_) 5000 (by omega)
  · show pfX5_hasMark_b2 (pd_SH sT) 5000 (k + 1) F c v i = _
    simp only [pfX5_hasMark_b2, pl_l, pl_b, pl_iT, pl_t, pl_f, pl_ob hc, l0, pl_ib hc1]
    rw [if_neg (by omega), pl_i (by omega), if_neg (fun z => z q)]
  · show pfX5_hasMark_b2 (pd_SH sT) 5000 (k + 1) F c v i = _
    simp only [pfX5_hasMark_b2, pl_l, pl_b, pl_iT, pl_t, pl_f, pl_ob hc, l0, pl_ib hc1]
    rw [if_neg (by omega), pl_i (by omega), if_pos q, pl_w (by omega)]
  · show pfX5_hasMark_b2 (pd_SH sT) 5000 (k + 1) F c v _ = _
    simp only [pfX5_hasMark_b2, pl_l, pl_b, pl_iT, pl_t, pl_f, pl_ob hc]
    rw [if_pos (by omega)]
end PM

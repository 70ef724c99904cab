variable {sT : pd_S}
/-! both side by side at one token -/
section JA
variable {F G : pd_F} {b : Int}
/-! words told -/
theorem c_at (hL : pd_Ly F) {w : Int} : pfX6_at (pd_SH sT) 5000 F 2 w = some (ci (F 3 4 = 1 ∧ F 3 8 = w) 1 0, F) := by
  unfold pfX6_at
  simp only [pl_l, pl_b, pl_iT, pl_t, pl_f, gx_1, gx_2, gx_3, gx_4, gx_113, gx_114, gx_115, gx_116, gx_212, gx_213, gx_224, gn_4, gn_114, gn_115, gn_116, gn_213, gn_224, lx_1_0 hL, lx_1_1 hL, lx_1_2 hL, lx_1_3 hL, lx_1_4 hL, lx_1_5 hL, lx_1_6 hL, lx_1_7 hL, lx_2_0 hL, lx_3_0 hL, lx_113_0 hL, lx_113_1 hL, lx_113_2 hL, lx_212_0 hL, lx_212_1 hL]
  by_cases k : F 3 4 = 1
  · rw [if_neg (fun e => e k)]
    by_cases z : F 3 8 = w
    · rw [if_neg (fun e => e z), ci_t ⟨k, z⟩]
    · rw [if_pos z, ci_f (fun e => z e.2)]
  · rw [if_pos k, ci_f (fun e => k e.1)]
def Kw8 (x : Int) : Prop := x = 123581014175598 ∨ x = 29676314523100530 ∨ x = 500136506228 ∨ x = 27412351463812724 ∨ x = 27691665836630885 ∨ x = 1751738216 ∨ x = 1718775661 ∨ x = 29807 ∨ x = 1819238766 ∨ x = 6583653 ∨ x = 427071792498 ∨ x = 491260572517 ∨ x = 109317377451364
theorem c_isTaken {x : Int} : pfX6_isTaken (pd_SH sT) 5000 F x = some (ci (Kw8 x) 1 0, F) := by
  unfold pfX6_isTaken
  by_cases h0 : x = 123581014175598
  · rw [if_pos h0]
    exact congrArg some (congrArg (fun v => (v, F)) (ci_t (p := Kw8 x) (Or.inl h0)).symm)
  rw [if_neg h0]
  by_cases h1 : x = 29676314523100530
  · rw [if_pos h1]
    exact congrArg some (congrArg (fun v => (v, F)) (ci_t (p := Kw8 x) (Or.inr (Or.inl h1))).symm)
  rw [if_neg h1]
  by_cases h2 : x = 500136506228
  · rw [if_pos h2]
    exact congrArg some (congrArg (fun v => (v, F)) (ci_t (p := Kw8 x) (Or.inr (Or.inr (Or.inl h2)))).symm)
  rw [if_neg h2]
  by_cases h3 : x = 27412351463812724
  · rw [if_pos h3]
    exact congrArg some (congrArg (fun v => (v, F)) (ci_t (p := Kw8 x) (Or.inr (Or.inr (Or.inr (Or.inl h3))))).symm)
  rw [if_neg h3]
  by_cases h4 : x = 27691665836630885
  · rw [if_pos h4]
    exact congrArg some (congrArg (fun v => (v, F)) (ci_t (p := Kw8 x) (Or.inr (Or.inr (Or.inr (Or.inr (Or.inl h4)))))).symm)
  rw [if_neg h4]
  by_cases h5 : x = 1751738216
  · rw [if_pos h5]
    exact congrArg some (congrArg (fun v => (v, F)) (ci_t (p := Kw8 x) (Or.inr (Or.inr (Or.inr (Or.inr (Or.inr (Or.inl h5))))))).symm)
  rw [if_neg h5]
  by_cases h6 : x = 1718775661
  · rw [if_pos h6]
    exact congrArg some (congrArg (fun v => (v, F)) (ci_t (p := Kw8 x) (Or.inr (Or.inr (Or.inr (Or.inr (Or.inr (Or.inr (Or.inl h6)))))))).symm)
  rw [if_neg h6]
  by_cases h7 : x = 29807
  · rw [if_pos h7]
    exact congrArg some (congrArg (fun v => (v, F)) (ci_t (p := Kw8 x) (Or.inr (Or.inr (Or.inr (Or.inr (Or.inr (Or.inr (Or.inr (Or.inl h7))))))))).symm)
  rw [if_neg h7]
  by_cases h8 : x = 1819238766
  · rw [if_pos h8]
    exact congrArg some (congrArg (fun v => (v, F)) (ci_t (p := Kw8 x) (Or.inr (Or.inr (Or.inr (Or.inr (Or.inr (Or.inr (Or.inr (Or.inr (Or.inl h8)))))))))).symm)
  rw [if_neg h8]
  by_cases h9 : x = 6583653
  · rw [if_pos h9]
    exact congrArg some (congrArg (fun v => (v, F)) (ci_t (p := Kw8 x) (Or.inr (Or.inr (Or.inr (Or.inr (Or.inr (Or.inr (Or.inr (Or.inr (Or.inr (Or.inl h9))))))))))).symm)
  rw [if_neg h9]
  by_cases h10 : x = 427071792498
  · rw [if_pos h10]
    exact congrArg some (congrArg (fun v => (v, F)) (ci_t (p := Kw8 x) (Or.inr (Or.inr (Or.inr (Or.inr (Or.inr (Or.inr (Or.inr (Or.inr (Or.inr (Or.inr (Or.inl h10)))))))))))).symm)
  rw [if_neg h10]
  by_cases h11 : x = 491260572517
  · rw [if_pos h11]
    exact congrArg some (congrArg (fun v => (v, F)) (ci_t (p := Kw8 x) (Or.inr (Or.inr (Or.inr (Or.inr (Or.inr (Or.inr (Or.inr (Or.inr (Or.inr (Or.inr (Or.inr (Or.inl h11))))))))))))).symm)
  rw [if_neg h11]
  by_cases h12 : x = 109317377451364
  · rw [if_neg (fun e => e h12)]
    exact congrArg some (congrArg (fun v => (v, F)) (ci_t (p := Kw8 x) (Or.inr (Or.inr (Or.inr (Or.inr (Or.inr (Or.inr (Or.inr (Or.inr (Or.inr (Or.inr (Or.inr (Or.inr h12))))))))))))).symm)
  rw [if_pos h12]
  exact congrArg some (congrArg (fun v => (v, F)) (ci_f (p := Kw8 x) (fun z => by unfold Kw8 at z; omega)).symm)
theorem c_atName (hL : pd_Ly F) : pfX6_atName (pd_SH sT) 5000 F 2 = some (ci (F 3 4 = 1 ∧ ¬ Kw8 (F 3 8)) 1 0, F) := by
  unfold pfX6_atName
  simp only [pl_l, pl_b, pl_iT, pl_t, pl_f, gx_1, gx_2, gx_3, gx_4, gx_113, gx_114, gx_115, gx_116, gx_212, gx_213, gx_224, gn_4, gn_114, gn_115, gn_116, gn_213, gn_224, lx_1_0 hL, lx_1_1 hL, lx_1_2 hL, lx_1_3 hL, lx_1_4 hL, lx_1_5 hL, lx_1_6 hL, lx_1_7 hL, lx_2_0 hL, lx_3_0 hL, lx_113_0 hL, lx_113_1 hL, lx_113_2 hL, lx_212_0 hL, lx_212_1 hL, c_isTaken]
  by_cases k : F 3 4 = 1
  · rw [if_neg (fun e => e k)]
    by_cases z : Kw8 (F 3 8)
    · rw [ci_t z, if_pos (by decide), ci_f (fun e => e.2 z)]
    · rw [ci_f z, if_neg (by decide), ci_t ⟨k, z⟩]
  · rw [if_pos k, ci_f (fun e => k e.1)]
/-! what lines are made of -/
end JA

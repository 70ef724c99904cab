/-! the class reads: the lines of the law's text, one after another -/
section RL
variable {sT : pd_S} {b : Int} {F F' B F0 : pd_F} {T : Int → Int} {N p q np nt na nh nl : Int} {u w : List Int}
theorem rl_person (hL : pd_Ly F) (hk : F 3 4 = 1 ∧ F 3 8 = 123581014175598) (e : pfX6_readPerson (pd_SH sT) 5000 F 2 = some (1, F')) : pfX6_readLine (pd_SH sT) 5000 F 2 = some (1, F') := by
  have c0 := c_at1 (sT := sT) hL hk
  unfold pfX6_readLine
  simp only [pl_l, pl_b, pl_iT, pl_t, pl_f, gx_1, gx_2, gx_3, gx_4, gx_113, gx_114, gx_115, gx_116, gx_212, gx_213, gx_224, gn_4, gn_114, gn_115, gn_116, gn_213, gn_224, c0]
  rw [if_neg (show ¬ (1 : Int) = 0 by decide), e]
  simp only [pl_l, pl_b, pl_iT, pl_t, pl_f]
  rw [pl_i (by decide)]
theorem rl_trust (hL : pd_Ly F) (hk : F 3 4 = 1 ∧ F 3 8 = 500136506228) (e : pfX6_readTrust (pd_SH sT) 5000 F 2 = some (1, F')) : pfX6_readLine (pd_SH sT) 5000 F 2 = some (1, F') := by
  have c0 := c_at0 (sT := sT) hL (w := 123581014175598) (fun z => absurd (hk.2.symm.trans z.2) (by decide))
  have c1 := c_at1 (sT := sT) hL hk
  unfold pfX6_readLine
  simp only [pl_l, pl_b, pl_iT, pl_t, pl_f, gx_1, gx_2, gx_3, gx_4, gx_113, gx_114, gx_115, gx_116, gx_212, gx_213, gx_224, gn_4, gn_114, gn_115, gn_116, gn_213, gn_224, c0, c1]
  rw [if_neg (show ¬ (1 : Int) = 0 by decide), e]
  simp only [pl_l, pl_b, pl_iT, pl_t, pl_f]
  rw [pl_i (by decide)]
theorem rl_account (hL : pd_Ly F) (hk : F 3 4 = 1 ∧ F 3 8 = 27412351463812724) (e : pfX6_readAccount (pd_SH sT) 5000 F 2 = some (1, F')) : pfX6_readLine (pd_SH sT) 5000 F 2 = some (1, F') := by
  have c0 := c_at0 (sT := sT) hL (w := 123581014175598) (fun z => absurd (hk.2.symm.trans z.2) (by decide))
  have c1 := c_at0 (sT := sT) hL (w := 500136506228) (fun z => absurd (hk.2.symm.trans z.2) (by decide))
  have c2 := c_at1 (sT := sT) hL hk
  unfold pfX6_readLine
  simp only [pl_l, pl_b, pl_iT, pl_t, pl_f, gx_1, gx_2, gx_3, gx_4, gx_113, gx_114, gx_115, gx_116, gx_212, gx_213, gx_224, gn_4, gn_114, gn_115, gn_116, gn_213, gn_224, c0, c1, c2]
  rw [if_neg (show ¬ (1 : Int) = 0 by decide), e]
  simp only [pl_l, pl_b, pl_iT, pl_t, pl_f]
  rw [pl_i (by decide)]
theorem rl_high (hL : pd_Ly F) (hk : F 3 4 = 1 ∧ F 3 8 = 1751738216) (e : pfX6_readHigh (pd_SH sT) 5000 F 2 = some (1, F')) : pfX6_readLine (pd_SH sT) 5000 F 2 = some (1, F') := by
  have c0 := c_at0 (sT := sT) hL (w := 123581014175598) (fun z => absurd (hk.2.symm.trans z.2) (by decide))
  have c1 := c_at0 (sT := sT) hL (w := 500136506228) (fun z => absurd (hk.2.symm.trans z.2) (by decide))
  have c2 := c_at0 (sT := sT) hL (w := 27412351463812724) (fun z => absurd (hk.2.symm.trans z.2) (by decide))
  have c3 := c_at1 (sT := sT) hL hk
  unfold pfX6_readLine
  simp only [pl_l, pl_b, pl_iT, pl_t, pl_f, gx_1, gx_2, gx_3, gx_4, gx_113, gx_114, gx_115, gx_116, gx_212, gx_213, gx_224, gn_4, gn_114, gn_115, gn_116, gn_213, gn_224, c0, c1, c2, c3]
  rw [if_neg (show ¬ (1 : Int) = 0 by decide), e]
  simp only [pl_l, pl_b, pl_iT, pl_t, pl_f]
  rw [pl_i (by decide)]
theorem rl_loan (hL : pd_Ly F) (hk : F 3 4 = 1 ∧ F 3 8 = 1819238766) (e : pfX6_readLoan (pd_SH sT) 5000 F 2 = some (1, F')) : pfX6_readLine (pd_SH sT) 5000 F 2 = some (1, F') := by
  have c0 := c_at0 (sT := sT) hL (w := 123581014175598) (fun z => absurd (hk.2.symm.trans z.2) (by decide))
  have c1 := c_at0 (sT := sT) hL (w := 500136506228) (fun z => absurd (hk.2.symm.trans z.2) (by decide))
  have c2 := c_at0 (sT := sT) hL (w := 27412351463812724) (fun z => absurd (hk.2.symm.trans z.2) (by decide))
  have c3 := c_at0 (sT := sT) hL (w := 1751738216) (fun z => absurd (hk.2.symm.trans z.2) (by decide))
  have c4 := c_at1 (sT := sT) hL hk
  unfold pfX6_readLine
  simp only [pl_l, pl_b, pl_iT, pl_t, pl_f, gx_1, gx_2, gx_3, gx_4, gx_113, gx_114, gx_115, gx_116, gx_212, gx_213, gx_224, gn_4, gn_114, gn_115, gn_116, gn_213, gn_224, c0, c1, c2, c3, c4]
  rw [if_neg (show ¬ (1 : Int) = 0 by decide), e]
  simp only [pl_l, pl_b, pl_iT, pl_t, pl_f]
  rw [pl_i (by decide)]
theorem rl_cover (hL : pd_Ly F) (hk : F 3 4 = 1 ∧ F 3 8 = 427071792498) (e : pfX6_readSetting (pd_SH sT) 5000 F 2 1 = some (1, F')) : pfX6_readLine (pd_SH sT) 5000 F 2 = some (1, F') := by
  have c0 := c_at0 (sT := sT) hL (w := 123581014175598) (fun z => absurd (hk.2.symm.trans z.2) (by decide))
  have c1 := c_at0 (sT := sT) hL (w := 500136506228) (fun z => absurd (hk.2.symm.trans z.2) (by decide))
  have c2 := c_at0 (sT := sT) hL (w := 27412351463812724) (fun z => absurd (hk.2.symm.trans z.2) (by decide))
  have c3 := c_at0 (sT := sT) hL (w := 1751738216) (fun z => absurd (hk.2.symm.trans z.2) (by decide))
  have c4 := c_at0 (sT := sT) hL (w := 1819238766) (fun z => absurd (hk.2.symm.trans z.2) (by decide))
  have c5 := c_at1 (sT := sT) hL hk
  unfold pfX6_readLine
  simp only [pl_l, pl_b, pl_iT, pl_t, pl_f, gx_1, gx_2, gx_3, gx_4, gx_113, gx_114, gx_115, gx_116, gx_212, gx_213, gx_224, gn_4, gn_114, gn_115, gn_116, gn_213, gn_224, c0, c1, c2, c3, c4, c5]
  rw [if_neg (show ¬ (1 : Int) = 0 by decide), e]
  simp only [pl_l, pl_b, pl_iT, pl_t, pl_f]
  rw [pl_i (by decide)]
theorem rl_raise (hL : pd_Ly F) (hk : F 3 4 = 1 ∧ F 3 8 = 491260572517) (e : pfX6_readSetting (pd_SH sT) 5000 F 2 2 = some (1, F')) : pfX6_readLine (pd_SH sT) 5000 F 2 = some (1, F') := by
  have c0 := c_at0 (sT := sT) hL (w := 123581014175598) (fun z => absurd (hk.2.symm.trans z.2) (by decide))
  have c1 := c_at0 (sT := sT) hL (w := 500136506228) (fun z => absurd (hk.2.symm.trans z.2) (by decide))
  have c2 := c_at0 (sT := sT) hL (w := 27412351463812724) (fun z => absurd (hk.2.symm.trans z.2) (by decide))
  have c3 := c_at0 (sT := sT) hL (w := 1751738216) (fun z => absurd (hk.2.symm.trans z.2) (by decide))
  have c4 := c_at0 (sT := sT) hL (w := 1819238766) (fun z => absurd (hk.2.symm.trans z.2) (by decide))
  have c5 := c_at0 (sT := sT) hL (w := 427071792498) (fun z => absurd (hk.2.symm.trans z.2) (by decide))
  have c6 := c_at1 (sT := sT) hL hk
  unfold pfX6_readLine
  simp only [pl_l, pl_b, pl_iT, pl_t, pl_f, gx_1, gx_2, gx_3, gx_4, gx_113, gx_114, gx_115, gx_116, gx_212, gx_213, gx_224, gn_4, gn_114, gn_115, gn_116, gn_213, gn_224, c0, c1, c2, c3, c4, c5, c6]
  rw [if_neg (show ¬ (1 : Int) = 0 by decide), e]
  simp only [pl_l, pl_b, pl_iT, pl_t, pl_f]
  rw [pl_i (by decide)]
theorem rl_closed (hL : pd_Ly F) (hk : F 3 4 = 1 ∧ F 3 8 = 109317377451364) (e : pfX6_readSetting (pd_SH sT) 5000 F 2 0 = some (1, F')) : pfX6_readLine (pd_SH sT) 5000 F 2 = some (1, F') := by
  have c0 := c_at0 (sT := sT) hL (w := 123581014175598) (fun z => absurd (hk.2.symm.trans z.2) (by decide))
  have c1 := c_at0 (sT := sT) hL (w := 500136506228) (fun z => absurd (hk.2.symm.trans z.2) (by decide))
  have c2 := c_at0 (sT := sT) hL (w := 27412351463812724) (fun z => absurd (hk.2.symm.trans z.2) (by decide))
  have c3 := c_at0 (sT := sT) hL (w := 1751738216) (fun z => absurd (hk.2.symm.trans z.2) (by decide))
  have c4 := c_at0 (sT := sT) hL (w := 1819238766) (fun z => absurd (hk.2.symm.trans z.2) (by decide))
  have c5 := c_at0 (sT := sT) hL (w := 427071792498) (fun z => absurd (hk.2.symm.trans z.2) (by decide))
  have c6 := c_at0 (sT := sT) hL (w := 491260572517) (fun z => absurd (hk.2.symm.trans z.2) (by decide))
  have c7 := c_at1 (sT := sT) hL hk
  unfold pfX6_readLine
  simp only [pl_l, pl_b, pl_iT, pl_t, pl_f, gx_1, gx_2, gx_3, gx_4, gx_113, gx_114, gx_115, gx_116, gx_212, gx_213, gx_224, gn_4, gn_114, gn_115, gn_116, gn_213, gn_224, c0, c1, c2, c3, c4, c5, c6, c7]
  rw [if_neg (show ¬ (1 : Int) = 0 by decide), e]
  simp only [pl_l, pl_b, pl_iT, pl_t, pl_f]
  rw [pl_i (by decide)]
end RL

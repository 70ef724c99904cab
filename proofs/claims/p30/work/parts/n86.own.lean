/-! the class reads: the lines of the law's text, one after another -/
section RL
variable {sT : pd_S} {b : Int} {F F' B F0 : pd_F} {T : Int → Int} {N p q np nt na nh nl : Int} {u w : List Int}
theorem rb0 {α : Type} {o : Option (Int × pd_F)} {X Y : Int → pd_F → Option α} (h : o = some (0, F)) : (Option.bind o fun q => pd_l q.1 fun r => pd_l q.2 fun G => if r = 0 then X r G else Y r G) = X 0 F := by
  rw [h]
  simp only [pl_b, pl_l, if_pos]
theorem rb1 {α : Type} {o : Option (Int × pd_F)} {X Y : Int → pd_F → Option α} (h : o = some (1, F)) : (Option.bind o fun q => pd_l q.1 fun r => pd_l q.2 fun G => if r = 0 then X r G else Y r G) = Y 1 F := by
  rw [h]
  simp only [pl_b, pl_l]
  rw [if_neg (show ¬ (1 : Int) = 0 by decide)]
theorem rb2 {o : Option (Int × pd_F)} (h : o = some (1, F)) : (Option.bind o fun q => pd_l q.1 fun r => pd_l q.2 fun G => pd_i (r = 0 ∨ r = 1) <| some (r, G)) = some (1, F) := by
  rw [h]
  simp only [pl_b, pl_l]
  rw [pl_i (by decide)]
theorem rl_person (hL : pd_Ly F) (hk : F 3 4 = 1 ∧ F 3 8 = 123581014175598) (e : pfX6_readPerson (pd_SH sT) 5000 F 2 = some (1, F')) : pfX6_readLine (pd_SH sT) 5000 F 2 = some (1, F') := by
  have c0 := c_at1 (sT := sT) hL hk
  unfold pfX6_readLine
  rw [pl_i (by rw [gx_2]; trivial)]
  refine (rb1 c0).trans ?_
  exact rb2 e
theorem rl_trust (hL : pd_Ly F) (hk : F 3 4 = 1 ∧ F 3 8 = 500136506228) (e : pfX6_readTrust (pd_SH sT) 5000 F 2 = some (1, F')) : pfX6_readLine (pd_SH sT) 5000 F 2 = some (1, F') := by
  have c0 := c_at0 (sT := sT) hL (w := 123581014175598) (fun z => absurd (hk.2.symm.trans z.2) (by decide))
  have c1 := c_at1 (sT := sT) hL hk
  unfold pfX6_readLine
  rw [pl_i (by rw [gx_2]; trivial)]
  refine (rb0 c0).trans ?_
  refine (rb1 c1).trans ?_
  exact rb2 e
theorem rl_account (hL : pd_Ly F) (hk : F 3 4 = 1 ∧ F 3 8 = 27412351463812724) (e : pfX6_readAccount (pd_SH sT) 5000 F 2 = some (1, F')) : pfX6_readLine (pd_SH sT) 5000 F 2 = some (1, F') := by
  have c0 := c_at0 (sT := sT) hL (w := 123581014175598) (fun z => absurd (hk.2.symm.trans z.2) (by decide))
  have c1 := c_at0 (sT := sT) hL (w := 500136506228) (fun z => absurd (hk.2.symm.trans z.2) (by decide))
  have c2 := c_at1 (sT := sT) hL hk
  unfold pfX6_readLine
  rw [pl_i (by rw [gx_2]; trivial)]
  refine (rb0 c0).trans ?_
  refine (rb0 c1).trans ?_
  refine (rb1 c2).trans ?_
  exact rb2 e
theorem rl_high (hL : pd_Ly F) (hk : F 3 4 = 1 ∧ F 3 8 = 1751738216) (e : pfX6_readHigh (pd_SH sT) 5000 F 2 = some (1, F')) : pfX6_readLine (pd_SH sT) 5000 F 2 = some (1, F') := by
  have c0 := c_at0 (sT := sT) hL (w := 123581014175598) (fun z => absurd (hk.2.symm.trans z.2) (by decide))
  have c1 := c_at0 (sT := sT) hL (w := 500136506228) (fun z => absurd (hk.2.symm.trans z.2) (by decide))
  have c2 := c_at0 (sT := sT) hL (w := 27412351463812724) (fun z => absurd (hk.2.symm.trans z.2) (by decide))
  have c3 := c_at1 (sT := sT) hL hk
  unfold pfX6_readLine
  rw [pl_i (by rw [gx_2]; trivial)]
  refine (rb0 c0).trans ?_
  refine (rb0 c1).trans ?_
  refine (rb0 c2).trans ?_
  refine (rb1 c3).trans ?_
  exact rb2 e
theorem rl_loan (hL : pd_Ly F) (hk : F 3 4 = 1 ∧ F 3 8 = 1819238766) (e : pfX6_readLoan (pd_SH sT) 5000 F 2 = some (1, F')) : pfX6_readLine (pd_SH sT) 5000 F 2 = some (1, F') := by
  have c0 := c_at0 (sT := sT) hL (w := 123581014175598) (fun z => absurd (hk.2.symm.trans z.2) (by decide))
  have c1 := c_at0 (sT := sT) hL (w := 500136506228) (fun z => absurd (hk.2.symm.trans z.2) (by decide))
  have c2 := c_at0 (sT := sT) hL (w := 27412351463812724) (fun z => absurd (hk.2.symm.trans z.2) (by decide))
  have c3 := c_at0 (sT := sT) hL (w := 1751738216) (fun z => absurd (hk.2.symm.trans z.2) (by decide))
  have c4 := c_at1 (sT := sT) hL hk
  unfold pfX6_readLine
  rw [pl_i (by rw [gx_2]; trivial)]
  refine (rb0 c0).trans ?_
  refine (rb0 c1).trans ?_
  refine (rb0 c2).trans ?_
  refine (rb0 c3).trans ?_
  refine (rb1 c4).trans ?_
  exact rb2 e
theorem rl_cover (hL : pd_Ly F) (hk : F 3 4 = 1 ∧ F 3 8 = 427071792498) (e : pfX6_readSetting (pd_SH sT) 5000 F 2 1 = some (1, F')) : pfX6_readLine (pd_SH sT) 5000 F 2 = some (1, F') := by
  have c0 := c_at0 (sT := sT) hL (w := 123581014175598) (fun z => absurd (hk.2.symm.trans z.2) (by decide))
  have c1 := c_at0 (sT := sT) hL (w := 500136506228) (fun z => absurd (hk.2.symm.trans z.2) (by decide))
  have c2 := c_at0 (sT := sT) hL (w := 27412351463812724) (fun z => absurd (hk.2.symm.trans z.2) (by decide))
  have c3 := c_at0 (sT := sT) hL (w := 1751738216) (fun z => absurd (hk.2.symm.trans z.2) (by decide))
  have c4 := c_at0 (sT := sT) hL (w := 1819238766) (fun z => absurd (hk.2.symm.trans z.2) (by decide))
  have c5 := c_at1 (sT := sT) hL hk
  unfold pfX6_readLine
  rw [pl_i (by rw [gx_2]; trivial)]
  refine (rb0 c0).trans ?_
  refine (rb0 c1).trans ?_
  refine (rb0 c2).trans ?_
  refine (rb0 c3).trans ?_
  refine (rb0 c4).trans ?_
  refine (rb1 c5).trans ?_
  exact rb2 e
theorem rl_raise (hL : pd_Ly F) (hk : F 3 4 = 1 ∧ F 3 8 = 491260572517) (e : pfX6_readSetting (pd_SH sT) 5000 F 2 2 = some (1, F')) : pfX6_readLine (pd_SH sT) 5000 F 2 = some (1, F') := by
  have c0 := c_at0 (sT := sT) hL (w := 123581014175598) (fun z => absurd (hk.2.symm.trans z.2) (by decide))
  have c1 := c_at0 (sT := sT) hL (w := 500136506228) (fun z => absurd (hk.2.symm.trans z.2) (by decide))
  have c2 := c_at0 (sT := sT) hL (w := 27412351463812724) (fun z => absurd (hk.2.symm.trans z.2) (by decide))
  have c3 := c_at0 (sT := sT) hL (w := 1751738216) (fun z => absurd (hk.2.symm.trans z.2) (by decide))
  have c4 := c_at0 (sT := sT) hL (w := 1819238766) (fun z => absurd (hk.2.symm.trans z.2) (by decide))
  have c5 := c_at0 (sT := sT) hL (w := 427071792498) (fun z => absurd (hk.2.symm.trans z.2) (by decide))
  have c6 := c_at1 (sT := sT) hL hk
  unfold pfX6_readLine
  rw [pl_i (by rw [gx_2]; trivial)]
  refine (rb0 c0).trans ?_
  refine (rb0 c1).trans ?_
  refine (rb0 c2).trans ?_
  refine (rb0 c3).trans ?_
  refine (rb0 c4).trans ?_
  refine (rb0 c5).trans ?_
  refine (rb1 c6).trans ?_
  exact rb2 e
theorem rl_closed (hL : pd_Ly F) (hk : F 3 4 = 1 ∧ F 3 8 = 109317377451364) (e : pfX6_readSetting (pd_SH sT) 5000 F 2 0 = some (1, F')) : pfX6_readLine (pd_SH sT) 5000 F 2 = some (1, F') := by
  have c0 := c_at0 (sT := sT) hL (w := 123581014175598) (fun z => absurd (hk.2.symm.trans z.2) (by decide))
  have c1 := c_at0 (sT := sT) hL (w := 500136506228) (fun z => absurd (hk.2.symm.trans z.2) (by decide))
  have c2 := c_at0 (sT := sT) hL (w := 27412351463812724) (fun z => absurd (hk.2.symm.trans z.2) (by decide))
  have c3 := c_at0 (sT := sT) hL (w := 1751738216) (fun z => absurd (hk.2.symm.trans z.2) (by decide))
  have c4 := c_at0 (sT := sT) hL (w := 1819238766) (fun z => absurd (hk.2.symm.trans z.2) (by decide))
  have c5 := c_at0 (sT := sT) hL (w := 427071792498) (fun z => absurd (hk.2.symm.trans z.2) (by decide))
  have c6 := c_at0 (sT := sT) hL (w := 491260572517) (fun z => absurd (hk.2.symm.trans z.2) (by decide))
  have c7 := c_at1 (sT := sT) hL hk
  unfold pfX6_readLine
  rw [pl_i (by rw [gx_2]; trivial)]
  refine (rb0 c0).trans ?_
  refine (rb0 c1).trans ?_
  refine (rb0 c2).trans ?_
  refine (rb0 c3).trans ?_
  refine (rb0 c4).trans ?_
  refine (rb0 c5).trans ?_
  refine (rb0 c6).trans ?_
  refine (rb1 c7).trans ?_
  exact rb2 e
end RL

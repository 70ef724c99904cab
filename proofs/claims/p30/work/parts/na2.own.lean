/-! what a rank gets: the pieces together -/
section LP
variable {D : pd_F} {s : Int → Int}
theorem share_bd {L C a x : Int} (hL : 0 ≤ L) (hC : L < C) (ha : 0 ≤ a) (hx : 0 ≤ x) : 0 ≤ Int.tdiv (L * (a + x)) C - Int.tdiv (L * a) C ∧ Int.tdiv (L * (a + x)) C - Int.tdiv (L * a) C ≤ x := by
  have e1 : 0 ≤ L * a := Int.mul_nonneg hL ha
  have e2 : 0 ≤ L * x := Int.mul_nonneg hL hx
  have e3 : L * x ≤ C * x := Int.mul_le_mul_of_nonneg_right (by omega) hx
  have e4 : 0 ≤ L * a + L * x := by omega
  rw [Int.mul_add, Int.tdiv_eq_ediv_of_nonneg e4, Int.tdiv_eq_ediv_of_nonneg e1]
  have m1 : L * a / C ≤ (L * a + L * x) / C := Int.ediv_le_ediv (by omega) (by omega)
  have m2 : (L * a + L * x) / C ≤ (L * a + C * x) / C := Int.ediv_le_ediv (by omega) (by omega)
  have m3 : (L * a + C * x) / C = L * a / C + x := Int.add_mul_ediv_left _ _ (by omega)
  rw [m3] at m2
  generalize L * a / C = u at *
  generalize (L * a + L * x) / C = v at *
  omega
/-- what d gets of L by his claim, among those of w -/
noncomputable def rT (D : pd_F) (s : Int → Int) (w L d : Int) : Int := if L ≤ 0 then 0 else if cCn D s w (sD D s) ≤ L then cCl D s d
  else Int.tdiv (L * (cCn D s w d + cCl D s d)) (cCn D s w (sD D s)) - Int.tdiv (L * cCn D s w d) (cCn D s w (sD D s))
theorem rT_bd (hD : bOk D) (hs : aOk D s) {w L d : Int} (hd : 0 ≤ d) : 0 ≤ rT D s w L d ∧ rT D s w L d ≤ cCl D s d := by
  have c := cCl_bd hD hs d
  have b := cCn_bd hD hs (w := w) hd
  unfold rT
  by_cases h0 : L ≤ 0
  · rw [if_pos h0]; omega
  · rw [if_neg h0]
    by_cases h1 : cCn D s w (sD D s) ≤ L
    · rw [if_pos h1]; omega
    · rw [if_neg h1]
      exact share_bd (by omega) (by omega) b.1 c.1
theorem cCn_s {w d : Int} (hd : 0 ≤ d) : cCn D s w (d + 1) = cCn D s w d + (if cI D s d = w then cCl D s d else 0) := Sm_s hd
theorem rT_all (hD : bOk D) (hs : aOk D s) (w L : Int) : Sm (fun d => if cI D s d = w then rT D s w L d else 0) (sD D s) = min (max L 0) (cCn D s w (sD D s)) := by
  have n := sD_12 (s := s) hD
  have b := cCn_bd hD hs (w := w) n.1
  by_cases h0 : L ≤ 0
  · rw [Sm_zero]
    · omega
    · intro d _ _
      show (if cI D s d = w then rT D s w L d else 0) = 0
      unfold rT
      rw [if_pos h0]
      split <;> rfl
  · by_cases h1 : cCn D s w (sD D s) ≤ L
    · have e : Sm (fun d => if cI D s d = w then rT D s w L d else 0) (sD D s) = cCn D s w (sD D s) := Sm_congr fun d _ _ => by
        unfold rT
        rw [if_neg h0, if_pos h1]
      rw [e]; omega
    · obtain ⟨C, hC⟩ : ∃ C, cCn D s w (sD D s) = C := ⟨_, rfl⟩
      have e : Sm (fun d => if cI D s d = w then rT D s w L d else 0) (sD D s) = Sm (fun d => (fun i => Int.tdiv (L * cCn D s w i) C) (d + 1) - (fun i => Int.tdiv (L * cCn D s w i) C) d) (sD D s) := Sm_congr fun d x y => by
        show (if cI D s d = w then rT D s w L d else 0) = Int.tdiv (L * cCn D s w (d + 1)) C - Int.tdiv (L * cCn D s w d) C
        rw [cCn_s x]
        by_cases z : cI D s d = w
        · rw [if_pos z, if_pos z]
          unfold rT
          rw [if_neg h0, if_neg h1, hC]
        · rw [if_neg z, if_neg z, Int.add_zero]
          omega
      have t : _ = Int.tdiv (L * cCn D s w (sD D s)) C - Int.tdiv (L * cCn D s w 0) C := Sm_tel (f := fun i => Int.tdiv (L * cCn D s w i) C) n.1
      have z0 : cCn D s w 0 = 0 := rfl
      refine (e.trans t).trans ?_
      rw [hC, z0, Int.mul_zero, Int.zero_tdiv, Int.mul_tdiv_cancel _ (by omega)]
      omega
/-- the money that comes to the rank of w -/
noncomputable def rL (D : pd_F) (s : Int → Int) (m w : Int) : Int := m - cPU D s (s 72) - (if w = 1 then cCn D s 0 (sD D s) else 0)
theorem aEs_r {m d : Int} : aEs D s m d = rT D s (cI D s d) (rL D s m (cI D s d)) d := rfl
noncomputable def gt (D : pd_F) (s : Int → Int) (m w n : Int) : Int := Sm (fun d => if cI D s d = w then aEs D s m d else 0) n
theorem gt_all (hD : bOk D) (hs : aOk D s) (m w : Int) : gt D s m w (sD D s) = min (max (rL D s m w) 0) (cCn D s w (sD D s)) := by
  rw [← rT_all hD hs]
  unfold gt
  refine Sm_congr fun d _ _ => ?_
  by_cases z : cI D s d = w
  · rw [if_pos z, if_pos z, aEs_r, z]
  · rw [if_neg z, if_neg z]
theorem gt_s {m w d : Int} (hd : 0 ≤ d) : gt D s m w (d + 1) = gt D s m w d + (if cI D s d = w then aEs D s m d else 0) := Sm_s hd
theorem aEs_bd (hD : bOk D) (hs : aOk D s) {m d : Int} (hd : 0 ≤ d) : 0 ≤ aEs D s m d ∧ aEs D s m d ≤ cCl D s d := by
  rw [aEs_r]; exact rT_bd hD hs hd
theorem gt_bd (hD : bOk D) (hs : aOk D s) {m w n : Int} (hn : 0 ≤ n) : 0 ≤ gt D s m w n ∧ gt D s m w n ≤ 1199999880 * n := by
  have := Sm_bd (f := fun d => if cI D s d = w then aEs D s m d else 0) (lo := 0) (hi := 1199999880) hn (fun d x _ => by
    have a := cCl_bd hD hs d
    have b := aEs_bd hD hs (m := m) x
    split <;> omega)
  unfold gt
  omega
end LP

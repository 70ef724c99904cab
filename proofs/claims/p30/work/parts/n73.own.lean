/-! the law's text: its parts and lines -/
def wCov : List Int := [99, 111, 118, 101, 114, 32]
theorem wlCov : wCov.length = 6 := rfl
theorem wsCov {sh : pd_S} {F : pd_F} : tS sh F (-2) wCov := Or.inl ⟨by decide, by decide, by decide, by decide⟩
theorem wpCov : pr wCov := by unfold pr; decide
def wClo : List Int := [59, 99, 108, 111, 115, 101, 100, 32]
theorem wlClo : wClo.length = 8 := rfl
theorem wsClo {sh : pd_S} {F : pd_F} : tS sh F (-3) wClo := Or.inl ⟨by decide, by decide, by decide, by decide⟩
theorem wpClo : pr wClo := by unfold pr; decide
def wRai : List Int := [59, 114, 97, 105, 115, 101, 32]
theorem wlRai : wRai.length = 7 := rfl
theorem wsRai {sh : pd_S} {F : pd_F} : tS sh F (-4) wRai := Or.inl ⟨by decide, by decide, by decide, by decide⟩
theorem wpRai : pr wRai := by unfold pr; decide
def wSem : List Int := [59]
theorem wlSem : wSem.length = 1 := rfl
theorem wsSem {sh : pd_S} {F : pd_F} : tS sh F (-5) wSem := Or.inl ⟨by decide, by decide, by decide, by decide⟩
theorem wpSem : pr wSem := by unfold pr; decide
def wPer : List Int := [112, 101, 114, 115, 111, 110, 32]
theorem wlPer : wPer.length = 7 := rfl
theorem wsPer {sh : pd_S} {F : pd_F} : tS sh F (-6) wPer := Or.inl ⟨by decide, by decide, by decide, by decide⟩
theorem wpPer : pr wPer := by unfold pr; decide
def wP : List Int := [112]
theorem wlP : wP.length = 1 := rfl
theorem wsP {sh : pd_S} {F : pd_F} : tS sh F (-7) wP := Or.inl ⟨by decide, by decide, by decide, by decide⟩
theorem wpP : pr wP := by unfold pr; decide
def wSp : List Int := [32]
theorem wlSp : wSp.length = 1 := rfl
theorem wsSp {sh : pd_S} {F : pd_F} : tS sh F (-8) wSp := Or.inl ⟨by decide, by decide, by decide, by decide⟩
theorem wpSp : pr wSp := by unfold pr; decide
def wNine : List Int := [32, 57]
theorem wlNine : wNine.length = 2 := rfl
theorem wsNine {sh : pd_S} {F : pd_F} : tS sh F (-9) wNine := Or.inl ⟨by decide, by decide, by decide, by decide⟩
theorem wpNine : pr wNine := by unfold pr; decide
def wNo : List Int := []
theorem wlNo : wNo.length = 0 := rfl
theorem wsNo {sh : pd_S} {F : pd_F} : tS sh F (-10) wNo := Or.inl ⟨by decide, by decide, by decide, by decide⟩
theorem wpNo : pr wNo := by unfold pr; decide
def wIns : List Int := [32, 105, 110, 115, 105, 100, 101, 114]
theorem wlIns : wIns.length = 8 := rfl
theorem wsIns {sh : pd_S} {F : pd_F} : tS sh F (-11) wIns := Or.inl ⟨by decide, by decide, by decide, by decide⟩
theorem wpIns : pr wIns := by unfold pr; decide
def wTru : List Int := [116, 114, 117, 115, 116, 32]
theorem wlTru : wTru.length = 6 := rfl
theorem wsTru {sh : pd_S} {F : pd_F} : tS sh F (-12) wTru := Or.inl ⟨by decide, by decide, by decide, by decide⟩
theorem wpTru : pr wTru := by unfold pr; decide
def wT : List Int := [116]
theorem wlT : wT.length = 1 := rfl
theorem wsT {sh : pd_S} {F : pd_F} : tS sh F (-13) wT := Or.inl ⟨by decide, by decide, by decide, by decide⟩
theorem wpT : pr wT := by unfold pr; decide
def wAcc : List Int := [97, 99, 99, 111, 117, 110, 116, 32]
theorem wlAcc : wAcc.length = 8 := rfl
theorem wsAcc {sh : pd_S} {F : pd_F} : tS sh F (-14) wAcc := Or.inl ⟨by decide, by decide, by decide, by decide⟩
theorem wpAcc : pr wAcc := by unfold pr; decide
def wA : List Int := [97]
theorem wlA : wA.length = 1 := rfl
theorem wsA {sh : pd_S} {F : pd_F} : tS sh F (-15) wA := Or.inl ⟨by decide, by decide, by decide, by decide⟩
theorem wpA : pr wA := by unfold pr; decide
def wBal : List Int := [32, 98, 97, 108, 97, 110, 99, 101, 32]
theorem wlBal : wBal.length = 9 := rfl
theorem wsBal {sh : pd_S} {F : pd_F} : tS sh F (-16) wBal := Or.inl ⟨by decide, by decide, by decide, by decide⟩
theorem wpBal : pr wBal := by unfold pr; decide
def wHigh : List Int := [104, 105, 103, 104, 32]
theorem wlHigh : wHigh.length = 5 := rfl
theorem wsHigh {sh : pd_S} {F : pd_F} : tS sh F (-17) wHigh := Or.inl ⟨by decide, by decide, by decide, by decide⟩
theorem wpHigh : pr wHigh := by unfold pr; decide
def wFrom : List Int := [32, 102, 114, 111, 109, 32]
theorem wlFrom : wFrom.length = 6 := rfl
theorem wsFrom {sh : pd_S} {F : pd_F} : tS sh F (-18) wFrom := Or.inl ⟨by decide, by decide, by decide, by decide⟩
theorem wpFrom : pr wFrom := by unfold pr; decide
def wTo : List Int := [32, 116, 111, 32]
theorem wlTo : wTo.length = 4 := rfl
theorem wsTo {sh : pd_S} {F : pd_F} : tS sh F (-19) wTo := Or.inl ⟨by decide, by decide, by decide, by decide⟩
theorem wpTo : pr wTo := by unfold pr; decide
def wLoan : List Int := [59, 108, 111, 97, 110, 32]
theorem wlLoan : wLoan.length = 6 := rfl
theorem wsLoan {sh : pd_S} {F : pd_F} : tS sh F (-20) wLoan := Or.inl ⟨by decide, by decide, by decide, by decide⟩
theorem wpLoan : pr wLoan := by unfold pr; decide
def wDue : List Int := [32, 100, 117, 101, 32]
theorem wlDue : wDue.length = 5 := rfl
theorem wsDue {sh : pd_S} {F : pd_F} : tS sh F (-21) wDue := Or.inl ⟨by decide, by decide, by decide, by decide⟩
theorem wpDue : pr wDue := by unfold pr; decide
theorem dg_lenv {v : Int} : (v < 10 → (dg v).length = 1) ∧ (v < 100 → (dg v).length ≤ 2) ∧ (dg v).length ≤ 4 := by
  rw [dg_len, dg1_len, dg1_len]
  refine ⟨fun h => ?_, fun h => ?_, ?_⟩ <;> repeat' split
  all_goals omega
/-- parts told -/
def ptx (q : Int × Int × Int) : List Int := [32, q.1, 97 + q.2.1, 32] ++ dg q.2.2
def ptxt (ps : List (Int × Int × Int)) : List Int := ps.flatMap ptx
def gp (np nt : Int) (ps : List (Int × Int × Int)) : Prop := (∀ q ∈ ps, ((q.1 = 112 ∧ 0 ≤ q.2.1 ∧ q.2.1 < np) ∨ (q.1 = 116 ∧ 0 ≤ q.2.1 ∧ q.2.1 < nt)) ∧ 0 ≤ q.2.2 ∧ q.2.2 < 10) ∧ ps.Pairwise fun a b => ¬ (a.1 = b.1 ∧ a.2.1 = b.2.1)
theorem ptxt_snoc {ps : List (Int × Int × Int)} {q : Int × Int × Int} : ptxt (ps ++ [q]) = ptxt ps ++ [32] ++ [q.1, 97 + q.2.1] ++ [32] ++ dg q.2.2 := by
  unfold ptxt
  rw [List.flatMap_append]
  simp only [List.flatMap_cons, List.flatMap_nil, List.append_nil, ptx, List.append_assoc, List.cons_append, List.nil_append]
theorem ptx_len {q : Int × Int × Int} (h : q.2.2 < 10) : (ptx q).length = 5 := by
  unfold ptx
  rw [List.length_append, (dg_lenv (v := q.2.2)).1 h]; rfl
theorem ptxt_len {np nt : Int} {ps : List (Int × Int × Int)} (h : gp np nt ps) : (ptxt ps).length = 5 * ps.length := by
  obtain ⟨h1, -⟩ := h
  unfold ptxt
  induction ps with
  | nil => rfl
  | cons q ps ih =>
    rw [List.flatMap_cons, List.length_append, ih (fun x hx => h1 x (List.mem_cons_of_mem _ hx)), ptx_len (h1 q (List.mem_cons_self)).2.2, List.length_cons]
    omega
theorem gp.snoc {np nt : Int} {ps : List (Int × Int × Int)} {q : Int × Int × Int} (h : gp np nt ps) (hq : ((q.1 = 112 ∧ 0 ≤ q.2.1 ∧ q.2.1 < np) ∨ (q.1 = 116 ∧ 0 ≤ q.2.1 ∧ q.2.1 < nt)) ∧ 0 ≤ q.2.2 ∧ q.2.2 < 10) (hd : ∀ a ∈ ps, ¬ (a.1 = q.1 ∧ a.2.1 = q.2.1)) : gp np nt (ps ++ [q]) := by
  refine ⟨fun x hx => ?_, ?_⟩
  · rcases List.mem_append.mp hx with hx | hx
    · exact h.1 x hx
    · rw [List.mem_singleton.mp hx]; exact hq
  · rw [List.pairwise_append]
    refine ⟨h.2, List.pairwise_singleton _ _, fun a ha b hb => ?_⟩
    rw [List.mem_singleton.mp hb]; exact hd a ha
theorem tX.tr {S0 S1 S2 : pd_S} {F0 F1 F2 : pd_F} {t : Int} {w : List Int} (g : gr S0 F0 S1 F1) (h : tX S1 F1 S2 F2 t w) : tX S0 F0 S2 F2 t w := by
  obtain ⟨h1, h2, h3, h4⟩ := h
  have := g.1.le
  exact ⟨g.tr h1, h2, h3, by omega⟩
section PARTS
variable {α : Type} {P : Option α → Prop} {S sh : pd_S} {F0 F : pd_F} {n : Nat} {b s : Int} {l w : List Int} {Ls : Int} {xs : Int → Int}
theorem p_tail (hn : 5 ≤ n) (hL : 0 ≤ Ls) {x1 x2 x3 x5 N : Int} (h1 : 0 ≤ x1 ∧ x1 ≤ 1000) (h3 : 0 ≤ x3 ∧ x3 ≤ 3) {ps : List (Int × Int × Int)} (hg : gp x2 x3 ps) (hpp : ∀ q ∈ ps, q.1 = 112) (hN : (ps.length : Int) ≤ 3) (ht : tX S F0 sh F x5 (ptxt ps)) (hm : N ≤ ps.length) :
    tM S F0 (fun w => ∃ ps, gp x2 x3 ps ∧ N ≤ (ps.length : Int) ∧ (ps.length : Int) ≤ 4 ∧ w = ptxt ps) (pfL_parts_b103 Ls xs n sh F x1 x3 x5) := by
  have hlen := ptxt_len hg
  have stay : tM S F0 (fun w => ∃ ps, gp x2 x3 ps ∧ N ≤ (ps.length : Int) ∧ (ps.length : Int) ≤ 4 ∧ w = ptxt ps) (some (x5, sh, F)) := ⟨_, _, _, _, ⟨ps, hg, hm, by omega, rfl⟩, rfl, ht⟩
  unfold pfL_parts_b103
  by_cases hx : x3 ≤ 0
  · rw [if_pos hx]; exact stay
  rw [if_neg hx]
  refine q_some hL (pwn (by omega)) (by omega) fun v _ _ => ?_
  by_cases hv : v ≠ 0
  · rw [if_pos hv]; exact stay
  rw [if_neg hv]
  refine q_new fun sh1 F1 b1 => ?_
  refine q_app b1 ht.2.1 ht.2.2.1 (by simp only [List.length_append, List.length_cons, List.length_nil, wlCov, wlClo, wlRai, wlSem, wlPer, wlP, wlSp, wlNine, wlNo, wlIns, wlTru, wlT, wlAcc, wlA, wlBal, wlHigh, wlFrom, wlTo, wlLoan, wlDue]; omega) fun sh2 F2 b2 => ?_
  refine q_app b2 wsSp wpSp (by simp only [List.length_append, List.length_cons, List.length_nil, wlCov, wlClo, wlRai, wlSem, wlPer, wlP, wlSp, wlNine, wlNo, wlIns, wlTru, wlT, wlAcc, wlA, wlBal, wlHigh, wlFrom, wlTo, wlLoan, wlDue]; omega) fun sh3 F3 b3 => ?_
  refine q_some hL (pwn (by omega)) (by omega) fun i i1 i2 => ?_
  refine q_mk (p_name wsT (by decide) (by omega)) fun w t sh4 F4 hw ht4 => ?_
  subst hw
  refine q_app1 b3 ht4 (by simp only [List.length_append, List.length_cons, List.length_nil, wlCov, wlClo, wlRai, wlSem, wlPer, wlP, wlSp, wlNine, wlNo, wlIns, wlTru, wlT, wlAcc, wlA, wlBal, wlHigh, wlFrom, wlTo, wlLoan, wlDue]; omega) fun sh5 F5 b5 => ?_
  refine q_app b5 wsSp wpSp (by simp only [List.length_append, List.length_cons, List.length_nil, wlCov, wlClo, wlRai, wlSem, wlPer, wlP, wlSp, wlNine, wlNo, wlIns, wlTru, wlT, wlAcc, wlA, wlBal, wlHigh, wlFrom, wlTo, wlLoan, wlDue]; omega) fun sh6 F6 b6 => ?_
  refine q_some hL (pwn (by omega)) (by omega) fun u u1 u2 => ?_
  have du := (dg_lenv (v := u)).1 (by omega)
  refine q_int hn b6 (by omega) (by simp only [List.length_append, List.length_cons, List.length_nil, wlCov, wlClo, wlRai, wlSem, wlPer, wlP, wlSp, wlNine, wlNo, wlIns, wlTru, wlT, wlAcc, wlA, wlBal, wlHigh, wlFrom, wlTo, wlLoan, wlDue]; omega) fun sh7 F7 b7 => ?_
  have e : [] ++ ptxt ps ++ wSp ++ [116, 97 + i] ++ wSp ++ dg u = ptxt (ps ++ [(116, i, u)]) := by rw [ptxt_snoc]; rfl
  rw [e] at b7
  have hpr : pr (ptxt (ps ++ [(116, i, u)])) := by
    rw [← e]
    exact pr_app (pr_app (pr_app (pr_app ht.2.2.1 wpSp) (pr2 (by decide) (by omega))) wpSp) (dg_pr (by omega))
  refine q_str b7 hpr fun t' sh8 F8 _ ht8 => ?_
  rw [pl_i ht8.2.1.ne]
  exact ⟨_, _, _, _, ⟨ps ++ [(116, i, u)], hg.snoc ⟨Or.inr ⟨rfl, i1, i2⟩, u1, by show u < 10; omega⟩ (fun a ha z => by have := hpp a ha; omega), by rw [List.length_append]; simp only [List.length_cons, List.length_nil]; omega, by rw [List.length_append]; simp only [List.length_cons, List.length_nil]; omega, rfl⟩, rfl, tX.tr ht.1 ht8⟩
theorem md {x2 a i j : Int} (h : 3 ≤ x2 ∧ x2 ≤ 6) (hi : 0 ≤ i ∧ i < j ∧ j < x2) : (a + i) % x2 ≠ (a + j) % x2 := by
  have : x2 = 3 ∨ x2 = 4 ∨ x2 = 5 ∨ x2 = 6 := by omega
  rcases this with rfl | rfl | rfl | rfl <;> omega
theorem p_loop (hn : 5 ≤ n) (hL : 0 ≤ Ls) {x1 x2 x3 x6 x7 N : Int} (h1 : 0 ≤ x1 ∧ x1 ≤ 1000) (h2 : 3 ≤ x2 ∧ x2 ≤ 6) (h3 : 0 ≤ x3 ∧ x3 ≤ 3) (h6 : N ≤ x6 ∧ x6 ≤ 3) (h7 : 0 ≤ x7 ∧ x7 < x2) (hNN : N ≤ 3) : ∀ (k : Nat) (sh : pd_S) (F : pd_F) (x5 x8 : Int) (ps : List (Int × Int × Int)), (k : Int) + x8 = 4 → 0 ≤ x8 ∧ x8 ≤ 3 → gp x2 x3 ps → (∀ q ∈ ps, q.1 = 112 ∧ ∃ j, 0 ≤ j ∧ j < x8 ∧ q.2.1 = (x7 + j) % x2) → (ps.length : Int) = x8 → tX S F0 sh F x5 (ptxt ps) →
    tM S F0 (fun w => ∃ ps, gp x2 x3 ps ∧ N ≤ (ps.length : Int) ∧ (ps.length : Int) ≤ 4 ∧ w = ptxt ps) (pfL_parts_b28 Ls xs n k sh F x1 x2 x3 x5 x6 x7 x8) := by
  intro k
  induction k with
  | zero => intro sh F x5 x8 ps hk h8; omega
  | succ k ih =>
    intro sh F x5 x8 ps hk h8 hg hpp hlen8 ht
    have hlen := ptxt_len hg
    have done : N ≤ x8 → tM S F0 (fun w => ∃ ps, gp x2 x3 ps ∧ N ≤ (ps.length : Int) ∧ (ps.length : Int) ≤ 4 ∧ w = ptxt ps) (pfL_parts_b103 Ls xs n sh F x1 x3 x5) := fun hN => p_tail hn hL h1 h3 hg (fun q hq => (hpp q hq).1) (by omega) ht (by omega)
    show tM _ _ _ (if x8 ≥ x6 then _ else if x8 ≥ x2 then _ else _)
    by_cases c1 : x8 ≥ x6
    · rw [if_pos c1]; exact done (by omega)
    rw [if_neg c1]
    by_cases c2 : x8 ≥ x2
    · rw [if_pos c2]; exact done (by omega)
    rw [if_neg c2]
    have e0 : Int.tmod (pd_w (x7 + x8)) x2 = (x7 + x8) % x2 := by rw [pl_w (by omega), Int.tmod_eq_emod_of_nonneg (by omega)]
    have m1 := Int.emod_nonneg (x7 + x8) (b := x2) (by omega)
    have m2 := Int.emod_lt_of_pos (x7 + x8) (b := x2) (by omega)
    refine q_new fun sh1 F1 b1 => ?_
    refine q_app b1 ht.2.1 ht.2.2.1 (by simp only [List.length_append, List.length_cons, List.length_nil, wlCov, wlClo, wlRai, wlSem, wlPer, wlP, wlSp, wlNine, wlNo, wlIns, wlTru, wlT, wlAcc, wlA, wlBal, wlHigh, wlFrom, wlTo, wlLoan, wlDue]; omega) fun sh2 F2 b2 => ?_
    refine q_app b2 wsSp wpSp (by simp only [List.length_append, List.length_cons, List.length_nil, wlCov, wlClo, wlRai, wlSem, wlPer, wlP, wlSp, wlNine, wlNo, wlIns, wlTru, wlT, wlAcc, wlA, wlBal, wlHigh, wlFrom, wlTo, wlLoan, wlDue]; omega) fun sh3 F3 b3 => ?_
    rw [pl_i (show x2 ≠ 0 by omega), e0]
    refine q_mk (p_name wsP (by decide) (by omega)) fun w t sh4 F4 hw ht4 => ?_
    subst hw
    refine q_app1 b3 ht4 (by simp only [List.length_append, List.length_cons, List.length_nil, wlCov, wlClo, wlRai, wlSem, wlPer, wlP, wlSp, wlNine, wlNo, wlIns, wlTru, wlT, wlAcc, wlA, wlBal, wlHigh, wlFrom, wlTo, wlLoan, wlDue]; omega) fun sh5 F5 b5 => ?_
    refine q_app b5 wsSp wpSp (by simp only [List.length_append, List.length_cons, List.length_nil, wlCov, wlClo, wlRai, wlSem, wlPer, wlP, wlSp, wlNine, wlNo, wlIns, wlTru, wlT, wlAcc, wlA, wlBal, wlHigh, wlFrom, wlTo, wlLoan, wlDue]; omega) fun sh6 F6 b6 => ?_
    rw [pl_w (x := x1 + 2) (by omega)]
    refine q_some hL (pwn (by omega)) (by omega) fun u u1 u2 => ?_
    have du := (dg_lenv (v := u)).1 (by omega)
    refine q_int hn b6 (by omega) (by simp only [List.length_append, List.length_cons, List.length_nil, wlCov, wlClo, wlRai, wlSem, wlPer, wlP, wlSp, wlNine, wlNo, wlIns, wlTru, wlT, wlAcc, wlA, wlBal, wlHigh, wlFrom, wlTo, wlLoan, wlDue]; omega) fun sh7 F7 b7 => ?_
    have e : [] ++ ptxt ps ++ wSp ++ [112, 97 + (x7 + x8) % x2] ++ wSp ++ dg u = ptxt (ps ++ [(112, (x7 + x8) % x2, u)]) := by rw [ptxt_snoc]; rfl
    rw [e] at b7
    have hpr : pr (ptxt (ps ++ [(112, (x7 + x8) % x2, u)])) := by
      rw [← e]
      exact pr_app (pr_app (pr_app (pr_app ht.2.2.1 wpSp) (pr2 (by decide) (by omega))) wpSp) (dg_pr (by omega))
    refine q_str b7 hpr fun t' sh8 F8 _ ht8 => ?_
    rw [pl_i ht8.2.1.ne, pl_l, pl_w (by omega)]
    refine ih _ _ _ _ (ps ++ [(112, (x7 + x8) % x2, u)]) (by omega) (by omega) (hg.snoc ⟨Or.inl ⟨rfl, m1, m2⟩, u1, by show u < 10; omega⟩ fun a ha z => ?_) (fun q hq => ?_) (by rw [List.length_append]; simp only [List.length_cons, List.length_nil]; omega) (tX.tr ht.1 ht8)
    · obtain ⟨-, j, j1, j2, j3⟩ := hpp a ha
      exact md h2 ⟨j1, j2, by omega⟩ (j3.symm.trans z.2)
    · rcases List.mem_append.mp hq with hq | hq
      · obtain ⟨c, j, j1, j2, j3⟩ := hpp q hq
        exact ⟨c, j, j1, by omega, j3⟩
      · rw [List.mem_singleton.mp hq]; exact ⟨rfl, x8, by omega, by omega, rfl⟩
theorem p_parts (hn : 5 ≤ n) (hL : 0 ≤ Ls) {x1 x2 x3 x4 : Int} (h1 : 0 ≤ x1 ∧ x1 ≤ 1000) (h2 : 3 ≤ x2 ∧ x2 ≤ 6) (h3 : 0 ≤ x3 ∧ x3 ≤ 3) (h4 : 0 ≤ x4 ∧ x4 ≤ 1) :
    tM sh F (fun w => ∃ ps, gp x2 x3 ps ∧ x4 ≤ (ps.length : Int) ∧ (ps.length : Int) ≤ 4 ∧ w = ptxt ps) (pfL_parts Ls xs sh n F x1 x2 x3 x4) := by
  unfold pfL_parts
  rw [pl_i (by decide)]
  refine q_some hL (by omega) (by omega) fun v v1 v2 => ?_
  rw [pl_l, pl_w (x := x4 + v) (by omega)]
  refine q_some hL (pwn (by omega)) (by omega) fun i i1 i2 => ?_
  exact p_loop hn hL h1 h2 h3 (by omega) (by omega) (by omega) 4 sh F (-10) 0 [] (by omega) (by omega) ⟨fun q hq => (by cases hq), List.Pairwise.nil⟩ (fun q hq => (by cases hq)) rfl ⟨gr.rf, wsNo, wpNo, Or.inl (by decide)⟩
/-! the lines -/
/-- what holds for a text of lines: by what may be said of each line -/
def Bc (Q : Int → Int → Int → Int → Int → List Int → Prop) : Prop :=
  (∀ {v d r : Int} (h1 : 0 ≤ v ∧ v < 3000) (h2 : 0 ≤ d ∧ d < 40) (h3 : 0 ≤ r ∧ r < 2000), Q 0 0 0 0 3 (wCov ++ dg v ++ wClo ++ dg d ++ wRai ++ dg r ++ wSem)) ∧
  (∀ {np c m : Int} {w m2 ins : List Int} (h : Q np 0 0 0 c w) (h1 : 0 ≤ np ∧ np < 6) (h2 : 1 ≤ m ∧ m < 6) (h3 : m2 = wNo ∨ m2 = wNine) (h4 : ins = wNo ∨ ins = wIns), Q (np + 1) 0 0 0 (c + 1) (w ++ wPer ++ [112, 97 + np] ++ wSp ++ dg m ++ m2 ++ ins ++ wSem)) ∧
  (∀ {np nt c : Int} {w : List Int} {ps : List (Int × Int × Int)} (h : Q np nt 0 0 c w) (h1 : 0 ≤ nt ∧ nt < 3) (hg : gp np nt ps) (hl : (ps.length : Int) ≤ 4), Q np (nt + 1) 0 0 (c + 1) (w ++ wTru ++ [116, 97 + nt] ++ ptxt ps ++ wSem)) ∧
  (∀ {np nt na c v : Int} {w : List Int} {ps : List (Int × Int × Int)} (h : Q np nt na 0 c w) (h1 : 0 ≤ na ∧ na < 5) (h2 : 0 ≤ v ∧ v < 9000) (hg : gp np nt ps) (hl : 1 ≤ (ps.length : Int) ∧ (ps.length : Int) ≤ 4), Q np nt (na + 1) 0 (c + 1) (w ++ wAcc ++ [97, 97 + na] ++ wBal ++ dg v ++ ptxt ps ++ wSem)) ∧
  (∀ {np nt na nh c a v f g p u d : Int} {w : List Int} (h : Q np nt na nh c w) (h1 : 0 ≤ nh ∧ nh < 2) (ha : 0 ≤ a ∧ a < na) (hv : 0 ≤ v ∧ v < 4000) (hf : 0 ≤ f ∧ f < 40) (hg : 0 ≤ g ∧ g < 30) (hp : 0 ≤ p ∧ p < np) (hu : 0 ≤ u ∧ u < 2000) (hd : 0 ≤ d ∧ d < 60), Q np nt na (nh + 1) (c + 2) (w ++ wHigh ++ [97, 97 + a] ++ wSp ++ dg v ++ wFrom ++ dg f ++ wTo ++ dg (f + g) ++ wLoan ++ [112, 97 + p] ++ wSp ++ dg u ++ wDue ++ dg d ++ wSem))
def Bk (np nt na nh c : Int) (w : List Int) : Prop := ∀ Q, Bc Q → Q np nt na nh c w
theorem Bk.head {v d r : Int} (h1 : 0 ≤ v ∧ v < 3000) (h2 : 0 ≤ d ∧ d < 40) (h3 : 0 ≤ r ∧ r < 2000) : Bk 0 0 0 0 3 (wCov ++ dg v ++ wClo ++ dg d ++ wRai ++ dg r ++ wSem) := fun Q hQ => hQ.1 h1 h2 h3
theorem Bk.person {np c m : Int} {w m2 ins : List Int} (h : Bk np 0 0 0 c w) (h1 : 0 ≤ np ∧ np < 6) (h2 : 1 ≤ m ∧ m < 6) (h3 : m2 = wNo ∨ m2 = wNine) (h4 : ins = wNo ∨ ins = wIns) : Bk (np + 1) 0 0 0 (c + 1) (w ++ wPer ++ [112, 97 + np] ++ wSp ++ dg m ++ m2 ++ ins ++ wSem) := fun Q hQ => hQ.2.1 (h Q hQ) h1 h2 h3 h4
theorem Bk.trust {np nt c : Int} {w : List Int} {ps : List (Int × Int × Int)} (h : Bk np nt 0 0 c w) (h1 : 0 ≤ nt ∧ nt < 3) (hg : gp np nt ps) (hl : (ps.length : Int) ≤ 4) : Bk np (nt + 1) 0 0 (c + 1) (w ++ wTru ++ [116, 97 + nt] ++ ptxt ps ++ wSem) := fun Q hQ => hQ.2.2.1 (h Q hQ) h1 hg hl
theorem Bk.account {np nt na c v : Int} {w : List Int} {ps : List (Int × Int × Int)} (h : Bk np nt na 0 c w) (h1 : 0 ≤ na ∧ na < 5) (h2 : 0 ≤ v ∧ v < 9000) (hg : gp np nt ps) (hl : 1 ≤ (ps.length : Int) ∧ (ps.length : Int) ≤ 4) : Bk np nt (na + 1) 0 (c + 1) (w ++ wAcc ++ [97, 97 + na] ++ wBal ++ dg v ++ ptxt ps ++ wSem) := fun Q hQ => hQ.2.2.2.1 (h Q hQ) h1 h2 hg hl
theorem Bk.pair {np nt na nh c a v f g p u d : Int} {w : List Int} (h : Bk np nt na nh c w) (h1 : 0 ≤ nh ∧ nh < 2) (ha : 0 ≤ a ∧ a < na) (hv : 0 ≤ v ∧ v < 4000) (hf : 0 ≤ f ∧ f < 40) (hg : 0 ≤ g ∧ g < 30) (hp : 0 ≤ p ∧ p < np) (hu : 0 ≤ u ∧ u < 2000) (hd : 0 ≤ d ∧ d < 60) : Bk np nt na (nh + 1) (c + 2) (w ++ wHigh ++ [97, 97 + a] ++ wSp ++ dg v ++ wFrom ++ dg f ++ wTo ++ dg (f + g) ++ wLoan ++ [112, 97 + p] ++ wSp ++ dg u ++ wDue ++ dg d ++ wSem) := fun Q hQ => hQ.2.2.2.2 (h Q hQ) h1 ha hv hf hg hp hu hd
end PARTS
section LINES
variable {P : Option (Int × pd_S × pd_F) → Prop} {S sh : pd_S} {F0 F : pd_F} {n : Nat} {b s : Int} {l w : List Int} {Ls : Int} {xs : Int → Int}
theorem t_pairs (hn : 5 ≤ n) (hL : 0 ≤ Ls) {x0 x2 x4 nt : Int} (h2 : 3 ≤ x2 ∧ x2 ≤ 6) (h4 : 2 ≤ x4 ∧ x4 ≤ 5) (H : ∀ sh' F' x5 x6 w, Bk x2 nt x4 2 x6 w → w.length ≤ 568 → tX S F0 sh' F' x5 w → 0 < x5 → P (pfL_begins_b580 Ls xs n sh' F' x0 x2 x4 x5 x6)) : ∀ (k : Nat) (sh : pd_S) (F : pd_F) (x5 x6 x7 : Int) (w : List Int), (k : Int) + x7 = 3 → 0 ≤ x7 ∧ x7 ≤ 2 → Bk x2 nt x4 x7 x6 w → (w.length : Int) ≤ 472 + 48 * x7 → 0 ≤ x6 ∧ x6 ≤ 17 + 2 * x7 → tX S F0 sh F x5 w → 0 < x5 → P (pfL_begins_b385 Ls xs n k sh F x0 x2 x4 x5 x6 x7) := by
  intro k
  induction k with
  | zero => intro sh F x5 x6 x7 w hk h7; omega
  | succ k ih =>
    intro sh F x5 x6 x7 w hk h7 hB hwl h6 ht h5
    show P (if x7 ≥ 2 then _ else _)
    by_cases c1 : x7 ≥ 2
    · rw [if_pos c1]
      have : x7 = 2 := by omega
      subst this
      exact H _ _ _ _ _ hB (by omega) ht h5
    rw [if_neg c1]
    refine q_some hL (pwn (by omega)) (by omega) fun f f1 f2 => ?_
    refine q_new fun sh1 F1 b1 => ?_
    refine q_app b1 ht.2.1 ht.2.2.1 (by simp only [List.length_append, List.length_cons, List.length_nil, wlCov, wlClo, wlRai, wlSem, wlPer, wlP, wlSp, wlNine, wlNo, wlIns, wlTru, wlT, wlAcc, wlA, wlBal, wlHigh, wlFrom, wlTo, wlLoan, wlDue]; omega) fun sh2 F2 b2 => ?_
    refine q_app b2 wsHigh wpHigh (by simp only [List.length_append, List.length_cons, List.length_nil, wlCov, wlClo, wlRai, wlSem, wlPer, wlP, wlSp, wlNine, wlNo, wlIns, wlTru, wlT, wlAcc, wlA, wlBal, wlHigh, wlFrom, wlTo, wlLoan, wlDue]; omega) fun sh3 F3 b3 => ?_
    refine q_some hL (pwn (by omega)) (by omega) fun a a1 a2 => ?_
    refine q_mk (p_name wsA (by decide) (by omega)) fun w4 t4 sh4 F4 hw4 ht4 => ?_
    subst hw4
    refine q_app1 b3 ht4 (by simp only [List.length_append, List.length_cons, List.length_nil, wlCov, wlClo, wlRai, wlSem, wlPer, wlP, wlSp, wlNine, wlNo, wlIns, wlTru, wlT, wlAcc, wlA, wlBal, wlHigh, wlFrom, wlTo, wlLoan, wlDue]; omega) fun sh5 F5 b5 => ?_
    refine q_app b5 wsSp wpSp (by simp only [List.length_append, List.length_cons, List.length_nil, wlCov, wlClo, wlRai, wlSem, wlPer, wlP, wlSp, wlNine, wlNo, wlIns, wlTru, wlT, wlAcc, wlA, wlBal, wlHigh, wlFrom, wlTo, wlLoan, wlDue]; omega) fun sh6 F6 b6 => ?_
    refine q_some hL (pwn (by omega)) (by omega) fun v v1 v2 => ?_
    have d1 := dg_lenv (v := v)
    refine q_int hn b6 (by omega) (by simp only [List.length_append, List.length_cons, List.length_nil, wlCov, wlClo, wlRai, wlSem, wlPer, wlP, wlSp, wlNine, wlNo, wlIns, wlTru, wlT, wlAcc, wlA, wlBal, wlHigh, wlFrom, wlTo, wlLoan, wlDue]; omega) fun sh7 F7 b7 => ?_
    refine q_app b7 wsFrom wpFrom (by simp only [List.length_append, List.length_cons, List.length_nil, wlCov, wlClo, wlRai, wlSem, wlPer, wlP, wlSp, wlNine, wlNo, wlIns, wlTru, wlT, wlAcc, wlA, wlBal, wlHigh, wlFrom, wlTo, wlLoan, wlDue]; omega) fun sh8 F8 b8 => ?_
    have d2 := (dg_lenv (v := f)).2.1 (by omega)
    refine q_int hn b8 (by omega) (by simp only [List.length_append, List.length_cons, List.length_nil, wlCov, wlClo, wlRai, wlSem, wlPer, wlP, wlSp, wlNine, wlNo, wlIns, wlTru, wlT, wlAcc, wlA, wlBal, wlHigh, wlFrom, wlTo, wlLoan, wlDue]; omega) fun sh9 F9 b9 => ?_
    refine q_app b9 wsTo wpTo (by simp only [List.length_append, List.length_cons, List.length_nil, wlCov, wlClo, wlRai, wlSem, wlPer, wlP, wlSp, wlNine, wlNo, wlIns, wlTru, wlT, wlAcc, wlA, wlBal, wlHigh, wlFrom, wlTo, wlLoan, wlDue]; omega) fun sh10 F10 b10 => ?_
    refine q_some hL (pwn (by omega)) (by omega) fun g g1 g2 => ?_
    have d3 := (dg_lenv (v := f + g)).2.1 (by omega)
    rw [pl_w (x := f + g) (by omega)]
    refine q_int hn b10 (by omega) (by simp only [List.length_append, List.length_cons, List.length_nil, wlCov, wlClo, wlRai, wlSem, wlPer, wlP, wlSp, wlNine, wlNo, wlIns, wlTru, wlT, wlAcc, wlA, wlBal, wlHigh, wlFrom, wlTo, wlLoan, wlDue]; omega) fun sh11 F11 b11 => ?_
    refine q_app b11 wsLoan wpLoan (by simp only [List.length_append, List.length_cons, List.length_nil, wlCov, wlClo, wlRai, wlSem, wlPer, wlP, wlSp, wlNine, wlNo, wlIns, wlTru, wlT, wlAcc, wlA, wlBal, wlHigh, wlFrom, wlTo, wlLoan, wlDue]; omega) fun sh12 F12 b12 => ?_
    refine q_some hL (pwn (by omega)) (by omega) fun p p1 p2 => ?_
    refine q_mk (p_name wsP (by decide) (by omega)) fun w4 t4 sh13 F13 hw4 ht13 => ?_
    subst hw4
    refine q_app1 b12 ht13 (by simp only [List.length_append, List.length_cons, List.length_nil, wlCov, wlClo, wlRai, wlSem, wlPer, wlP, wlSp, wlNine, wlNo, wlIns, wlTru, wlT, wlAcc, wlA, wlBal, wlHigh, wlFrom, wlTo, wlLoan, wlDue]; omega) fun sh14 F14 b14 => ?_
    refine q_app b14 wsSp wpSp (by simp only [List.length_append, List.length_cons, List.length_nil, wlCov, wlClo, wlRai, wlSem, wlPer, wlP, wlSp, wlNine, wlNo, wlIns, wlTru, wlT, wlAcc, wlA, wlBal, wlHigh, wlFrom, wlTo, wlLoan, wlDue]; omega) fun sh15 F15 b15 => ?_
    refine q_some hL (pwn (by omega)) (by omega) fun u u1 u2 => ?_
    have d4 := dg_lenv (v := u)
    refine q_int hn b15 (by omega) (by simp only [List.length_append, List.length_cons, List.length_nil, wlCov, wlClo, wlRai, wlSem, wlPer, wlP, wlSp, wlNine, wlNo, wlIns, wlTru, wlT, wlAcc, wlA, wlBal, wlHigh, wlFrom, wlTo, wlLoan, wlDue]; omega) fun sh16 F16 b16 => ?_
    refine q_app b16 wsDue wpDue (by simp only [List.length_append, List.length_cons, List.length_nil, wlCov, wlClo, wlRai, wlSem, wlPer, wlP, wlSp, wlNine, wlNo, wlIns, wlTru, wlT, wlAcc, wlA, wlBal, wlHigh, wlFrom, wlTo, wlLoan, wlDue]; omega) fun sh17 F17 b17 => ?_
    refine q_some hL (pwn (by omega)) (by omega) fun d e1 e2 => ?_
    have d5 := (dg_lenv (v := d)).2.1 (by omega)
    refine q_int hn b17 (by omega) (by simp only [List.length_append, List.length_cons, List.length_nil, wlCov, wlClo, wlRai, wlSem, wlPer, wlP, wlSp, wlNine, wlNo, wlIns, wlTru, wlT, wlAcc, wlA, wlBal, wlHigh, wlFrom, wlTo, wlLoan, wlDue]; omega) fun sh18 F18 b18 => ?_
    refine q_app b18 wsSem wpSem (by simp only [List.length_append, List.length_cons, List.length_nil, wlCov, wlClo, wlRai, wlSem, wlPer, wlP, wlSp, wlNine, wlNo, wlIns, wlTru, wlT, wlAcc, wlA, wlBal, wlHigh, wlFrom, wlTo, wlLoan, wlDue]; omega) fun sh19 F19 b19 => ?_
    rw [List.nil_append] at b19
    have hB' := Bk.pair hB (by omega) ⟨a1, a2⟩ ⟨v1, v2⟩ ⟨f1, f2⟩ ⟨g1, g2⟩ ⟨p1, p2⟩ ⟨u1, u2⟩ ⟨e1, e2⟩
    refine q_str b19 ?_ fun t' sh20 F20 hpos ht20 => ?_
    · exact pr_app (pr_app (pr_app (pr_app (pr_app (pr_app (pr_app (pr_app (pr_app (pr_app (pr_app (pr_app (pr_app (pr_app (pr_app ht.2.2.1 wpHigh) (pr2 (by decide) (by omega))) wpSp) (dg_pr (by omega))) wpFrom) (dg_pr (by omega))) wpTo) (dg_pr (by omega))) wpLoan) (pr2 (by decide) (by omega))) wpSp) (dg_pr (by omega))) wpDue) (dg_pr (by omega))) wpSem
    have hne := ht20.2.1.ne
    rw [pl_i hne, pl_l, pl_l, pl_w (by omega), pl_w (by omega)]
    exact ih _ _ _ _ _ _ (by omega) (by omega) hB' (by simp only [List.length_append, List.length_cons, List.length_nil, wlCov, wlClo, wlRai, wlSem, wlPer, wlP, wlSp, wlNine, wlNo, wlIns, wlTru, wlT, wlAcc, wlA, wlBal, wlHigh, wlFrom, wlTo, wlLoan, wlDue]; omega) (by omega) (tX.tr ht.1 ht20) hpos
theorem t_accounts (hn : 5 ≤ n) (hL : 0 ≤ Ls) {x0 x2 x3 x4 : Int} (h2 : 3 ≤ x2 ∧ x2 ≤ 6) (h3 : 0 ≤ x3 ∧ x3 ≤ 3) (h4 : 2 ≤ x4 ∧ x4 ≤ 5) (H : ∀ sh' F' x5 x6 w, Bk x2 x3 x4 2 x6 w → w.length ≤ 568 → tX S F0 sh' F' x5 w → 0 < x5 → P (pfL_begins_b580 Ls xs n sh' F' x0 x2 x4 x5 x6)) : ∀ (k : Nat) (sh : pd_S) (F : pd_F) (x5 x6 x7 : Int) (w : List Int), (k : Int) + x7 = 6 → 0 ≤ x7 ∧ x7 ≤ x4 → Bk x2 x3 x7 0 x6 w → (w.length : Int) ≤ 252 + 44 * x7 → 0 ≤ x6 ∧ x6 ≤ 12 + x7 → tX S F0 sh F x5 w → 0 < x5 → P (pfL_begins_b291 Ls xs n k sh F x0 x2 x3 x4 x5 x6 x7) := by
  intro k
  induction k with
  | zero => intro sh F x5 x6 x7 w hk h7; omega
  | succ k ih =>
    intro sh F x5 x6 x7 w hk h7 hB hwl h6 ht h5
    show P (if x7 ≥ x4 then _ else _)
    by_cases c1 : x7 ≥ x4
    · rw [if_pos c1]
      have : x7 = x4 := by omega
      subst this
      exact t_pairs hn hL h2 h4 H 3 sh F x5 x6 0 w (by omega) (by omega) hB (by omega) (by omega) ht h5
    rw [if_neg c1]
    refine q_new fun sh1 F1 b1 => ?_
    refine q_app b1 ht.2.1 ht.2.2.1 (by simp only [List.length_append, List.length_cons, List.length_nil, wlCov, wlClo, wlRai, wlSem, wlPer, wlP, wlSp, wlNine, wlNo, wlIns, wlTru, wlT, wlAcc, wlA, wlBal, wlHigh, wlFrom, wlTo, wlLoan, wlDue]; omega) fun sh2 F2 b2 => ?_
    refine q_app b2 wsAcc wpAcc (by simp only [List.length_append, List.length_cons, List.length_nil, wlCov, wlClo, wlRai, wlSem, wlPer, wlP, wlSp, wlNine, wlNo, wlIns, wlTru, wlT, wlAcc, wlA, wlBal, wlHigh, wlFrom, wlTo, wlLoan, wlDue]; omega) fun sh3 F3 b3 => ?_
    refine q_mk (p_name wsA (by decide) (by omega)) fun w4 t4 sh4 F4 hw4 ht4 => ?_
    subst hw4
    refine q_app1 b3 ht4 (by simp only [List.length_append, List.length_cons, List.length_nil, wlCov, wlClo, wlRai, wlSem, wlPer, wlP, wlSp, wlNine, wlNo, wlIns, wlTru, wlT, wlAcc, wlA, wlBal, wlHigh, wlFrom, wlTo, wlLoan, wlDue]; omega) fun sh5 F5 b5 => ?_
    refine q_app b5 wsBal wpBal (by simp only [List.length_append, List.length_cons, List.length_nil, wlCov, wlClo, wlRai, wlSem, wlPer, wlP, wlSp, wlNine, wlNo, wlIns, wlTru, wlT, wlAcc, wlA, wlBal, wlHigh, wlFrom, wlTo, wlLoan, wlDue]; omega) fun sh6 F6 b6 => ?_
    refine q_some hL (pwn (by omega)) (by omega) fun v v1 v2 => ?_
    have d1 := dg_lenv (v := v)
    refine q_int hn b6 (by omega) (by simp only [List.length_append, List.length_cons, List.length_nil, wlCov, wlClo, wlRai, wlSem, wlPer, wlP, wlSp, wlNine, wlNo, wlIns, wlTru, wlT, wlAcc, wlA, wlBal, wlHigh, wlFrom, wlTo, wlLoan, wlDue]; omega) fun sh7 F7 b7 => ?_
    rw [pl_w (x := 10 * x7) (by omega), pl_w (x := 90 + 10 * x7) (by omega)]
    refine q_mk (p_parts hn hL (by omega) h2 h3 (by omega)) fun w8 t8 sh8 F8 hw8 ht8 => ?_
    obtain ⟨ps, hg, g1, g2, rfl⟩ := hw8
    have pl := ptxt_len hg
    refine q_app1 b7 ht8 (by simp only [List.length_append, List.length_cons, List.length_nil, wlCov, wlClo, wlRai, wlSem, wlPer, wlP, wlSp, wlNine, wlNo, wlIns, wlTru, wlT, wlAcc, wlA, wlBal, wlHigh, wlFrom, wlTo, wlLoan, wlDue]; omega) fun sh9 F9 b9 => ?_
    refine q_app b9 wsSem wpSem (by simp only [List.length_append, List.length_cons, List.length_nil, wlCov, wlClo, wlRai, wlSem, wlPer, wlP, wlSp, wlNine, wlNo, wlIns, wlTru, wlT, wlAcc, wlA, wlBal, wlHigh, wlFrom, wlTo, wlLoan, wlDue]; omega) fun sh10 F10 b10 => ?_
    rw [List.nil_append] at b10
    have hB' := Bk.account hB (by omega) ⟨v1, v2⟩ hg ⟨g1, g2⟩
    refine q_str b10 (pr_app (pr_app (pr_app (pr_app (pr_app (pr_app ht.2.2.1 wpAcc) (pr2 (by decide) (by omega))) wpBal) (dg_pr (by omega))) ht8.2.2.1) wpSem) fun t' sh11 F11 hpos ht11 => ?_
    rw [pl_i ht11.2.1.ne, pl_l, pl_l, pl_w (by omega), pl_w (by omega)]
    exact ih _ _ _ _ _ _ (by omega) (by omega) hB' (by simp only [List.length_append, List.length_cons, List.length_nil, wlCov, wlClo, wlRai, wlSem, wlPer, wlP, wlSp, wlNine, wlNo, wlIns, wlTru, wlT, wlAcc, wlA, wlBal, wlHigh, wlFrom, wlTo, wlLoan, wlDue]; omega) (by omega) (tX.tr ht.1 ht11) hpos
theorem t_trusts (hn : 5 ≤ n) (hL : 0 ≤ Ls) {x0 x2 x3 x4 : Int} (h2 : 3 ≤ x2 ∧ x2 ≤ 6) (h3 : 0 ≤ x3 ∧ x3 ≤ 3) (h4 : 2 ≤ x4 ∧ x4 ≤ 5) (H : ∀ sh' F' x5 x6 w, Bk x2 x3 x4 2 x6 w → w.length ≤ 568 → tX S F0 sh' F' x5 w → 0 < x5 → P (pfL_begins_b580 Ls xs n sh' F' x0 x2 x4 x5 x6)) : ∀ (k : Nat) (sh : pd_S) (F : pd_F) (x5 x6 x7 : Int) (w : List Int), (k : Int) + x7 = 4 → 0 ≤ x7 ∧ x7 ≤ x3 → Bk x2 x7 0 0 x6 w → (w.length : Int) ≤ 164 + 29 * x7 → 0 ≤ x6 ∧ x6 ≤ 9 + x7 → tX S F0 sh F x5 w → 0 < x5 → P (pfL_begins_b217 Ls xs n k sh F x0 x2 x3 x4 x5 x6 x7) := by
  intro k
  induction k with
  | zero => intro sh F x5 x6 x7 w hk h7; omega
  | succ k ih =>
    intro sh F x5 x6 x7 w hk h7 hB hwl h6 ht h5
    show P (if x7 ≥ x3 then _ else _)
    by_cases c1 : x7 ≥ x3
    · rw [if_pos c1]
      have : x7 = x3 := by omega
      subst this
      exact t_accounts hn hL h2 h3 h4 H 6 sh F x5 x6 0 w (by omega) (by omega) hB (by omega) (by omega) ht h5
    rw [if_neg c1]
    refine q_new fun sh1 F1 b1 => ?_
    refine q_app b1 ht.2.1 ht.2.2.1 (by simp only [List.length_append, List.length_cons, List.length_nil, wlCov, wlClo, wlRai, wlSem, wlPer, wlP, wlSp, wlNine, wlNo, wlIns, wlTru, wlT, wlAcc, wlA, wlBal, wlHigh, wlFrom, wlTo, wlLoan, wlDue]; omega) fun sh2 F2 b2 => ?_
    refine q_app b2 wsTru wpTru (by simp only [List.length_append, List.length_cons, List.length_nil, wlCov, wlClo, wlRai, wlSem, wlPer, wlP, wlSp, wlNine, wlNo, wlIns, wlTru, wlT, wlAcc, wlA, wlBal, wlHigh, wlFrom, wlTo, wlLoan, wlDue]; omega) fun sh3 F3 b3 => ?_
    refine q_mk (p_name wsT (by decide) (by omega)) fun w4 t4 sh4 F4 hw4 ht4 => ?_
    subst hw4
    refine q_app1 b3 ht4 (by simp only [List.length_append, List.length_cons, List.length_nil, wlCov, wlClo, wlRai, wlSem, wlPer, wlP, wlSp, wlNine, wlNo, wlIns, wlTru, wlT, wlAcc, wlA, wlBal, wlHigh, wlFrom, wlTo, wlLoan, wlDue]; omega) fun sh5 F5 b5 => ?_
    rw [pl_w (x := 10 * x7) (by omega), pl_w (x := 40 + 10 * x7) (by omega)]
    refine q_mk (p_parts hn hL (by omega) h2 (by omega) (by omega)) fun w8 t8 sh8 F8 hw8 ht8 => ?_
    obtain ⟨ps, hg, g1, g2, rfl⟩ := hw8
    have pl := ptxt_len hg
    refine q_app1 b5 ht8 (by simp only [List.length_append, List.length_cons, List.length_nil, wlCov, wlClo, wlRai, wlSem, wlPer, wlP, wlSp, wlNine, wlNo, wlIns, wlTru, wlT, wlAcc, wlA, wlBal, wlHigh, wlFrom, wlTo, wlLoan, wlDue]; omega) fun sh9 F9 b9 => ?_
    refine q_app b9 wsSem wpSem (by simp only [List.length_append, List.length_cons, List.length_nil, wlCov, wlClo, wlRai, wlSem, wlPer, wlP, wlSp, wlNine, wlNo, wlIns, wlTru, wlT, wlAcc, wlA, wlBal, wlHigh, wlFrom, wlTo, wlLoan, wlDue]; omega) fun sh10 F10 b10 => ?_
    rw [List.nil_append] at b10
    have hB' := Bk.trust hB (by omega) hg g2
    refine q_str b10 (pr_app (pr_app (pr_app (pr_app ht.2.2.1 wpTru) (pr2 (by decide) (by omega))) ht8.2.2.1) wpSem) fun t' sh11 F11 hpos ht11 => ?_
    rw [pl_i ht11.2.1.ne, pl_l, pl_l, pl_w (by omega), pl_w (by omega)]
    exact ih _ _ _ _ _ _ (by omega) (by omega) hB' (by simp only [List.length_append, List.length_cons, List.length_nil, wlCov, wlClo, wlRai, wlSem, wlPer, wlP, wlSp, wlNine, wlNo, wlIns, wlTru, wlT, wlAcc, wlA, wlBal, wlHigh, wlFrom, wlTo, wlLoan, wlDue]; omega) (by omega) (tX.tr ht.1 ht11) hpos
theorem t_persons (hn : 5 ≤ n) (hL : 0 ≤ Ls) {x0 x2 x3 x4 : Int} (h2 : 3 ≤ x2 ∧ x2 ≤ 6) (h3 : 0 ≤ x3 ∧ x3 ≤ 3) (h4 : 2 ≤ x4 ∧ x4 ≤ 5) (H : ∀ sh' F' x5 x6 w, Bk x2 x3 x4 2 x6 w → w.length ≤ 568 → tX S F0 sh' F' x5 w → 0 < x5 → P (pfL_begins_b580 Ls xs n sh' F' x0 x2 x4 x5 x6)) : ∀ (k : Nat) (sh : pd_S) (F : pd_F) (x5 x6 x7 : Int) (w : List Int), (k : Int) + x7 = 7 → 0 ≤ x7 ∧ x7 ≤ x2 → Bk x7 0 0 0 x6 w → (w.length : Int) ≤ 32 + 22 * x7 → 0 ≤ x6 ∧ x6 ≤ 3 + x7 → tX S F0 sh F x5 w → 0 < x5 → P (pfL_begins_b96 Ls xs n k sh F x0 x2 x3 x4 x5 x6 x7) := by
  intro k
  induction k with
  | zero => intro sh F x5 x6 x7 w hk h7; omega
  | succ k ih =>
    intro sh F x5 x6 x7 w hk h7 hB hwl h6 ht h5
    show P (if x7 ≥ x2 then _ else _)
    by_cases c1 : x7 ≥ x2
    · rw [if_pos c1]
      have : x7 = x2 := by omega
      subst this
      exact t_trusts hn hL h2 h3 h4 H 4 sh F x5 x6 0 w (by omega) (by omega) hB (by omega) (by omega) ht h5
    rw [if_neg c1]
    refine q_new fun sh1 F1 b1 => ?_
    refine q_app b1 ht.2.1 ht.2.2.1 (by simp only [List.length_append, List.length_cons, List.length_nil, wlCov, wlClo, wlRai, wlSem, wlPer, wlP, wlSp, wlNine, wlNo, wlIns, wlTru, wlT, wlAcc, wlA, wlBal, wlHigh, wlFrom, wlTo, wlLoan, wlDue]; omega) fun sh2 F2 b2 => ?_
    refine q_app b2 wsPer wpPer (by simp only [List.length_append, List.length_cons, List.length_nil, wlCov, wlClo, wlRai, wlSem, wlPer, wlP, wlSp, wlNine, wlNo, wlIns, wlTru, wlT, wlAcc, wlA, wlBal, wlHigh, wlFrom, wlTo, wlLoan, wlDue]; omega) fun sh3 F3 b3 => ?_
    refine q_mk (p_name wsP (by decide) (by omega)) fun w4 t4 sh4 F4 hw4 ht4 => ?_
    subst hw4
    refine q_app1 b3 ht4 (by simp only [List.length_append, List.length_cons, List.length_nil, wlCov, wlClo, wlRai, wlSem, wlPer, wlP, wlSp, wlNine, wlNo, wlIns, wlTru, wlT, wlAcc, wlA, wlBal, wlHigh, wlFrom, wlTo, wlLoan, wlDue]; omega) fun sh5 F5 b5 => ?_
    refine q_app b5 wsSp wpSp (by simp only [List.length_append, List.length_cons, List.length_nil, wlCov, wlClo, wlRai, wlSem, wlPer, wlP, wlSp, wlNine, wlNo, wlIns, wlTru, wlT, wlAcc, wlA, wlBal, wlHigh, wlFrom, wlTo, wlLoan, wlDue]; omega) fun sh6 F6 b6 => ?_
    refine q_some hL (pwn (by omega)) (by omega) fun v v1 v2 => ?_
    rw [pl_w (x := 1 + v) (by omega)]
    have d1 := (dg_lenv (v := 1 + v)).1 (by omega)
    refine q_int hn b6 (by omega) (by simp only [List.length_append, List.length_cons, List.length_nil, wlCov, wlClo, wlRai, wlSem, wlPer, wlP, wlSp, wlNine, wlNo, wlIns, wlTru, wlT, wlAcc, wlA, wlBal, wlHigh, wlFrom, wlTo, wlLoan, wlDue]; omega) fun sh7 F7 b7 => ?_
    have last : ∀ (sh8 : pd_S) (F8 : pd_F) (b ib : Int) (m2 ins : List Int), (m2 = wNo ∨ m2 = wNine) → (ins = wNo ∨ ins = wIns) → tS sh F ib ins → uB sh F sh8 F8 b ([] ++ w ++ wPer ++ [112, 97 + x7] ++ wSp ++ dg (1 + v) ++ m2) → P (pfL_begins_b192 Ls xs n (pfL_begins_b96 Ls xs n k) sh8 F8 x0 x2 x3 x4 x6 x7 ib b) := by
      intro sh8 F8 b ib m2 ins hm hi hib b8
      have hml : m2.length ≤ 2 := by rcases hm with rfl | rfl <;> decide
      have hil : ins.length ≤ 8 := by rcases hi with rfl | rfl <;> decide
      have hmp : pr m2 := by rcases hm with rfl | rfl; exact wpNo; exact wpNine
      have hip : pr ins := by rcases hi with rfl | rfl; exact wpNo; exact wpIns
      unfold pfL_begins_b192
      refine q_app b8 hib hip (by simp only [List.length_append, List.length_cons, List.length_nil, wlCov, wlClo, wlRai, wlSem, wlPer, wlP, wlSp, wlNine, wlNo, wlIns, wlTru, wlT, wlAcc, wlA, wlBal, wlHigh, wlFrom, wlTo, wlLoan, wlDue]; omega) fun sh9 F9 b9 => ?_
      refine q_app b9 wsSem wpSem (by simp only [List.length_append, List.length_cons, List.length_nil, wlCov, wlClo, wlRai, wlSem, wlPer, wlP, wlSp, wlNine, wlNo, wlIns, wlTru, wlT, wlAcc, wlA, wlBal, wlHigh, wlFrom, wlTo, wlLoan, wlDue]; omega) fun sh10 F10 b10 => ?_
      rw [List.nil_append] at b10
      have hB' := Bk.person hB (by omega) (m := 1 + v) (by omega) hm hi
      refine q_str b10 (pr_app (pr_app (pr_app (pr_app (pr_app (pr_app (pr_app ht.2.2.1 wpPer) (pr2 (by decide) (by omega))) wpSp) (dg_pr (by omega))) hmp) hip) wpSem) fun t' sh11 F11 hpos ht11 => ?_
      rw [pl_i ht11.2.1.ne, pl_l, pl_l, pl_w (by omega), pl_w (by omega)]
      exact ih _ _ _ _ _ _ (by omega) (by omega) hB' (by simp only [List.length_append, List.length_cons, List.length_nil, wlCov, wlClo, wlRai, wlSem, wlPer, wlP, wlSp, wlNine, wlNo, wlIns, wlTru, wlT, wlAcc, wlA, wlBal, wlHigh, wlFrom, wlTo, wlLoan, wlDue]; omega) (by omega) (tX.tr ht.1 ht11) hpos
    have mid : ∀ (sh8 : pd_S) (F8 : pd_F) (b ib : Int) (m2 : List Int), (m2 = wNo ∨ m2 = wNine) → tS sh F ib m2 → uB sh F sh8 F8 b ([] ++ w ++ wPer ++ [112, 97 + x7] ++ wSp ++ dg (1 + v)) → P (pfL_begins_b169 Ls xs n (pfL_begins_b96 Ls xs n k) sh8 F8 x0 x2 x3 x4 x6 x7 ib b) := by
      intro sh8 F8 b ib m2 hm hib b8
      have hml : m2.length ≤ 2 := by rcases hm with rfl | rfl <;> decide
      have hmp : pr m2 := by rcases hm with rfl | rfl; exact wpNo; exact wpNine
      unfold pfL_begins_b169
      refine q_app b8 hib hmp (by simp only [List.length_append, List.length_cons, List.length_nil, wlCov, wlClo, wlRai, wlSem, wlPer, wlP, wlSp, wlNine, wlNo, wlIns, wlTru, wlT, wlAcc, wlA, wlBal, wlHigh, wlFrom, wlTo, wlLoan, wlDue]; omega) fun sh9 F9 b9 => ?_
      refine q_some hL (pwn (by omega)) (by omega) fun u u1 u2 => ?_
      by_cases hu : u ≠ 0
      · rw [if_pos hu]; exact last _ _ _ _ _ _ hm (Or.inl rfl) wsNo b9
      · rw [if_neg hu]; exact last _ _ _ _ _ _ hm (Or.inr rfl) wsIns b9
    refine q_some hL (pwn (by omega)) (by omega) fun u u1 u2 => ?_
    by_cases hu : u ≠ 0
    · rw [if_pos hu]; exact mid _ _ _ _ _ (Or.inl rfl) wsNo b7
    · rw [if_neg hu]; exact mid _ _ _ _ _ (Or.inr rfl) wsNine b7
/-- the text told, all of it -/
theorem t_begins (hn : 5 ≤ n) (hL : 0 ≤ Ls) {x0 : Int} (H : ∀ sh' F' np nt na x5 x6 w, (3 ≤ np ∧ np ≤ 6) → (0 ≤ nt ∧ nt ≤ 3) → (2 ≤ na ∧ na ≤ 5) → Bk np nt na 2 x6 w → w.length ≤ 568 → tX sh F sh' F' x5 w → 0 < x5 → P (pfL_begins_b580 Ls xs n sh' F' x0 np na x5 x6)) : P (pfL_begins Ls xs sh n F x0) := by
  unfold pfL_begins
  refine q_some hL (by decide) (by omega) fun a a1 a2 => ?_
  rw [pl_l]
  refine q_some hL (by decide) (by omega) fun nt c1 c2 => ?_
  refine q_some hL (by decide) (by omega) fun e e1 e2 => ?_
  rw [pl_l, pl_w (x := 3 + a) (by omega), pl_w (x := 2 + e) (by omega)]
  refine q_new fun sh1 F1 b1 => ?_
  refine q_app b1 wsCov wpCov (by simp only [List.length_append, List.length_cons, List.length_nil, wlCov, wlClo, wlRai, wlSem, wlPer, wlP, wlSp, wlNine, wlNo, wlIns, wlTru, wlT, wlAcc, wlA, wlBal, wlHigh, wlFrom, wlTo, wlLoan, wlDue]; omega) fun sh2 F2 b2 => ?_
  refine q_some hL (by decide) (by omega) fun v v1 v2 => ?_
  have d1 := dg_lenv (v := v)
  refine q_int hn b2 (by omega) (by simp only [List.length_append, List.length_cons, List.length_nil, wlCov, wlClo, wlRai, wlSem, wlPer, wlP, wlSp, wlNine, wlNo, wlIns, wlTru, wlT, wlAcc, wlA, wlBal, wlHigh, wlFrom, wlTo, wlLoan, wlDue]; omega) fun sh3 F3 b3 => ?_
  refine q_app b3 wsClo wpClo (by simp only [List.length_append, List.length_cons, List.length_nil, wlCov, wlClo, wlRai, wlSem, wlPer, wlP, wlSp, wlNine, wlNo, wlIns, wlTru, wlT, wlAcc, wlA, wlBal, wlHigh, wlFrom, wlTo, wlLoan, wlDue]; omega) fun sh4 F4 b4 => ?_
  refine q_some hL (by decide) (by omega) fun d d4 d5 => ?_
  have d2 := (dg_lenv (v := d)).2.1 (by omega)
  refine q_int hn b4 (by omega) (by simp only [List.length_append, List.length_cons, List.length_nil, wlCov, wlClo, wlRai, wlSem, wlPer, wlP, wlSp, wlNine, wlNo, wlIns, wlTru, wlT, wlAcc, wlA, wlBal, wlHigh, wlFrom, wlTo, wlLoan, wlDue]; omega) fun sh5 F5 b5 => ?_
  refine q_app b5 wsRai wpRai (by simp only [List.length_append, List.length_cons, List.length_nil, wlCov, wlClo, wlRai, wlSem, wlPer, wlP, wlSp, wlNine, wlNo, wlIns, wlTru, wlT, wlAcc, wlA, wlBal, wlHigh, wlFrom, wlTo, wlLoan, wlDue]; omega) fun sh6 F6 b6 => ?_
  refine q_some hL (by decide) (by omega) fun r r1 r2 => ?_
  have d3 := dg_lenv (v := r)
  refine q_int hn b6 (by omega) (by simp only [List.length_append, List.length_cons, List.length_nil, wlCov, wlClo, wlRai, wlSem, wlPer, wlP, wlSp, wlNine, wlNo, wlIns, wlTru, wlT, wlAcc, wlA, wlBal, wlHigh, wlFrom, wlTo, wlLoan, wlDue]; omega) fun sh7 F7 b7 => ?_
  refine q_app b7 wsSem wpSem (by simp only [List.length_append, List.length_cons, List.length_nil, wlCov, wlClo, wlRai, wlSem, wlPer, wlP, wlSp, wlNine, wlNo, wlIns, wlTru, wlT, wlAcc, wlA, wlBal, wlHigh, wlFrom, wlTo, wlLoan, wlDue]; omega) fun sh8 F8 b8 => ?_
  rw [List.nil_append] at b8
  have hB := Bk.head ⟨v1, v2⟩ ⟨d4, d5⟩ ⟨r1, r2⟩
  refine q_str b8 (pr_app (pr_app (pr_app (pr_app (pr_app (pr_app wpCov (dg_pr (by omega))) wpClo) (dg_pr (by omega))) wpRai) (dg_pr (by omega))) wpSem) fun t sh9 F9 hpos ht => ?_
  rw [pl_i ht.2.1.ne]
  exact t_persons hn hL (by omega) (by omega) (by omega) (fun sh' F' x5 x6 w => H sh' F' _ _ _ x5 x6 w (by omega) (by omega) (by omega)) 7 _ _ _ _ _ _ (by omega) (by omega) hB (by simp only [List.length_append, List.length_cons, List.length_nil, wlCov, wlClo, wlRai, wlSem, wlPer, wlP, wlSp, wlNine, wlNo, wlIns, wlTru, wlT, wlAcc, wlA, wlBal, wlHigh, wlFrom, wlTo, wlLoan, wlDue]; omega) (by omega) ht hpos
end LINES

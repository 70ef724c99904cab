/-! the class: ledgers -/
/-- the frame of a ledger -/
def lF (l : Int) (F G : pd_F) : Prop := (∀ a, a ≠ l → (a < l + 5 ∨ l + 8 < a) → G a = F a) ∧ ∀ j, j ≠ 5 → j ≠ 6 → G l j = F l j
theorem lF.rf (l : Int) (F : pd_F) : lF l F F := ⟨fun _ _ _ => rfl, fun _ _ _ => rfl⟩
theorem lF.tr {l : Int} {F G H : pd_F} (h : lF l F G) (g : lF l G H) : lF l F H := ⟨fun a x y => (g.1 a x y).trans (h.1 a x y), fun j x y => (g.2 j x y).trans (h.2 j x y)⟩
theorem lF.row {l : Int} {F G : pd_F} {r : Int} (hr : l + 5 ≤ r ∧ r ≤ l + 8) (g : ∀ a, a ≠ r → G a = F a) : lF l F G := ⟨fun a x y => g a (by omega), fun j x y => by rw [g l (by omega)]⟩
theorem lF.up {l : Int} {F : pd_F} {j v : Int} (hj : j = 5 ∨ j = 6) : lF l F (pd_up F l j v) := ⟨fun a x y => pu_a x, fun i x y => by rw [pu_r, if_neg (by omega)]⟩
/-- what a ledger is summed up from -/
def lH (D : pd_F) (s : Int → Int) (l b st : Int) (F : pd_F) : Prop := kB D F b ∧ hP D s F ∧ (F (st + 2) 0 = s 71 ∧ F (st + 2) 1 = s 72 ∧ F (st + 2) 2 = s 73) ∧ F (l + 1) 3 = sD D s ∧ ∀ p, 0 ≤ p → p < D 369 0 → F (l + 3) p = sN D s p
/-- a ledger summed up -/
def kV (D : pd_F) (s : Int → Int) (l : Int) (F : pd_F) : Prop := (sD D s = 0 ∨ (F l 5 = s 72 ∧ F l 6 = s 73)) ∧ F (l + 1) 3 = sD D s ∧ ∀ d, 0 ≤ d → d < sD D s → F (l + 5) d = sHas D s d ∧ F (l + 6) d = sOw D s d ∧ F (l + 7) d = sHi D s d ∧ F (l + 8) d = cI D s d
def aU (st : Int) : Prop := st = 231 ∨ st = 245
theorem aU.s {st : Int} (h : aU st) : aS st := by
  rcases h with rfl | rfl
  · exact aS_now
  · exact Or.inr (Or.inl rfl)
theorem aL.t {l : Int} (h : aL l) : aT (l + 1) := by
  rcases h with rfl | rfl
  · exact Or.inl rfl
  · exact Or.inr rfl
theorem lH.fr {D : pd_F} {s : Int → Int} {l b st : Int} {F G : pd_F} (h : lH D s l b st F) (hD : bOk D) (hl : aL l) (hb : aB b) (hst : aU st) (e : lF l F G) : lH D s l b st G := by
  obtain ⟨h1, h2, h3, h4, h5⟩ := h
  have n5 := hD.1.2.2.2.2.2.1
  have n7 := hD.2.2.1.2
  have hl' : l = 236 ∨ l = 250 := hl
  have hb' : b = 5 ∨ b = 259 := hb
  have hs' : st = 231 ∨ st = 245 := hst
  refine ⟨h1.fr hb hD (fun a x y => e.1 a (by omega) (by omega)), ⟨fun a p x y z w => ?_, fun a p x y z w => ?_⟩, ?_, ?_, fun p x y => ?_⟩
  · rw [e.1 _ (by omega) (by omega)]; exact h2.1 a p x y z w
  · rw [e.1 _ (by omega) (by omega)]; exact h2.2 a p x y z w
  · rw [e.1 _ (by omega) (by omega)]; exact h3
  · rw [e.1 _ (by omega) (by omega)]; exact h4
  · rw [e.1 _ (by omega) (by omega)]; exact h5 p x y
theorem Sm_st {N : Int → Int} {g : Int → Int → Int} {d np i : Int} (hn : 0 ≤ np) (hi : 0 ≤ i) : Sm (fun p => if N p = d then Sm (fun a => g a p) (i + 1) else 0) np = Sm (fun p => if N p = d then Sm (fun a => g a p) i else 0) np + Sm (fun p => if N p = d then g i p else 0) np := by
  rw [← Sm_add hn]
  refine Sm_congr fun p a b => ?_
  rw [Sm_s hi]
  by_cases c : N p = d
  · rw [if_pos c, if_pos c, if_pos c]
  · rw [if_neg c, if_neg c, if_neg c]; rfl
section LE
variable {D : pd_F} {s : Int → Int} {l b st : Int} {F : pd_F}
theorem c_addShares (hL : pd_Ly F) (hl : aL l) {np x r : Int} {N g : Int → Int} (hn : 0 ≤ np ∧ np ≤ 12) (hx : aR x) (hr : r = l + 5 ∨ r = l + 7) (hN : ∀ p, 0 ≤ p → p < np → F (l + 3) p = N p ∧ 0 ≤ N p ∧ N p < 12)
    (hg : ∀ p, 0 ≤ p → p < np → F x p = g p ∧ 0 ≤ g p ∧ g p ≤ 9999999) (hb : ∀ d, 0 ≤ d → d < 12 → 0 ≤ F r d ∧ F r d ≤ 100000000000) :
    ∃ F', pfX4_addShares pd_SH 5000 F l np x r = some F' ∧ pd_Ly F' ∧ (∀ a, a ≠ r → F' a = F a) ∧ ∀ d, 0 ≤ d → d < 12 → F' r d = F r d + Sm (fun p => if N p = d then g p else 0) np := by
  obtain ⟨s0, s5, s6, s7, s8⟩ := sh_l hl
  obtain ⟨t0, t1, t2, t3⟩ := sh_t hl.t
  rw [show l + 1 + 2 = l + 3 by omega] at t2
  have srow := sh_r hL hx
  have hl' : l = 236 ∨ l = 250 := hl
  have rx : x ≠ r ∧ l + 3 ≠ r := by rcases hx with hx | hx <;> omega
  have sr : pd_sh pd_SH r = some (1, 0, 12) := by exact hr.elim (fun e => e ▸ s5) (fun e => e ▸ s7)
  unfold pfX4_addShares
  refine pl_for (f := fun j (q : pd_F) i => pfX4_addShares_b3 pd_SH 5000 j q l np x r i) (P := fun i q => pd_Ly q ∧ (∀ a, a ≠ r → q a = F a) ∧ ∀ d, 0 ≤ d → d < 12 → q r d = F r d + Sm (fun p => if N p = d then g p else 0) i) (N := np)
    (res := fun o => ∃ F', o = some F' ∧ pd_Ly F' ∧ (∀ a, a ≠ r → F' a = F a) ∧ ∀ d, 0 ≤ d → d < 12 → F' r d = F r d + Sm (fun p => if N p = d then g p else 0) np) ?_ ?_ 5000 F 0 (by omega) hn.1 (by omega) ⟨hL, fun _ _ => rfl, fun d _ _ => by rw [Sm_0]; omega⟩
  · intro j G i a c ⟨q1, q2, q3⟩
    obtain ⟨u0, -⟩ := ly_l q1 hl
    obtain ⟨-, u1, -⟩ := ly_t q1 hl.t
    rw [show l + 1 + 2 = l + 3 by omega] at u1
    have eN := hN i a c
    have eg := hg i a c
    have e1 : G (l + 3) i = N i := by rw [q2 _ rx.2]; exact eN.1
    have e2 : G x i = g i := by rw [q2 _ rx.1]; exact eg.1
    have e3 := q3 (N i) eN.2.1 eN.2.2
    have e4 := hb (N i) eN.2.1 eN.2.2
    have e5 := Sm_bd (f := fun p => if N p = N i then g p else 0) (lo := 0) (hi := 9999999) a (fun p u v => by
      have := hg p u (by omega)
      split <;> omega)
    refine Or.inl ⟨pd_up G r (N i) (G r (N i) + g i), ⟨q1.up (pl_rc0 sr (by decide)), fun c hc => by rw [pu_a hc]; exact q2 c hc, fun d u v => ?_⟩, ?_⟩
    · rw [pu_r, Sm_s a]
      by_cases z : d = N i
      · rw [if_pos z, z, if_pos rfl, e3]; omega
      · rw [if_neg z, q3 d u v, if_neg (fun w => z w.symm)]; omega
    · show pfX4_addShares_b3 pd_SH 5000 (j + 1) G l np x r i = _
      simp (disch := omega) only [pfX4_addShares_b3, pl_l, pl_b, pl_iT, pl_t, pl_f, pl_ob s0, pl_ob t0, pl_ib t2, pl_ib sr, pl_ib srow, u0, u1, e1, e2, pl_w, pl_W, pl_i, if_neg]
  · intro j G q
    refine ⟨G, ?_, q⟩
    show pfX4_addShares_b3 pd_SH 5000 (j + 1) G l np x r np = _
    simp (disch := omega) only [pfX4_addShares_b3, if_pos]
theorem c_countsOn {G : pd_F} {x day : Int} (hx : pd_sh pd_SH x = some (4, 1, 4)) : pfX1_countsOn pd_SH 5000 G x day = some (if G x 2 ≤ day ∧ day ≤ G x 3 then 1 else 0, G) := by
  unfold pfX1_countsOn
  simp only [pl_l, pl_b, pl_iT, pl_t, pl_f, pl_ob hx]
  by_cases a : G x 2 > day
  · rw [if_pos a, if_neg (by omega)]
  · rw [if_neg a]
    by_cases c : day > G x 3
    · rw [if_pos c, if_neg (by omega)]
    · rw [if_neg c, if_pos (by omega)]
/-- one stage of the summing up -/
def lS (D : pd_F) (s : Int → Int) (l b st : Int) (F G : pd_F) (f5 f6 f7 f8 : Int → Int) : Prop := pd_Ly G ∧ lF l F G ∧ lH D s l b st G ∧ (G l 5 = s 72 ∧ G l 6 = s 73) ∧ ∀ d, 0 ≤ d → d < 12 → G (l + 5) d = f5 d ∧ G (l + 6) d = f6 d ∧ G (l + 7) d = f7 d ∧ G (l + 8) d = f8 d
def lE (D : pd_F) (s : Int → Int) (l : Int) (F : pd_F) (o : Option pd_F) : Prop := ∃ F', o = some F' ∧ pd_Ly F' ∧ lF l F F' ∧ kV D s l F'
theorem c_sumHi (hD : bOk D) (hs : aOk D s) (hl : aL l) (hb : aB b) (hst : aU st) {G : pd_F} (h : lS D s l b st F G (sHas D s) (sOw D s) (fun _ => 0) (cI D s)) : lE D s l F (pfX4_sumUpDated_b86 pd_SH 5000 5000 G l b (s 71) 212 0) := by
  obtain ⟨n0, n1, -⟩ := hD.1
  have m7 := hD.2.2.1
  obtain ⟨s0, s5, s6, s7, s8⟩ := sh_l hl
  have sb := (sh_b hb).1
  have sb5 := (sh_b hb).2.2.2.2.2.1
  refine pl_for (f := fun j (q : pd_F) i => pfX4_sumUpDated_b86 pd_SH 5000 j q l b (s 71) 212 i) (P := fun i q => lS D s l b st F q (sHas D s) (sOw D s) (fun d => Sm (fun p => if sN D s p = d then Sm (fun h => gT D s h p) i else 0) (D 369 0)) (cI D s)) (N := D 372 0) (res := lE D s l F) ?_ ?_ 5000 G 0 (by omega) m7.1 (by omega) ?_
  · intro j G i x y ⟨q1, q2, q3, q4, q5⟩
    dsimp only at q5
    obtain ⟨k1, k2, k3, k4, k5⟩ := id q3
    obtain ⟨u0, u1, u2, u3, u4⟩ := ly_l q1 hl
    obtain ⟨-, -, -, -, v4, -⟩ := ly_b q1 hb
    obtain ⟨eh, sh⟩ := fy_h q1 hb (i := i) x (by omega)
    have hh := k1.2.2.2.2.2.2.2.2.1 i x y
    have er := (fy_oh q1 (i := i) x (by omega)).1
    have ec := c_countsOn (G := G) (day := s 71) sh
    rw [hh.2.2.1, hh.2.2.2] at ec
    left
    by_cases z : D 386 i ≤ s 71 ∧ s 71 ≤ D 387 i
    · rw [if_pos z] at ec
      have bd := fun d => Sm_if (f := sN D s) (g := fun p => Sm (fun h => gT D s h p) i) (d := d) n0 (fun p _ _ => by
        have := Sm_bd (f := fun h => gT D s h p) (lo := 0) (hi := 9999999) x (fun h u v => gT_bd hD hs u (by omega))
        omega)
      obtain ⟨H, f1, f2, f3, f4⟩ := c_addShares q1 hl (np := D 369 0) (x := 225 + i) (r := l + 7) (N := sN D s) (g := gT D s i) ⟨n0, n1⟩ (Or.inr ⟨by omega, by omega⟩) (Or.inr rfl) (fun p a c => by
          have := sN_bd (s := s) n0 a c
          have := sD_bd (D := D) (s := s) n0
          exact ⟨k5 p a c, by omega, by omega⟩) (fun p a c => by
          have := gT_bd hD hs x y (p := p)
          refine ⟨?_, this⟩
          rw [k2.2 i p x y a (by omega)]
          unfold gT; rw [if_pos z]) (fun d a c => by
          rw [(q5 d a c).2.2.1]; have := bd d; omega)
      have hf : lF l G H := lF.row (by omega) f3
      refine ⟨H, ⟨f2, q2.tr hf, q3.fr hD hl hb hst hf, by rw [f3 l (by omega)]; exact q4, fun d a c => ?_⟩, ?_⟩
      · dsimp only
        rw [f3 (l + 5) (by omega), f3 (l + 6) (by omega), f3 (l + 8) (by omega), f4 d a c]
        have := q5 d a c
        refine ⟨this.1, this.2.1, ?_, this.2.2.2⟩
        rw [this.2.2.1, Sm_st n0 x]
      · show pfX4_sumUpDated_b86 pd_SH 5000 (j + 1) G l b (s 71) 212 i = _
        simp (disch := omega) only [pfX4_sumUpDated_b86, pfX4_sumUpDated_b128, pl_l, pl_b, pl_iT, pl_t, pl_f, gx_1, gx_2, gx_3, gx_4, gx_113, gx_114, gx_115, gx_116, gx_212, gx_213, gx_224, gn_4, gn_114, gn_115, gn_116, gn_213, gn_224, lx_1_0 q1, lx_1_1 q1, lx_1_2 q1, lx_1_3 q1, lx_1_4 q1, lx_1_5 q1, lx_1_6 q1, lx_1_7 q1, lx_2_0 q1, lx_3_0 q1, lx_113_0 q1, lx_113_1 q1, lx_113_2 q1, lx_212_0 q1, lx_212_1 q1, pl_ob sb, pl_ob sh, pl_ob s0, pl_ib sb5, k1.1, k1.2.2.2.1, v4, eh, ec, er, u3, f1, pl_w, pl_i, if_neg]
    · rw [if_neg z] at ec
      refine ⟨G, ⟨q1, q2, q3, q4, fun d a c => ?_⟩, ?_⟩
      · dsimp only
        have := q5 d a c
        refine ⟨this.1, this.2.1, ?_, this.2.2.2⟩
        rw [this.2.2.1, Sm_st n0 x, Sm_zero (f := fun p => if sN D s p = d then gT D s i p else 0) (fun p u v => by
          unfold gT
          rw [if_neg z]
          split <;> rfl)]
        omega
      · show pfX4_sumUpDated_b86 pd_SH 5000 (j + 1) G l b (s 71) 212 i = _
        simp (disch := omega) only [pfX4_sumUpDated_b86, pfX4_sumUpDated_b128, pl_l, pl_b, pl_iT, pl_t, pl_f, pl_ob sb, pl_ob sh, pl_ib sb5, k1.2.2.2.1, v4, eh, ec, pl_w, pl_i, if_pos, if_neg]
  · intro j G ⟨q1, q2, q3, q4, q5⟩
    refine ⟨G, ?_, q1, q2, Or.inr q4, q3.2.2.2.1, fun d a c => q5 d a (by have := sD_12 (s := s) hD; omega)⟩
    show pfX4_sumUpDated_b86 pd_SH 5000 (j + 1) G l b (s 71) 212 _ = _
    simp (disch := omega) only [pfX4_sumUpDated_b86, pl_l, pl_b, pl_iT, pl_t, pl_f, pl_ob sb, q3.1.2.2.2.1, if_pos]
  · obtain ⟨q1, q2, q3, q4, q5⟩ := h
    refine ⟨q1, q2, q3, q4, fun d a c => ?_⟩
    dsimp only at q5 ⊢
    have := q5 d a c
    refine ⟨this.1, this.2.1, ?_, this.2.2.2⟩
    rw [this.2.2.1, Sm_zero]
    intro p _ _
    rw [Sm_0]
    split <;> rfl
theorem c_sumOw (hD : bOk D) (hs : aOk D s) (h71 : s 71 ≤ 999) (hl : aL l) (hb : aB b) (hst : aU st) {G : pd_F} (h : lS D s l b st F G (sHas D s) (fun _ => 0) (fun _ => 0) (cI D s)) : lE D s l F (pfX4_sumUpDated pd_SH 5000 G l b (s 71) 212) := by
  obtain ⟨n0, n1, -⟩ := hD.1
  have m8 := hD.2.2.2.1
  obtain ⟨s0, s5, s6, s7, s8⟩ := sh_l hl
  obtain ⟨t0, t1, t2, t3⟩ := sh_t hl.t
  rw [show l + 1 + 2 = l + 3 by omega] at t2
  have sb := (sh_b hb).1
  have sb6 := (sh_b hb).2.2.2.2.2.2.1
  have hl' : l = 236 ∨ l = 250 := hl
  have hb' : b = 5 ∨ b = 259 := hb
  unfold pfX4_sumUpDated
  refine pl_for (f := fun j (q : pd_F) i => pfX4_sumUpDated_b3 pd_SH 5000 j q l b (s 71) 212 i) (P := fun i q => lS D s l b st F q (sHas D s) (fun d => Sm (oT D s d) i) (fun _ => 0) (cI D s)) (N := D 373 0) (res := lE D s l F) ?_ ?_ 5000 G 0 (by omega) m8.1 (by omega) ?_
  · intro j G i x y ⟨q1, q2, q3, q4, q5⟩
    dsimp only at q5
    obtain ⟨k1, k2, k3, k4, k5⟩ := id q3
    obtain ⟨u0, u1, u2, u3, u4⟩ := ly_l q1 hl
    obtain ⟨-, w1, -⟩ := ly_t q1 hl.t
    rw [show l + 1 + 2 = l + 3 by omega] at w1
    obtain ⟨-, -, -, -, -, v5, -⟩ := ly_b q1 hb
    obtain ⟨eh, sh⟩ := fy_o q1 hb (i := i) x (by omega)
    have hh := k1.2.2.2.2.2.2.2.2.2.1 i x y
    have hd := hD.2.2.2.2.2.1 i x y
    have ec := c_countsOn (G := G) (day := s 71) sh
    rw [hh.2.2.1, hh.2.2.2] at ec
    have nz : b + 100 + i ≠ 0 := by omega
    have n := sN_bd (s := s) n0 hd.1.1 hd.1.2
    have n2 := sD_bd (D := D) (s := s) n0
    have e1 := k5 (D 388 i) hd.1.1 hd.1.2
    left
    by_cases z : D 390 i ≤ s 71
    · rw [if_pos ⟨z, h71⟩] at ec
      have bd := Sm_bd (f := oT D s (sN D s (D 388 i))) (lo := 0) (hi := 9999999) x (fun l x y => by
        have := hD.2.2.2.2.2.1 l x (by omega)
        unfold oT
        split <;> omega)
      have q6 := (q5 (sN D s (D 388 i)) (by omega) (by omega)).2.1
      have hf : lF l G (pd_up G (l + 6) (sN D s (D 388 i)) (Sm (oT D s (sN D s (D 388 i))) i + D 389 i)) := lF.row (r := l + 6) (by omega) (fun a ha => pu_a ha)
      refine ⟨pd_up G (l + 6) (sN D s (D 388 i)) (Sm (oT D s (sN D s (D 388 i))) i + D 389 i), ⟨q1.up (pl_rc0 s6 (by decide)), q2.tr hf, q3.fr hD hl hb hst hf, by rw [pu_a (by omega)]; exact q4, fun d a c => ?_⟩, ?_⟩
      · dsimp only
        rw [pu_a (by omega), pu_r, pu_a (by omega), pu_a (by omega)]
        have := q5 d a c
        refine ⟨this.1, ?_, this.2.2⟩
        rw [Sm_s x]
        by_cases w : d = sN D s (D 388 i)
        · rw [if_pos w, w]
          congr 1
          unfold oT
          rw [if_pos ⟨z, rfl⟩]
        · rw [if_neg w, this.2.1]
          have : oT D s d i = 0 := by unfold oT; rw [if_neg (fun e => w e.2.symm)]
          omega
      · show pfX4_sumUpDated_b3 pd_SH 5000 (j + 1) G l b (s 71) 212 i = _
        simp (disch := omega) only [pfX4_sumUpDated_b3, pfX4_sumUpDated_b77, pl_l, pl_b, pl_iT, pl_t, pl_f, pl_ob sb, pl_ob sh, pl_ob s0, pl_ob t0, pl_ib t2, pl_ib s6, pl_ib sb6, k1.1, k1.2.2.2.2.1, v5, eh, ec, hh.1, hh.2.1, e1, u0, u2, w1, q6, pl_w, pl_W, pl_i, if_neg]
    · rw [if_neg (fun w => z w.1)] at ec
      refine ⟨G, ⟨q1, q2, q3, q4, fun d a c => ?_⟩, ?_⟩
      · dsimp only
        have := q5 d a c
        refine ⟨this.1, ?_, this.2.2⟩
        rw [Sm_s x, this.2.1]
        have : oT D s d i = 0 := by unfold oT; rw [if_neg (fun e => z e.1)]
        omega
      · show pfX4_sumUpDated_b3 pd_SH 5000 (j + 1) G l b (s 71) 212 i = _
        simp (disch := omega) only [pfX4_sumUpDated_b3, pfX4_sumUpDated_b77, pl_l, pl_b, pl_iT, pl_t, pl_f, pl_ob sb, pl_ob sh, pl_ib sb6, k1.2.2.2.2.1, v5, eh, ec, pl_w, pl_i, if_pos, if_neg]
  · intro j G q
    have e : pfX4_sumUpDated_b3 pd_SH 5000 (j + 1) G l b (s 71) 212 (D 373 0) = pfX4_sumUpDated_b86 pd_SH 5000 5000 G l b (s 71) 212 0 := by
      simp (disch := omega) only [pfX4_sumUpDated_b3, pfX4_sumUpDated_b83, pl_l, pl_b, pl_iT, pl_t, pl_f, pl_ob sb, q.2.2.1.1.2.2.2.2.1, if_pos]
    show lE D s l F (pfX4_sumUpDated_b3 pd_SH 5000 (j + 1) G l b (s 71) 212 _)
    rw [e]
    exact c_sumHi hD hs hl hb hst q
  · obtain ⟨q1, q2, q3, q4, q5⟩ := h
    exact ⟨q1, q2, q3, q4, fun d a c => by dsimp only; rw [Sm_0]; exact q5 d a c⟩
theorem c_sumHas (hD : bOk D) (hs : aOk D s) (h71 : s 71 ≤ 999) (hl : aL l) (hb : aB b) (hst : aU st) {G : pd_F} (h : lS D s l b st F G (fun _ => 0) (fun _ => 0) (fun _ => 0) (cI D s)) : lE D s l F (pfX4_sumUp_b120 pd_SH 5000 5000 G l b st 212 0) := by
  obtain ⟨n0, n1, -⟩ := hD.1
  have m5 := hD.1.2.2.2.2
  obtain ⟨s0, s5, s6, s7, s8⟩ := sh_l hl
  obtain ⟨r0, r1, r2, -⟩ := sh_s hst.s
  have sb := (sh_b hb).1
  refine pl_for (f := fun j (q : pd_F) i => pfX4_sumUp_b120 pd_SH 5000 j q l b st 212 i) (P := fun i q => lS D s l b st F q (fun d => Sm (fun p => if sN D s p = d then Sm (fun h => gA D s h p) i else 0) (D 369 0)) (fun _ => 0) (fun _ => 0) (cI D s)) (N := D 371 0) (res := lE D s l F) ?_ ?_ 5000 G 0 (by omega) m5.1 (by omega) ?_
  · intro j G i x y ⟨q1, q2, q3, q4, q5⟩
    dsimp only at q5
    obtain ⟨k1, k2, k3, k4, k5⟩ := id q3
    obtain ⟨u0, u1, u2, u3, u4⟩ := ly_l q1 hl
    have er := (fy_oa q1 (i := i) x (by omega)).1
    left
    have bd := fun d => Sm_if (f := sN D s) (g := fun p => Sm (fun h => gA D s h p) i) (d := d) n0 (fun p _ _ => by
      have := Sm_bd (f := fun h => gA D s h p) (lo := 0) (hi := 9999999) x (fun h u v => gA_bd hD hs u (by omega))
      omega)
    obtain ⟨H, f1, f2, f3, f4⟩ := c_addShares q1 hl (np := D 369 0) (x := 214 + i) (r := l + 5) (N := sN D s) (g := gA D s i) ⟨n0, n1⟩ (Or.inl ⟨by omega, by omega⟩) (Or.inl rfl) (fun p a c => by
        have := sN_bd (s := s) n0 a c
        have := sD_bd (D := D) (s := s) n0
        exact ⟨k5 p a c, by omega, by omega⟩) (fun p a c => ⟨k2.1 i p x y a (by omega), gA_bd hD hs x y⟩) (fun d a c => by
        rw [(q5 d a c).1]; have := bd d; omega)
    have hf : lF l G H := lF.row (by omega) f3
    refine ⟨H, ⟨f2, q2.tr hf, q3.fr hD hl hb hst hf, by rw [f3 l (by omega)]; exact q4, fun d a c => ?_⟩, ?_⟩
    · dsimp only
      rw [f3 (l + 6) (by omega), f3 (l + 7) (by omega), f3 (l + 8) (by omega), f4 d a c]
      have := q5 d a c
      refine ⟨?_, this.2⟩
      rw [this.1, Sm_st n0 x]
    · show pfX4_sumUp_b120 pd_SH 5000 (j + 1) G l b st 212 i = _
      simp (disch := omega) only [pfX4_sumUp_b120, pl_l, pl_b, pl_iT, pl_t, pl_f, gx_1, gx_2, gx_3, gx_4, gx_113, gx_114, gx_115, gx_116, gx_212, gx_213, gx_224, gn_4, gn_114, gn_115, gn_116, gn_213, gn_224, lx_1_0 q1, lx_1_1 q1, lx_1_2 q1, lx_1_3 q1, lx_1_4 q1, lx_1_5 q1, lx_1_6 q1, lx_1_7 q1, lx_2_0 q1, lx_3_0 q1, lx_113_0 q1, lx_113_1 q1, lx_113_2 q1, lx_212_0 q1, lx_212_1 q1, pl_ob sb, pl_ob s0, k1.1, k1.2.2.1, er, u1, f1, pl_w, pl_i, if_neg]
  · intro j G q
    have e : pfX4_sumUp_b120 pd_SH 5000 (j + 1) G l b st 212 (D 371 0) = pfX4_sumUpDated pd_SH 5000 G l b (s 71) 212 := by
      obtain ⟨-, v1, -⟩ := ly_s q.1 hst.s
      simp (disch := omega) only [pfX4_sumUp_b120, pfX4_sumUp_b154, pl_l, pl_b, pl_iT, pl_t, pl_f, pl_ob sb, pl_ob r0, pl_ib r2, pl_ob s0, v1, q.2.2.1.2.2.1.1, q.2.2.1.1.2.2.1, pl_i, if_pos]
      cases pfX4_sumUpDated pd_SH 5000 G l b (s 71) 212 <;> rfl
    show lE D s l F (pfX4_sumUp_b120 pd_SH 5000 (j + 1) G l b st 212 _)
    rw [e]
    exact c_sumOw hD hs h71 hl hb hst q
  · obtain ⟨q1, q2, q3, q4, q5⟩ := h
    refine ⟨q1, q2, q3, q4, fun d a c => ?_⟩
    dsimp only at q5 ⊢
    have := q5 d a c
    refine ⟨?_, this.2⟩
    rw [this.1, Sm_zero]
    intro p _ _
    rw [Sm_0]
    split <;> rfl
theorem c_sumIn (hD : bOk D) (hs : aOk D s) (h71 : s 71 ≤ 999) (hl : aL l) (hb : aB b) (hst : aU st) {G : pd_F} (h : lS D s l b st F G (fun _ => 0) (fun _ => 0) (fun _ => 0) (fun _ => 0)) : lE D s l F (pfX4_sumUp_b73 pd_SH 5000 5000 G l b st 212 0) := by
  obtain ⟨n0, n1, -⟩ := hD.1
  have hi01 := hD.2.2.2.2.2.2
  obtain ⟨s0, s5, s6, s7, s8⟩ := sh_l hl
  obtain ⟨t0, t1, t2, t3⟩ := sh_t hl.t
  rw [show l + 1 + 2 = l + 3 by omega] at t2
  have sb := (sh_b hb).1
  have sb1 := (sh_b hb).2.1
  refine pl_for (f := fun j (q : pd_F) i => pfX4_sumUp_b73 pd_SH 5000 j q l b st 212 i) (P := fun i q => lS D s l b st F q (fun _ => 0) (fun _ => 0) (fun _ => 0) (fun d => ci (∃ p, 0 ≤ p ∧ p < i ∧ D 377 p ≠ 0 ∧ sN D s p = d) 1 0)) (N := D 369 0) (res := lE D s l F) ?_ ?_ 5000 G 0 (by omega) n0 (by omega) ?_
  · intro j G i x y ⟨q1, q2, q3, q4, q5⟩
    dsimp only at q5
    obtain ⟨k1, k2, k3, k4, k5⟩ := id q3
    obtain ⟨u0, u1, u2, u3, u4⟩ := ly_l q1 hl
    obtain ⟨-, w1, -⟩ := ly_t q1 hl.t
    rw [show l + 1 + 2 = l + 3 by omega] at w1
    obtain ⟨v0, -⟩ := ly_b q1 hb
    obtain ⟨ep, -, spp, -⟩ := fy_p q1 hb (i := i) x (by omega)
    have kp := (k1.2.2.2.2.2.1 i x y).2.2.1
    have n := sN_bd (s := s) n0 x y
    have n2 := sD_bd (D := D) (s := s) n0
    have e1 := k5 i x y
    left
    by_cases z : D 377 i = 0
    · refine ⟨G, ⟨q1, q2, q3, q4, fun d a c => ?_⟩, ?_⟩
      · dsimp only
        have := q5 d a c
        refine ⟨this.1, this.2.1, this.2.2.1, ?_⟩
        rw [this.2.2.2]
        refine ci_c ⟨fun ⟨p, u, v, w⟩ => ⟨p, u, by omega, w⟩, fun ⟨p, u, v, w, w2⟩ => ⟨p, u, ?_, w, w2⟩⟩
        have : p ≠ i := fun e => w (e ▸ z)
        omega
      · show pfX4_sumUp_b73 pd_SH 5000 (j + 1) G l b st 212 i = _
        simp (disch := omega) only [pfX4_sumUp_b73, pfX4_sumUp_b111, pl_l, pl_b, pl_iT, pl_t, pl_f, pl_ob sb, pl_ob spp, pl_ib sb1, k1.1, v0, ep, kp, pl_w, pl_i, if_pos, if_neg]
    · have hf : lF l G (pd_up G (l + 8) (sN D s i) 1) := lF.row (r := l + 8) (by omega) (fun a ha => pu_a ha)
      refine ⟨pd_up G (l + 8) (sN D s i) 1, ⟨q1.up (pl_rc0 s8 (by decide)), q2.tr hf, q3.fr hD hl hb hst hf, by rw [pu_a (by omega)]; exact q4, fun d a c => ?_⟩, ?_⟩
      · dsimp only
        rw [pu_a (by omega), pu_a (by omega), pu_a (by omega), pu_r]
        have := q5 d a c
        refine ⟨this.1, this.2.1, this.2.2.1, ?_⟩
        by_cases w : d = sN D s i
        · rw [if_pos w, ci_t ⟨i, x, by omega, z, w.symm⟩]
        · rw [if_neg w, this.2.2.2]
          refine ci_c ⟨fun ⟨p, u, v, w⟩ => ⟨p, u, by omega, w⟩, fun ⟨p, u, v, w1, w2⟩ => ⟨p, u, ?_, w1, w2⟩⟩
          have : p ≠ i := fun e => w (e ▸ w2.symm)
          omega
      · show pfX4_sumUp_b73 pd_SH 5000 (j + 1) G l b st 212 i = _
        simp (disch := omega) only [pfX4_sumUp_b73, pfX4_sumUp_b111, pl_l, pl_b, pl_iT, pl_t, pl_f, pl_ob sb, pl_ob spp, pl_ob s0, pl_ob t0, pl_ib t2, pl_ib s8, pl_ib sb1, k1.1, v0, ep, kp, e1, u0, u4, w1, pl_w, pl_i, if_neg]
  · intro j G q
    have e : pfX4_sumUp_b73 pd_SH 5000 (j + 1) G l b st 212 (D 369 0) = pfX4_sumUp_b120 pd_SH 5000 5000 G l b st 212 0 := by
      simp (disch := omega) only [pfX4_sumUp_b73, pfX4_sumUp_b117, pl_l, pl_b, pl_iT, pl_t, pl_f, pl_ob sb, q.2.2.1.1.1, if_pos]
    show lE D s l F (pfX4_sumUp_b73 pd_SH 5000 (j + 1) G l b st 212 _)
    rw [e]
    exact c_sumHas hD hs h71 hl hb hst q
  · obtain ⟨q1, q2, q3, q4, q5⟩ := h
    exact ⟨q1, q2, q3, q4, fun d a c => by dsimp only; rw [ci_f (fun ⟨p, u, v, _⟩ => by omega)]; exact q5 d a c⟩
theorem c_sumUp (hD : bOk D) (hs : aOk D s) (h71 : s 71 ≤ 999) (hl : aL l) (hb : aB b) (hst : aU st) (hL : pd_Ly F) (h : lH D s l b st F) : lE D s l F (pfX4_sumUp pd_SH 5000 F l b st 212) := by
  obtain ⟨s0, s5, s6, s7, s8⟩ := sh_l hl
  obtain ⟨r0, r1, r2, -⟩ := sh_s hst.s
  have hl' : l = 236 ∨ l = 250 := hl
  have hs' : st = 231 ∨ st = 245 := hst
  have l1 : pd_Ly (pd_up F l 5 (s 72)) := hL.up (pl_rc4 s0 (by decide))
  have l2 : pd_Ly (pd_up (pd_up F l 5 (s 72)) l 6 (s 73)) := l1.up (pl_rc4 s0 (by decide))
  have f2 : lF l F (pd_up (pd_up F l 5 (s 72)) l 6 (s 73)) := (lF.up (Or.inl rfl)).tr (lF.up (Or.inr rfl))
  obtain ⟨-, v1, -⟩ := ly_s hL hst.s
  obtain ⟨-, v2, -⟩ := ly_s l1 hst.s
  have e1 : pd_up F l 5 (s 72) (st + 2) 2 = s 73 := by rw [pu_a (by omega)]; exact h.2.2.1.2.2
  unfold pfX4_sumUp
  simp only [pl_l, pl_b, pl_iT, pl_t, pl_f, pl_ob s0, pl_ob r0, pl_ib r2, v1, v2, h.2.2.1.2.1, e1]
  rw [pl_i (by omega), pl_i (by omega)]
  refine pl_for (f := fun j (q : pd_F) i => pfX4_sumUp_b25 pd_SH 5000 j q l b st 212 i) (P := fun i q => pd_Ly q ∧ lF l F q ∧ (q l 5 = s 72 ∧ q l 6 = s 73) ∧ ∀ d, 0 ≤ d → d < i → q (l + 5) d = 0 ∧ q (l + 6) d = 0 ∧ q (l + 7) d = 0 ∧ q (l + 8) d = 0) (N := 12) (res := lE D s l F) ?_ ?_ 5000 _ 0 (by omega) (by omega) (by omega) ⟨l2, f2, ⟨by rw [pu_r, if_neg (by decide), pu_r, if_pos rfl], by rw [pu_r, if_pos rfl]⟩, fun d a c => by omega⟩
  · intro j G i a c ⟨q1, q2, q3, q4⟩
    have p1 : pd_Ly (pd_up G (l + 5) i 0) := q1.up (pl_rc0 s5 (by decide))
    have p2 : pd_Ly (pd_up (pd_up G (l + 5) i 0) (l + 6) i 0) := p1.up (pl_rc0 s6 (by decide))
    have p3 : pd_Ly (pd_up (pd_up (pd_up G (l + 5) i 0) (l + 6) i 0) (l + 7) i 0) := p2.up (pl_rc0 s7 (by decide))
    have x1 := (ly_l q1 hl).2.1
    have x2 := (ly_l p1 hl).2.2.1
    have x3 := (ly_l p2 hl).2.2.2.1
    have x4 := (ly_l p3 hl).2.2.2.2
    refine Or.inl ⟨pd_up (pd_up (pd_up (pd_up G (l + 5) i 0) (l + 6) i 0) (l + 7) i 0) (l + 8) i 0, ⟨p3.up (pl_rc0 s8 (by decide)), ?_, ?_, fun d x y => ?_⟩, ?_⟩
    · exact (((q2.tr (lF.row (r := l + 5) (by omega) (fun a ha => pu_a ha))).tr (lF.row (r := l + 6) (by omega) (fun a ha => pu_a ha))).tr (lF.row (r := l + 7) (by omega) (fun a ha => pu_a ha))).tr (lF.row (r := l + 8) (by omega) (fun a ha => pu_a ha))
    · rw [pu_a (by omega), pu_a (by omega), pu_a (by omega), pu_a (by omega)]; exact q3
    · have eo := q4 d x
      rw [pu_a (a := l + 8) (show l + 5 ≠ l + 8 by omega), pu_a (a := l + 7) (show l + 5 ≠ l + 7 by omega), pu_a (a := l + 6) (show l + 5 ≠ l + 6 by omega), pu_r,
        pu_a (a := l + 8) (show l + 6 ≠ l + 8 by omega), pu_a (a := l + 7) (show l + 6 ≠ l + 7 by omega), pu_r, pu_a (a := l + 5) (show l + 6 ≠ l + 5 by omega),
        pu_a (a := l + 8) (show l + 7 ≠ l + 8 by omega), pu_r, pu_a (a := l + 6) (show l + 7 ≠ l + 6 by omega), pu_a (a := l + 5) (show l + 7 ≠ l + 5 by omega),
        pu_r, pu_a (a := l + 7) (show l + 8 ≠ l + 7 by omega), pu_a (a := l + 6) (show l + 8 ≠ l + 6 by omega), pu_a (a := l + 5) (show l + 8 ≠ l + 5 by omega)]
      by_cases z : d = i
      · simp only [if_pos z, and_self]
      · simp only [if_neg z]; exact eo (by omega)
    · show pfX4_sumUp_b25 pd_SH 5000 (j + 1) G l b st 212 i = _
      simp (disch := omega) only [pfX4_sumUp_b25, pl_l, pl_b, pl_iT, pl_t, pl_f, pl_ob s0, pl_ib s5, pl_ib s6, pl_ib s7, pl_ib s8, x1, x2, x3, x4, pl_w, pl_i, if_neg]
  · intro j G ⟨q1, q2, q3, q4⟩
    have e : pfX4_sumUp_b25 pd_SH 5000 (j + 1) G l b st 212 12 = pfX4_sumUp_b73 pd_SH 5000 5000 G l b st 212 0 := by
      simp (disch := omega) only [pfX4_sumUp_b25, pfX4_sumUp_b70, if_pos]
    show lE D s l F (pfX4_sumUp_b25 pd_SH 5000 (j + 1) G l b st 212 12)
    rw [e]
    exact c_sumIn hD hs h71 hl hb hst ⟨q1, q2, h.fr hD hl hb hst q2, q3, q4⟩
end LE

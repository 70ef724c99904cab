variable {sT : pd_S}
/-! the class: ledgers -/
/-- the frame of a ledger -/
def lF (l : Int) (F G : pd_F) : Prop := (∀ a, a ≠ l → (a < l + 5 ∨ l + 8 < a) → G a = F a) ∧ ∀ j, j ≠ 5 → j ≠ 6 → G l j = F l j
theorem lF.tr {l : Int} {F G H : pd_F} (h : lF l F G) (g : lF l G H) : lF l F H := ⟨fun a x y => (g.1 a x y).trans (h.1 a x y), fun j x y => (g.2 j x y).trans (h.2 j x y)⟩
theorem lF.row {l : Int} {F G : pd_F} {r : Int} (hr : l + 5 ≤ r ∧ r ≤ l + 8) (g : ∀ a, a ≠ r → G a = F a) : lF l F G := ⟨fun a x y => g a (by omega), fun j x y => by rw [g l (by omega)]⟩
theorem lF.up {l : Int} {F : pd_F} {j v : Int} (hj : j = 5 ∨ j = 6) : lF l F (pd_up F l j v) := ⟨fun a x y => pu_a x, fun i x y => by rw [pu_r, if_neg (by omega)]⟩
/-- what a ledger is summed up from -/
def lH (D : pd_F) (s : Int → Int) (l b st : Int) (F : pd_F) : Prop := kB D F b ∧ hP D s F ∧ (F (st + 2) 0 = s 71 ∧ F (st + 2) 1 = s 72 ∧ F (st + 2) 2 = s 73) ∧ F (l + 1) 3 = sD D s ∧ ∀ p, 0 ≤ p → p < D 369 0 → F (l + 3) p = sN D s p
/-- a ledger summed up -/
def kV (D : pd_F) (s : Int → Int) (l : Int) (F : pd_F) : Prop := (sD D s = 0 ∨ (F l 5 = s 72 ∧ F l 6 = s 73)) ∧ F (l + 1) 3 = sD D s ∧ ∀ d, 0 ≤ d → d < sD D s → F (l + 5) d = sHas D s d ∧ F (l + 6) d = sOw D s d ∧ F (l + 7) d = sHi D s d ∧ F (l + 8) d = cI D s d
def aU (st : Int) : Prop := st = 231 ∨ st = 245
theorem aU.s {st : Int} (h : aU st) : aS st := by
  rcases h with rfl | rfl
  · exact aS_now
  · exact Or.inr (Or.inl rfl)
theorem aL.t {l : Int} (h : aL l) : aT (l + 1) := by
  rcases h with rfl | rfl
  · exact Or.inl rfl
  · exact Or.inr rfl
theorem lH.fr {D : pd_F} {s : Int → Int} {l b st : Int} {F G : pd_F} (h : lH D s l b st F) (hD : bOk D) (hl : aL l) (hb : aB b) (hst : aU st) (e : lF l F G) : lH D s l b st G := by
  obtain ⟨h1, h2, h3, h4, h5⟩ := h
  have n5 := hD.1.2.2.2.2.2.1
  have n7 := hD.2.2.1.2
  have hl' : l = 236 ∨ l = 250 := hl
  have hb' : b = 5 ∨ b = 259 := hb
  have hs' : st = 231 ∨ st = 245 := hst
  refine ⟨h1.fr hb hD (fun a x y => e.1 a (by omega) (by omega)), ⟨fun a p x y z w => ?_, fun a p x y z w => ?_⟩, ?_, ?_, fun p x y => ?_⟩
  · rw [e.1 _ (by omega) (by omega)]; exact h2.1 a p x y z w
  · rw [e.1 _ (by omega) (by omega)]; exact h2.2 a p x y z w
  · rw [e.1 _ (by omega) (by omega)]; exact h3
  · rw [e.1 _ (by omega) (by omega)]; exact h4
  · rw [e.1 _ (by omega) (by omega)]; exact h5 p x y
section LE
variable {D : pd_F} {s : Int → Int} {l b st : Int} {F : pd_F}
theorem c_countsOn {G : pd_F} {x day : Int} (hx : pd_sh (pd_SH sT) x = some (4, 1, 4)) : pfX1_countsOn (pd_SH sT) 5000 G x day = some (if G x 2 ≤ day ∧ day ≤ G x 3 then 1 else 0, G) := by
  unfold pfX1_countsOn
  simp only [pl_l, pl_b, pl_iT, pl_t, pl_f, pl_ob hx]
  by_cases a : G x 2 > day
  · rw [if_pos a, if_neg (by omega)]
  · rw [if_neg a]
    by_cases c : day > G x 3
    · rw [if_pos c, if_neg (by omega)]
    · rw [if_neg c, if_pos (by omega)]
/-- one stage of the summing up -/
def lS (D : pd_F) (s : Int → Int) (l b st : Int) (F G : pd_F) (f5 f6 f7 f8 : Int → Int) : Prop := pd_Ly G ∧ lF l F G ∧ lH D s l b st G ∧ (G l 5 = s 72 ∧ G l 6 = s 73) ∧ ∀ d, 0 ≤ d → d < 12 → G (l + 5) d = f5 d ∧ G (l + 6) d = f6 d ∧ G (l + 7) d = f7 d ∧ G (l + 8) d = f8 d
def lE (D : pd_F) (s : Int → Int) (l : Int) (F : pd_F) (o : Option pd_F) : Prop := ∃ F', o = some F' ∧ pd_Ly F' ∧ lF l F F' ∧ kV D s l F'
/-- a row with v more at e -/
def uA (f : Int → Int) (e v : Int) : Int → Int := fun d => if d = e then f d + v else f d
def lB (f : Int → Int) : Prop := ∀ d, 0 ≤ d → d < 12 → 0 ≤ f d ∧ f d ≤ 100000000000
def lP (D : pd_F) (s : Int → Int) (l b st : Int) (F : pd_F) (f5 f6 f7 f8 : Int → Int) (o : Option pd_F) : Prop := ∃ H, o = some H ∧ lS D s l b st F H f5 f6 f7 f8
/-- a loan, of one person -/
def oP (D : pd_F) (s : Int → Int) (p l : Int) : Int := if D 388 l = p ∧ D 390 l ≤ s 71 then D 389 l else 0
/-- a loan, of a depositor's persons below i -/
noncomputable def oI (D : pd_F) (s : Int → Int) (i d l : Int) : Int := if D 388 l < i ∧ D 390 l ≤ s 71 ∧ sN D s (D 388 l) = d then D 389 l else 0
theorem lS.cg {G : pd_F} {f5 f6 f7 f8 g5 g6 g7 g8 : Int → Int} (h : lS D s l b st F G f5 f6 f7 f8) (e : ∀ d, 0 ≤ d → d < 12 → f5 d = g5 d ∧ f6 d = g6 d ∧ f7 d = g7 d ∧ f8 d = g8 d) : lS D s l b st F G g5 g6 g7 g8 := by
  obtain ⟨q1, q2, q3, q4, q5⟩ := h
  refine ⟨q1, q2, q3, q4, fun d a c => ?_⟩
  obtain ⟨e1, e2, e3, e4⟩ := e d a c
  rw [← e1, ← e2, ← e3, ← e4]
  exact q5 d a c
theorem c_apHi (hD : bOk D) (hs : aOk D s) (hl : aL l) (hb : aB b) (hst : aU st) {G : pd_F} {f5 f6 f7 f8 : Int → Int} {p e : Int} (hp : 0 ≤ p ∧ p < D 369 0) (he : 0 ≤ e ∧ e < 12) (b7 : lB f7) (h : lS D s l b st F G f5 f6 f7 f8) :
    lP D s l b st F f5 f6 (uA f7 e (sHg D s p)) f8 (pfX4_addPerson_b139 (pd_SH sT) 5000 5000 G l b (s 71) 212 p e 0) := by
  obtain ⟨n0, n1, -⟩ := hD.1
  have m7 := hD.2.2.1
  obtain ⟨s0, s5, s6, s7, s8⟩ := sh_l (sT := sT) hl
  have sb := (sh_b (sT := sT) hb).1
  have sb5 := (sh_b (sT := sT) hb).2.2.2.2.2.1
  refine pl_for (f := fun j (q : pd_F) i => pfX4_addPerson_b139 (pd_SH sT) 5000 j q l b (s 71) 212 p e i) (P := fun i q => lS D s l b st F q f5 f6 (uA f7 e (Sm (fun h => gT D s h p) i)) f8) (N := D 372 0) (res := lP D s l b st F f5 f6 (uA f7 e (sHg D s p)) f8) ?_ ?_ 5000 G 0 (by omega) m7.1 (by omega) ?_
  · intro j G i x y ⟨q1, q2, q3, q4, q5⟩
    obtain ⟨k1, k2, k3, k4, k5⟩ := id q3
    obtain ⟨u0, u1, u2, u3, u4⟩ := ly_l q1 hl
    obtain ⟨-, -, -, -, v4, -⟩ := ly_b q1 hb
    obtain ⟨eh, sh⟩ := fy_h (sT := sT) q1 hb (i := i) x (by omega)
    have hh := k1.2.2.2.2.2.2.2.2.1 i x y
    obtain ⟨er, sr⟩ := fy_oh (sT := sT) q1 (i := i) x (by omega)
    have ec := c_countsOn (sT := sT) (G := G) (day := s 71) sh
    rw [hh.2.2.1, hh.2.2.2] at ec
    left
    by_cases z : D 386 i ≤ s 71 ∧ s 71 ≤ D 387 i
    · rw [if_pos z] at ec
      have eg : G (225 + i) p = gT D s i p := by
        rw [k2.2 i p x y hp.1 (by omega)]
        unfold gT; rw [if_pos z]
      have gb := gT_bd hD hs x y (p := p)
      have sm := Sm_bd (f := fun h => gT D s h p) (lo := 0) (hi := 9999999) x (fun h u v => gT_bd hD hs u (by omega))
      have b7' := b7 e he.1 he.2
      have q7 : G (l + 7) e = f7 e + Sm (fun h => gT D s h p) i := by rw [(q5 e he.1 he.2).2.2.1]; unfold uA; rw [if_pos rfl]
      have hf : lF l G (pd_up G (l + 7) e (f7 e + Sm (fun h => gT D s h p) i + gT D s i p)) := lF.row (r := l + 7) (by omega) (fun a ha => pu_a ha)
      refine ⟨pd_up G (l + 7) e (f7 e + Sm (fun h => gT D s h p) i + gT D s i p), ⟨q1.up (pl_rc0 s7 (by decide)), q2.tr hf, q3.fr hD hl hb hst hf, by rw [pu_a (by omega)]; exact q4, fun d a c => ?_⟩, ?_⟩
      · rw [pu_a (by omega), pu_a (by omega), pu_r, pu_a (by omega)]
        have := q5 d a c
        refine ⟨this.1, this.2.1, ?_, this.2.2.2⟩
        unfold uA at this ⊢
        by_cases w : d = e
        · rw [if_pos w, if_pos w, w, Sm_s x]; omega
        · rw [if_neg w, if_neg w, this.2.2.1, if_neg w]
      · show pfX4_addPerson_b139 (pd_SH sT) 5000 (j + 1) G l b (s 71) 212 p e i = _
        simp (disch := omega) only [pfX4_addPerson_b139, pfX4_addPerson_b183, pl_l, pl_b, pl_iT, pl_t, pl_f, gx_1, gx_2, gx_3, gx_4, gx_113, gx_114, gx_115, gx_116, gx_212, gx_213, gx_224, gn_4, gn_114, gn_115, gn_116, gn_213, gn_224, lx_1_0 q1, lx_1_1 q1, lx_1_2 q1, lx_1_3 q1, lx_1_4 q1, lx_1_5 q1, lx_1_6 q1, lx_1_7 q1, lx_2_0 q1, lx_3_0 q1, lx_113_0 q1, lx_113_1 q1, lx_113_2 q1, lx_212_0 q1, lx_212_1 q1, pl_ob sb, pl_ob sh, pl_ob s0, pl_ib sb5, pl_ib s7, pl_ib sr, k1.2.2.2.1, v4, eh, ec, er, u3, q7, eg, pl_w, pl_W, pl_i, if_neg]
    · rw [if_neg z] at ec
      refine ⟨G, ⟨q1, q2, q3, q4, fun d a c => ?_⟩, ?_⟩
      · have := q5 d a c
        refine ⟨this.1, this.2.1, ?_, this.2.2.2⟩
        rw [this.2.2.1, Sm_s x, show gT D s i p = 0 by unfold gT; rw [if_neg z], Int.add_zero]
      · show pfX4_addPerson_b139 (pd_SH sT) 5000 (j + 1) G l b (s 71) 212 p e i = _
        simp (disch := omega) only [pfX4_addPerson_b139, pfX4_addPerson_b183, pl_l, pl_b, pl_iT, pl_t, pl_f, pl_ob sb, pl_ob sh, pl_ib sb5, k1.2.2.2.1, v4, eh, ec, pl_w, pl_i, if_pos, if_neg]
  · intro j G q
    refine ⟨G, ?_, q⟩
    show pfX4_addPerson_b139 (pd_SH sT) 5000 (j + 1) G l b (s 71) 212 p e _ = _
    simp (disch := omega) only [pfX4_addPerson_b139, pl_l, pl_b, pl_iT, pl_t, pl_f, pl_ob sb, q.2.2.1.1.2.2.2.1, if_pos]
  · refine h.cg fun d a c => ⟨rfl, rfl, ?_, rfl⟩
    unfold uA; rw [Sm_0]; split <;> omega
theorem c_apOw (hD : bOk D) (hs : aOk D s) (h71 : s 71 ≤ 999) (hl : aL l) (hb : aB b) (hst : aU st) {G : pd_F} {f5 f6 f7 f8 : Int → Int} {p e : Int} (hp : 0 ≤ p ∧ p < D 369 0) (he : 0 ≤ e ∧ e < 12) (b6 : lB f6) (b7 : lB f7) (h : lS D s l b st F G f5 f6 f7 f8) :
    lP D s l b st F f5 (uA f6 e (Sm (oP D s p) (D 373 0))) (uA f7 e (sHg D s p)) f8 (pfX4_addPerson_b77 (pd_SH sT) 5000 5000 G l b (s 71) 212 p e 0) := by
  obtain ⟨n0, n1, -⟩ := hD.1
  have m8 := hD.2.2.2.1
  obtain ⟨s0, s5, s6, s7, s8⟩ := sh_l (sT := sT) hl
  have sb := (sh_b (sT := sT) hb).1
  have sb6 := (sh_b (sT := sT) hb).2.2.2.2.2.2.1
  have hb' : b = 5 ∨ b = 259 := hb
  refine pl_for (f := fun j (q : pd_F) i => pfX4_addPerson_b77 (pd_SH sT) 5000 j q l b (s 71) 212 p e i) (P := fun i q => lS D s l b st F q f5 (uA f6 e (Sm (oP D s p) i)) f7 f8) (N := D 373 0) (res := lP D s l b st F f5 (uA f6 e (Sm (oP D s p) (D 373 0))) (uA f7 e (sHg D s p)) f8) ?_ ?_ 5000 G 0 (by omega) m8.1 (by omega) ?_
  · intro j G i x y ⟨q1, q2, q3, q4, q5⟩
    obtain ⟨k1, k2, k3, k4, k5⟩ := id q3
    obtain ⟨u0, u1, u2, u3, u4⟩ := ly_l q1 hl
    obtain ⟨-, -, -, -, -, v5, -⟩ := ly_b q1 hb
    obtain ⟨eh, sh⟩ := fy_o (sT := sT) q1 hb (i := i) x (by omega)
    have hh := k1.2.2.2.2.2.2.2.2.2.1 i x y
    have hd := hD.2.2.2.2.2.1 i x y
    have ec := c_countsOn (sT := sT) (G := G) (day := s 71) sh
    rw [hh.2.2.1, hh.2.2.2] at ec
    have nz : b + 100 + i ≠ 0 := by omega
    left
    by_cases w0 : D 388 i = p
    · by_cases z : D 390 i ≤ s 71
      · rw [if_pos ⟨z, h71⟩] at ec
        have sm := Sm_bd (f := oP D s p) (lo := 0) (hi := 9999999) x (fun l x y => by
          have := hD.2.2.2.2.2.1 l x (by omega)
          unfold oP
          split <;> omega)
        have b6' := b6 e he.1 he.2
        have q6 : G (l + 6) e = f6 e + Sm (oP D s p) i := by rw [(q5 e he.1 he.2).2.1]; unfold uA; rw [if_pos rfl]
        have hf : lF l G (pd_up G (l + 6) e (f6 e + Sm (oP D s p) i + D 389 i)) := lF.row (r := l + 6) (by omega) (fun a ha => pu_a ha)
        refine ⟨pd_up G (l + 6) e (f6 e + Sm (oP D s p) i + D 389 i), ⟨q1.up (pl_rc0 s6 (by decide)), q2.tr hf, q3.fr hD hl hb hst hf, by rw [pu_a (by omega)]; exact q4, fun d a c => ?_⟩, ?_⟩
        · rw [pu_a (by omega), pu_r, pu_a (by omega), pu_a (by omega)]
          have := q5 d a c
          refine ⟨this.1, ?_, this.2.2⟩
          unfold uA at this ⊢
          by_cases w : d = e
          · rw [if_pos w, if_pos w, w, Sm_s x, show oP D s p i = D 389 i by unfold oP; rw [if_pos ⟨w0, z⟩]]; omega
          · rw [if_neg w, if_neg w, this.2.1, if_neg w]
        · show pfX4_addPerson_b77 (pd_SH sT) 5000 (j + 1) G l b (s 71) 212 p e i = _
          simp (disch := omega) only [pfX4_addPerson_b77, pfX4_addPerson_b130, pl_l, pl_b, pl_iT, pl_t, pl_f, pl_ob sb, pl_ob sh, pl_ob s0, pl_ib s6, pl_ib sb6, k1.2.2.2.2.1, v5, eh, ec, hh.1, hh.2.1, u2, q6, pl_w, pl_W, pl_i, if_neg]
      · rw [if_neg (fun w => z w.1)] at ec
        refine ⟨G, ⟨q1, q2, q3, q4, fun d a c => ?_⟩, ?_⟩
        · have := q5 d a c
          refine ⟨this.1, ?_, this.2.2⟩
          rw [this.2.1, Sm_s x, show oP D s p i = 0 by unfold oP; rw [if_neg (fun e => z e.2)], Int.add_zero]
        · show pfX4_addPerson_b77 (pd_SH sT) 5000 (j + 1) G l b (s 71) 212 p e i = _
          simp (disch := omega) only [pfX4_addPerson_b77, pfX4_addPerson_b130, pl_l, pl_b, pl_iT, pl_t, pl_f, pl_ob sb, pl_ob sh, pl_ib sb6, k1.2.2.2.2.1, v5, eh, ec, hh.1, pl_w, pl_i, if_pos, if_neg]
    · refine ⟨G, ⟨q1, q2, q3, q4, fun d a c => ?_⟩, ?_⟩
      · have := q5 d a c
        refine ⟨this.1, ?_, this.2.2⟩
        rw [this.2.1, Sm_s x, show oP D s p i = 0 by unfold oP; rw [if_neg (fun e => w0 e.1)], Int.add_zero]
      · show pfX4_addPerson_b77 (pd_SH sT) 5000 (j + 1) G l b (s 71) 212 p e i = _
        simp (disch := omega) only [pfX4_addPerson_b77, pfX4_addPerson_b130, pl_l, pl_b, pl_iT, pl_t, pl_f, pl_ob sb, pl_ob sh, pl_ib sb6, k1.2.2.2.2.1, v5, eh, hh.1, pl_w, pl_i, if_pos, if_neg]
  · intro j G q
    have e1 : pfX4_addPerson_b77 (pd_SH sT) 5000 (j + 1) G l b (s 71) 212 p e (D 373 0) = pfX4_addPerson_b139 (pd_SH sT) 5000 5000 G l b (s 71) 212 p e 0 := by
      simp (disch := omega) only [pfX4_addPerson_b77, pfX4_addPerson_b136, pl_l, pl_b, pl_iT, pl_t, pl_f, pl_ob sb, q.2.2.1.1.2.2.2.2.1, if_pos]
    show lP D s l b st F _ _ _ _ (pfX4_addPerson_b77 (pd_SH sT) 5000 (j + 1) G l b (s 71) 212 p e _)
    rw [e1]
    exact c_apHi (sT := sT) hD hs hl hb hst hp he b7 q
  · refine h.cg fun d a c => ⟨rfl, ?_, rfl, rfl⟩
    unfold uA; rw [Sm_0]; split <;> omega
theorem c_apHas (hD : bOk D) (hs : aOk D s) (h71 : s 71 ≤ 999) (hl : aL l) (hb : aB b) (hst : aU st) {G : pd_F} {f5 f6 f7 f8 : Int → Int} {p e : Int} (hp : 0 ≤ p ∧ p < D 369 0) (he : 0 ≤ e ∧ e < 12) (b5 : lB f5) (b6 : lB f6) (b7 : lB f7) (h : lS D s l b st F G f5 f6 f7 f8) :
    lP D s l b st F (uA f5 e (sG D s p)) (uA f6 e (Sm (oP D s p) (D 373 0))) (uA f7 e (sHg D s p)) f8 (pfX4_addPerson_b38 (pd_SH sT) 5000 5000 G l b (s 71) 212 p e 0) := by
  obtain ⟨n0, n1, -⟩ := hD.1
  have m5 := hD.1.2.2.2.2
  obtain ⟨s0, s5, s6, s7, s8⟩ := sh_l (sT := sT) hl
  have sb := (sh_b (sT := sT) hb).1
  refine pl_for (f := fun j (q : pd_F) i => pfX4_addPerson_b38 (pd_SH sT) 5000 j q l b (s 71) 212 p e i) (P := fun i q => lS D s l b st F q (uA f5 e (Sm (fun h => gA D s h p) i)) f6 f7 f8) (N := D 371 0) (res := lP D s l b st F (uA f5 e (sG D s p)) (uA f6 e (Sm (oP D s p) (D 373 0))) (uA f7 e (sHg D s p)) f8) ?_ ?_ 5000 G 0 (by omega) m5.1 (by omega) ?_
  · intro j G i x y ⟨q1, q2, q3, q4, q5⟩
    obtain ⟨k1, k2, k3, k4, k5⟩ := id q3
    obtain ⟨u0, u1, u2, u3, u4⟩ := ly_l q1 hl
    obtain ⟨er, sr⟩ := fy_oa (sT := sT) q1 (i := i) x (by omega)
    have eg : G (214 + i) p = gA D s i p := k2.1 i p x y hp.1 (by omega)
    have gb := gA_bd hD hs x y (p := p)
    have sm := Sm_bd (f := fun h => gA D s h p) (lo := 0) (hi := 9999999) x (fun h u v => gA_bd hD hs u (by omega))
    have b5' := b5 e he.1 he.2
    have q6 : G (l + 5) e = f5 e + Sm (fun h => gA D s h p) i := by rw [(q5 e he.1 he.2).1]; unfold uA; rw [if_pos rfl]
    have hf : lF l G (pd_up G (l + 5) e (f5 e + Sm (fun h => gA D s h p) i + gA D s i p)) := lF.row (r := l + 5) (by omega) (fun a ha => pu_a ha)
    left
    refine ⟨pd_up G (l + 5) e (f5 e + Sm (fun h => gA D s h p) i + gA D s i p), ⟨q1.up (pl_rc0 s5 (by decide)), q2.tr hf, q3.fr hD hl hb hst hf, by rw [pu_a (by omega)]; exact q4, fun d a c => ?_⟩, ?_⟩
    · rw [pu_r, pu_a (by omega), pu_a (by omega), pu_a (by omega)]
      have := q5 d a c
      refine ⟨?_, this.2⟩
      unfold uA at this ⊢
      by_cases w : d = e
      · rw [if_pos w, if_pos w, w, Sm_s x]; omega
      · rw [if_neg w, if_neg w, this.1, if_neg w]
    · show pfX4_addPerson_b38 (pd_SH sT) 5000 (j + 1) G l b (s 71) 212 p e i = _
      simp (disch := omega) only [pfX4_addPerson_b38, pl_l, pl_b, pl_iT, pl_t, pl_f, gx_1, gx_2, gx_3, gx_4, gx_113, gx_114, gx_115, gx_116, gx_212, gx_213, gx_224, gn_4, gn_114, gn_115, gn_116, gn_213, gn_224, lx_1_0 q1, lx_1_1 q1, lx_1_2 q1, lx_1_3 q1, lx_1_4 q1, lx_1_5 q1, lx_1_6 q1, lx_1_7 q1, lx_2_0 q1, lx_3_0 q1, lx_113_0 q1, lx_113_1 q1, lx_113_2 q1, lx_212_0 q1, lx_212_1 q1, pl_ob sb, pl_ob s0, pl_ib s5, pl_ib sr, k1.2.2.1, er, u1, q6, eg, pl_w, pl_W, pl_i, if_neg]
  · intro j G q
    have e1 : pfX4_addPerson_b38 (pd_SH sT) 5000 (j + 1) G l b (s 71) 212 p e (D 371 0) = pfX4_addPerson_b77 (pd_SH sT) 5000 5000 G l b (s 71) 212 p e 0 := by
      simp (disch := omega) only [pfX4_addPerson_b38, pfX4_addPerson_b74, pl_l, pl_b, pl_iT, pl_t, pl_f, pl_ob sb, q.2.2.1.1.2.2.1, if_pos]
    show lP D s l b st F _ _ _ _ (pfX4_addPerson_b38 (pd_SH sT) 5000 (j + 1) G l b (s 71) 212 p e _)
    rw [e1]
    exact c_apOw (sT := sT) hD hs h71 hl hb hst hp he b6 b7 q
  · refine h.cg fun d a c => ⟨?_, rfl, rfl, rfl⟩
    unfold uA; rw [Sm_0]; split <;> omega
theorem c_apIn (hD : bOk D) (hs : aOk D s) (h71 : s 71 ≤ 999) (hl : aL l) (hb : aB b) (hst : aU st) {G : pd_F} {f5 f6 f7 f8 : Int → Int} {p e v : Int} (hp : 0 ≤ p ∧ p < D 369 0) (he : 0 ≤ e ∧ e < 12) (b5 : lB f5) (b6 : lB f6) (b7 : lB f7) (hv : v = 0 ∨ v = 1) (h : lS D s l b st F G f5 f6 f7 f8) :
    lP D s l b st F (uA f5 e (sG D s p)) (uA f6 e (Sm (oP D s p) (D 373 0))) (uA f7 e (sHg D s p)) (fun d => if d = e then v else f8 d) (pfX4_addPerson_b34 (pd_SH sT) 5000 G l b (s 71) 212 p e v e (l + 8)) := by
  obtain ⟨q1, q2, q3, q4, q5⟩ := h
  obtain ⟨s0, s5, s6, s7, s8⟩ := sh_l (sT := sT) hl
  have hf : lF l G (pd_up G (l + 8) e v) := lF.row (r := l + 8) (by omega) (fun a ha => pu_a ha)
  have e1 : pfX4_addPerson_b34 (pd_SH sT) 5000 G l b (s 71) 212 p e v e (l + 8) = pfX4_addPerson_b38 (pd_SH sT) 5000 5000 (pd_up G (l + 8) e v) l b (s 71) 212 p e 0 := by
    simp (disch := omega) only [pfX4_addPerson_b34, pl_l, pl_b, pl_iT, pl_t, pl_f, pl_ib s8, pl_i]
  rw [e1]
  refine c_apHas (sT := sT) hD hs h71 hl hb hst hp he b5 b6 b7 ⟨q1.up (pl_rc0 s8 (by decide)), q2.tr hf, q3.fr hD hl hb hst hf, by rw [pu_a (by omega)]; exact q4, fun d a c => ?_⟩
  rw [pu_a (by omega), pu_a (by omega), pu_a (by omega), pu_r]
  have := q5 d a c
  refine ⟨this.1, this.2.1, this.2.2.1, ?_⟩
  by_cases w : d = e
  · simp only [if_pos w]
  · simp only [if_neg w]; exact this.2.2.2
theorem c_apAll (hD : bOk D) (hs : aOk D s) (h71 : s 71 ≤ 999) (hl : aL l) (hb : aB b) (hst : aU st) {G : pd_F} {f5 f6 f7 f8 : Int → Int} {p e : Int} (hp : 0 ≤ p ∧ p < D 369 0) (he : 0 ≤ e ∧ e < 12) (b5 : lB f5) (b6 : lB f6) (b7 : lB f7) (h : lS D s l b st F G f5 f6 f7 f8) :
    lP D s l b st F (uA f5 e (sG D s p)) (uA f6 e (Sm (oP D s p) (D 373 0))) (uA f7 e (sHg D s p)) (fun d => if d = e then (if f8 e = 0 ∧ D 377 p = 0 then 0 else 1) else f8 d) (pfX4_addPerson (pd_SH sT) 5000 G l b (s 71) 212 p e) := by
  obtain ⟨n0, n1, -⟩ := hD.1
  obtain ⟨q1, q2, q3, q4, q5⟩ := id h
  obtain ⟨k1, k2, k3, k4, k5⟩ := id q3
  obtain ⟨s0, s5, s6, s7, s8⟩ := sh_l (sT := sT) hl
  obtain ⟨u0, u1, u2, u3, u4⟩ := ly_l q1 hl
  have sb := (sh_b (sT := sT) hb).1
  have sb1 := (sh_b (sT := sT) hb).2.1
  obtain ⟨v0, -⟩ := ly_b q1 hb
  obtain ⟨ep, -, spp, -⟩ := fy_p (sT := sT) q1 hb (i := p) hp.1 (by omega)
  have kp := (k1.2.2.2.2.2.1 p hp.1 hp.2).2.2.1
  have e8 := (q5 e he.1 he.2).2.2.2
  by_cases z : f8 e = 0
  · by_cases w : D 377 p = 0
    · have e1 : pfX4_addPerson (pd_SH sT) 5000 G l b (s 71) 212 p e = pfX4_addPerson_b34 (pd_SH sT) 5000 G l b (s 71) 212 p e 0 e (l + 8) := by
        simp (disch := omega) only [pfX4_addPerson, pl_l, pl_b, pl_iT, pl_t, pl_f, pl_ob sb, pl_ob s0, pl_ob spp, pl_ib s8, pl_ib sb1, v0, ep, kp, u4, e8, pl_i, if_pos, if_neg]
      rw [e1, if_pos ⟨z, w⟩]
      exact c_apIn (sT := sT) hD hs h71 hl hb hst hp he b5 b6 b7 (Or.inl rfl) h
    · have e1 : pfX4_addPerson (pd_SH sT) 5000 G l b (s 71) 212 p e = pfX4_addPerson_b34 (pd_SH sT) 5000 G l b (s 71) 212 p e 1 e (l + 8) := by
        simp (disch := omega) only [pfX4_addPerson, pfX4_addPerson_b29, pl_l, pl_b, pl_iT, pl_t, pl_f, pl_ob sb, pl_ob s0, pl_ob spp, pl_ib s8, pl_ib sb1, v0, ep, kp, u4, e8, pl_i, if_neg]
      rw [e1, if_neg (fun y => w y.2)]
      exact c_apIn (sT := sT) hD hs h71 hl hb hst hp he b5 b6 b7 (Or.inr rfl) h
  · have e1 : pfX4_addPerson (pd_SH sT) 5000 G l b (s 71) 212 p e = pfX4_addPerson_b34 (pd_SH sT) 5000 G l b (s 71) 212 p e 1 e (l + 8) := by
      simp (disch := omega) only [pfX4_addPerson, pfX4_addPerson_b29, pl_l, pl_b, pl_iT, pl_t, pl_f, pl_ob s0, pl_ib s8, u4, e8, pl_i, if_pos]
    rw [e1, if_neg (fun y => z y.1)]
    exact c_apIn (sT := sT) hD hs h71 hl hb hst hp he b5 b6 b7 (Or.inr rfl) h
theorem c_sumIn (hD : bOk D) (hs : aOk D s) (h71 : s 71 ≤ 999) (hl : aL l) (hb : aB b) (hst : aU st) {G : pd_F} (h : lS D s l b st F G (fun _ => 0) (fun _ => 0) (fun _ => 0) (fun _ => 0)) : lE D s l F (pfX4_sumUp_b73 (pd_SH sT) 5000 5000 G l b st 212 0) := by
  obtain ⟨n0, n1, -⟩ := hD.1
  have m8 := hD.2.2.2.1
  have hi01 := hD.2.2.2.2.2.2
  obtain ⟨s0, s5, s6, s7, s8⟩ := sh_l (sT := sT) hl
  obtain ⟨t0, t1, t2, t3⟩ := sh_t (sT := sT) hl.t
  rw [show l + 1 + 2 = l + 3 by omega] at t2
  obtain ⟨r0, r1, r2, -⟩ := sh_s (sT := sT) hst.s
  have sb := (sh_b (sT := sT) hb).1
  refine pl_for (f := fun j (q : pd_F) i => pfX4_sumUp_b73 (pd_SH sT) 5000 j q l b st 212 i) (P := fun i q => lS D s l b st F q (fun d => Sm (fun p => if sN D s p = d then sG D s p else 0) i) (fun d => Sm (oI D s i d) (D 373 0)) (fun d => Sm (fun p => if sN D s p = d then sHg D s p else 0) i) (fun d => ci (∃ p, 0 ≤ p ∧ p < i ∧ D 377 p ≠ 0 ∧ sN D s p = d) 1 0)) (N := D 369 0) (res := lE D s l F) ?_ ?_ 5000 G 0 (by omega) n0 (by omega) ?_
  · intro j G i x y q
    obtain ⟨q1, q2, q3, q4, q5⟩ := id q
    obtain ⟨k1, k2, k3, k4, k5⟩ := id q3
    obtain ⟨u0, u1, u2, u3, u4⟩ := ly_l q1 hl
    obtain ⟨-, w1, -⟩ := ly_t q1 hl.t
    rw [show l + 1 + 2 = l + 3 by omega] at w1
    obtain ⟨-, v1, -⟩ := ly_s q1 hst.s
    have n := sN_bd (s := s) n0 x y
    have n2 := sD_bd (D := D) (s := s) n0
    have e1 := k5 i x y
    obtain ⟨H, f1, f2⟩ := c_apAll (sT := sT) (p := i) (e := sN D s i) hD hs h71 hl hb hst ⟨x, y⟩ ⟨n.1, by omega⟩ (fun d a c => by
      have := Sm_if (f := sN D s) (g := sG D s) (d := d) x (fun p _ _ => sG_bd hD hs)
      omega) (fun d a c => by
      have := Sm_bd (f := oI D s i d) (lo := 0) (hi := 9999999) m8.1 (fun l u v => by
        have := hD.2.2.2.2.2.1 l u v
        unfold oI
        split <;> omega)
      omega) (fun d a c => by
      have := Sm_if (f := sN D s) (g := sHg D s) (d := d) x (fun p _ _ => sHg_bd hD hs)
      omega) q
    left
    refine ⟨H, f2.cg fun d a c => ⟨?_, ?_, ?_, ?_⟩, ?_⟩
    · unfold uA
      rw [Sm_s x]
      by_cases w : d = sN D s i
      · rw [if_pos w, if_pos w.symm]
      · rw [if_neg w, if_neg (fun e => w e.symm), Int.add_zero]
    · unfold uA
      by_cases w : d = sN D s i
      · rw [if_pos w, ← Sm_add m8.1]
        refine Sm_congr fun l u v => ?_
        unfold oI oP
        by_cases z : D 390 l ≤ s 71
        · rcases Int.lt_trichotomy (D 388 l) i with g | g | g
          · by_cases t : sN D s (D 388 l) = d
            · rw [if_pos ⟨g, z, t⟩, if_neg (fun e => by omega), if_pos ⟨by omega, z, t⟩]; omega
            · rw [if_neg (fun e => t e.2.2), if_neg (fun e => by omega), if_neg (fun e => t e.2.2)]; rfl
          · rw [if_neg (fun e => by omega), if_pos ⟨g, z⟩, if_pos ⟨by omega, z, by rw [g]; exact w.symm⟩]; omega
          · rw [if_neg (fun e => by omega), if_neg (fun e => by omega), if_neg (fun e => by omega)]; rfl
        · rw [if_neg (fun e => z e.2.1), if_neg (fun e => z e.2), if_neg (fun e => z e.2.1)]; rfl
      · rw [if_neg w]
        refine Sm_congr fun l u v => ?_
        unfold oI
        by_cases t : D 388 l < i ∧ D 390 l ≤ s 71 ∧ sN D s (D 388 l) = d
        · rw [if_pos t, if_pos ⟨by omega, t.2⟩]
        · rw [if_neg t, if_neg]
          rintro ⟨e1, e2, e3⟩
          refine t ⟨?_, e2, e3⟩
          have : D 388 l ≠ i := fun g => w (by rw [← e3, g])
          omega
    · unfold uA
      rw [Sm_s x]
      by_cases w : d = sN D s i
      · rw [if_pos w, if_pos w.symm]
      · rw [if_neg w, if_neg (fun e => w e.symm), Int.add_zero]
    · by_cases w : d = sN D s i
      · rw [if_pos w, ← w]
        by_cases z : D 377 i = 0
        · rcases ci_o (∃ p, 0 ≤ p ∧ p < i ∧ D 377 p ≠ 0 ∧ sN D s p = d) (1 : Int) 0 with g | g
          · rw [g.2, if_neg (by omega)]
            obtain ⟨p, u, v, t⟩ := g.1
            rw [ci_t ⟨p, u, by omega, t⟩]
          · rw [g.2, if_pos ⟨rfl, z⟩, ci_f]
            rintro ⟨p, u, v, t1, t2⟩
            refine g.1 ⟨p, u, ?_, t1, t2⟩
            have : p ≠ i := fun e => t1 (e ▸ z)
            omega
        · rw [if_neg (fun y => z y.2), ci_t ⟨i, x, by omega, z, w.symm⟩]
      · rw [if_neg w]
        refine ci_c ⟨fun ⟨p, u, v, w⟩ => ⟨p, u, by omega, w⟩, fun ⟨p, u, v, w1, w2⟩ => ⟨p, u, ?_, w1, w2⟩⟩
        have : p ≠ i := fun e => w (e ▸ w2.symm)
        omega
    · show pfX4_sumUp_b73 (pd_SH sT) 5000 (j + 1) G l b st 212 i = _
      simp (disch := omega) only [pfX4_sumUp_b73, pfX4_sumUp_b122, pl_l, pl_b, pl_iT, pl_t, pl_f, pl_ob sb, pl_ob s0, pl_ob t0, pl_ib t2, pl_ob r0, pl_ib r2, k1.1, k3.1, v1, e1, u0, w1, f1, pl_w, pl_i, if_neg]
  · intro j G ⟨q1, q2, q3, q4, q5⟩
    refine ⟨G, ?_, q1, q2, Or.inr q4, q3.2.2.2.1, fun d a c => ?_⟩
    · show pfX4_sumUp_b73 (pd_SH sT) 5000 (j + 1) G l b st 212 _ = _
      simp (disch := omega) only [pfX4_sumUp_b73, pl_l, pl_b, pl_iT, pl_t, pl_f, pl_ob sb, q3.1.1, if_pos]
    · have := q5 d a (by have := sD_12 (s := s) hD; omega)
      refine ⟨this.1, this.2.1.trans ?_, this.2.2⟩
      unfold sOw
      refine Sm_congr fun l u v => ?_
      have hd := hD.2.2.2.2.2.1 l u v
      unfold oI oT
      by_cases t : D 390 l ≤ s 71 ∧ sN D s (D 388 l) = d
      · rw [if_pos t, if_pos ⟨hd.1.2, t⟩]
      · rw [if_neg t, if_neg (fun e => t e.2)]
  · refine h.cg fun d a c => ⟨?_, ?_, ?_, ?_⟩
    · rw [Sm_0]
    · rw [Sm_zero (fun l u v => ?_)]
      have hd := hD.2.2.2.2.2.1 l u v
      unfold oI; rw [if_neg (fun e => by omega)]
    · rw [Sm_0]
    · rw [ci_f (fun ⟨p, u, v, _⟩ => by omega)]
theorem c_sumUp (hD : bOk D) (hs : aOk D s) (h71 : s 71 ≤ 999) (hl : aL l) (hb : aB b) (hst : aU st) (hL : pd_Ly F) (h : lH D s l b st F) : lE D s l F (pfX4_sumUp (pd_SH sT) 5000 F l b st 212) := by
  obtain ⟨s0, s5, s6, s7, s8⟩ := sh_l (sT := sT) hl
  obtain ⟨r0, r1, r2, -⟩ := sh_s (sT := sT) hst.s
  have hl' : l = 236 ∨ l = 250 := hl
  have hs' : st = 231 ∨ st = 245 := hst
  have l1 : pd_Ly (pd_up F l 5 (s 72)) := hL.up (pl_rc4 s0 (by decide))
  have l2 : pd_Ly (pd_up (pd_up F l 5 (s 72)) l 6 (s 73)) := l1.up (pl_rc4 s0 (by decide))
  have f2 : lF l F (pd_up (pd_up F l 5 (s 72)) l 6 (s 73)) := (lF.up (Or.inl rfl)).tr (lF.up (Or.inr rfl))
  obtain ⟨-, v1, -⟩ := ly_s hL hst.s
  obtain ⟨-, v2, -⟩ := ly_s l1 hst.s
  have e1 : pd_up F l 5 (s 72) (st + 2) 2 = s 73 := by rw [pu_a (by omega)]; exact h.2.2.1.2.2
  unfold pfX4_sumUp
  simp only [pl_l, pl_b, pl_iT, pl_t, pl_f, pl_ob s0, pl_ob r0, pl_ib r2, v1, v2, h.2.2.1.2.1, e1]
  rw [pl_i (by omega), pl_i (by omega)]
  refine pl_for (f := fun j (q : pd_F) i => pfX4_sumUp_b25 (pd_SH sT) 5000 j q l b st 212 i) (P := fun i q => pd_Ly q ∧ lF l F q ∧ (q l 5 = s 72 ∧ q l 6 = s 73) ∧ ∀ d, 0 ≤ d → d < i → q (l + 5) d = 0 ∧ q (l + 6) d = 0 ∧ q (l + 7) d = 0 ∧ q (l + 8) d = 0) (N := 12) (res := lE D s l F) ?_ ?_ 5000 _ 0 (by omega) (by omega) (by omega) ⟨l2, f2, ⟨by rw [pu_r, if_neg (by decide), pu_r, if_pos rfl], by rw [pu_r, if_pos rfl]⟩, fun d a c => by omega⟩
  · intro j G i a c ⟨q1, q2, q3, q4⟩
    have p1 : pd_Ly (pd_up G (l + 5) i 0) := q1.up (pl_rc0 s5 (by decide))
    have p2 : pd_Ly (pd_up (pd_up G (l + 5) i 0) (l + 6) i 0) := p1.up (pl_rc0 s6 (by decide))
    have p3 : pd_Ly (pd_up (pd_up (pd_up G (l + 5) i 0) (l + 6) i 0) (l + 7) i 0) := p2.up (pl_rc0 s7 (by decide))
    have x1 := (ly_l q1 hl).2.1
    have x2 := (ly_l p1 hl).2.2.1
    have x3 := (ly_l p2 hl).2.2.2.1
    have x4 := (ly_l p3 hl).2.2.2.2
    refine Or.inl ⟨pd_up (pd_up (pd_up (pd_up G (l + 5) i 0) (l + 6) i 0) (l + 7) i 0) (l + 8) i 0, ⟨p3.up (pl_rc0 s8 (by decide)), ?_, ?_, fun d x y => ?_⟩, ?_⟩
    · exact (((q2.tr (lF.row (r := l + 5) (by omega) (fun a ha => pu_a ha))).tr (lF.row (r := l + 6) (by omega) (fun a ha => pu_a ha))).tr (lF.row (r := l + 7) (by omega) (fun a ha => pu_a ha))).tr (lF.row (r := l + 8) (by omega) (fun a ha => pu_a ha))
    · rw [pu_a (by omega), pu_a (by omega), pu_a (by omega), pu_a (by omega)]; exact q3
    · have eo := q4 d x
      rw [pu_a (a := l + 8) (show l + 5 ≠ l + 8 by omega), pu_a (a := l + 7) (show l + 5 ≠ l + 7 by omega), pu_a (a := l + 6) (show l + 5 ≠ l + 6 by omega), pu_r,
        pu_a (a := l + 8) (show l + 6 ≠ l + 8 by omega), pu_a (a := l + 7) (show l + 6 ≠ l + 7 by omega), pu_r, pu_a (a := l + 5) (show l + 6 ≠ l + 5 by omega),
        pu_a (a := l + 8) (show l + 7 ≠ l + 8 by omega), pu_r, pu_a (a := l + 6) (show l + 7 ≠ l + 6 by omega), pu_a (a := l + 5) (show l + 7 ≠ l + 5 by omega),
        pu_r, pu_a (a := l + 7) (show l + 8 ≠ l + 7 by omega), pu_a (a := l + 6) (show l + 8 ≠ l + 6 by omega), pu_a (a := l + 5) (show l + 8 ≠ l + 5 by omega)]
      by_cases z : d = i
      · simp only [if_pos z, and_self]
      · simp only [if_neg z]; exact eo (by omega)
    · show pfX4_sumUp_b25 (pd_SH sT) 5000 (j + 1) G l b st 212 i = _
      simp (disch := omega) only [pfX4_sumUp_b25, pl_l, pl_b, pl_iT, pl_t, pl_f, pl_ob s0, pl_ib s5, pl_ib s6, pl_ib s7, pl_ib s8, x1, x2, x3, x4, pl_w, pl_i, if_neg]
  · intro j G ⟨q1, q2, q3, q4⟩
    have e : pfX4_sumUp_b25 (pd_SH sT) 5000 (j + 1) G l b st 212 12 = pfX4_sumUp_b73 (pd_SH sT) 5000 5000 G l b st 212 0 := by
      simp (disch := omega) only [pfX4_sumUp_b25, pfX4_sumUp_b70, if_pos]
    show lE D s l F (pfX4_sumUp_b25 (pd_SH sT) 5000 (j + 1) G l b st 212 12)
    rw [e]
    exact c_sumIn (sT := sT) hD hs h71 hl hb hst ⟨q1, q2, h.fr hD hl hb hst q2, q3, q4⟩
end LE

/-! the class: best days, what ifs -/
/-- the dates of a book in their bounds -/
def dOk (D : pd_F) : Prop := ∀ h, 0 ≤ h → h < D 372 0 → (0 ≤ D 386 h ∧ D 386 h ≤ 999) ∧ 0 ≤ D 387 h ∧ D 387 h ≤ 999
theorem aBe_tr {D : pd_F} {s : Int → Int} {w a b c : Int} (h1 : aBe D s w a b) (h2 : aBe D s w b c) : aBe D s w a c := by
  unfold aBe at *
  by_cases z : w = 0
  · rw [if_pos z] at *; omega
  · rw [if_neg z] at *; omega
theorem aBe_rf {D : pd_F} {s : Int → Int} {w a : Int} : aBe D s w a a := by
  unfold aBe
  split <;> omega
theorem aBe_eq {D : pd_F} {s : Int → Int} {w v c d : Int} (h : aBe D s w v c) (hc : c ≤ d) (e : fDay D s c = fDay D s d) : aBe D s w v d := by
  unfold aBe at *
  rw [e] at h
  split <;> rename_i z
  · rw [if_pos z] at h; omega
  · rw [if_neg z] at h; omega
/-- the days on which it may change -/
def isCd (D : pd_F) (c : Int) : Prop := (∃ h, 0 ≤ h ∧ h < D 372 0 ∧ (c = D 386 h ∨ c = D 387 h + 1)) ∨ ∃ l, 0 ≤ l ∧ l < D 373 0 ∧ c = D 390 l
theorem cPd_row {D : pd_F} {s1 s2 : Int → Int} (hD : bOk D) (e : ∀ j, 0 ≤ j → j < 10 → s1 j = s2 j) (e73 : s1 73 = s2 73) (eN : ∀ p, sN D s1 p = sN D s2 p) (eH : ∀ h, 0 ≤ h → h < D 372 0 → (D 386 h ≤ s1 71 ∧ s1 71 ≤ D 387 h ↔ D 386 h ≤ s2 71 ∧ s2 71 ≤ D 387 h)) (eL : ∀ l, 0 ≤ l → l < D 373 0 → (D 390 l ≤ s1 71 ↔ D 390 l ≤ s2 71)) (x c : Int) : cPd D s1 x c = cPd D s2 x c := by
  have n5 := hD.1.2.2.2.2.2.1
  have hO : sOw D s1 x = sOw D s2 x := by
    unfold sOw
    refine Sm_congr fun l a b => ?_
    unfold oT
    rw [eN]
    by_cases z : D 390 l ≤ s2 71 ∧ sN D s2 (D 388 l) = x
    · rw [if_pos z, if_pos ⟨(eL l a b).mpr z.1, z.2⟩]
    · rw [if_neg z, if_neg (fun w => z ⟨(eL l a b).mp w.1, w.2⟩)]
  have hG : sHas D s1 x = sHas D s2 x := by
    unfold sHas sG
    refine Sm_congr fun p _ _ => ?_
    rw [eN, Sm_congr (f := fun a => gA D s1 a p) (g := fun a => gA D s2 a p) (fun a u v => gA_row (e a u (by omega)))]
  have hH : sHi D s1 x = sHi D s2 x := by
    unfold sHi sHg
    refine Sm_congr fun p _ _ => ?_
    rw [eN, Sm_congr (f := fun h => gT D s1 h p) (g := fun h => gT D s2 h p) (fun h u v => ?_)]
    have o := (hD.2.2.2.2.1 h u v).1
    have eg : gH D s1 h p = gH D s2 h p := by unfold gH; rw [e _ o.1 (by omega)]
    unfold gT
    rw [eg]
    by_cases z : D 386 h ≤ s2 71 ∧ s2 71 ≤ D 387 h
    · rw [if_pos z, if_pos ((eH h u v).mpr z)]
    · rw [if_neg z, if_neg (fun w => z ((eH h u v).mp w))]
  unfold cPd cNt cLm cSo
  rw [hO, hG, hH, e73]
theorem fDay_eq {D : pd_F} {s : Int → Int} (hD : bOk D) (hs : aOk D s) {d : Int} (h : ¬ isCd D d) : fDay D s (d - 1) = fDay D s d := by
  obtain ⟨e1, e2⟩ := sN_71 (day := d - 1) hs
  obtain ⟨f1, f2⟩ := sN_71 (day := d) hs
  unfold fDay cPU
  rw [e2, f2]
  refine Sm_congr fun x _ _ => cPd_row hD (fun j a b => by rw [ru_n (by omega), ru_n (by omega)]) (by rw [ru_n (by decide), ru_n (by decide)]) (fun p => (e1 p).trans (f1 p).symm) (fun k a b => ?_) (fun l a b => ?_) _ _
  · rw [ru_e, ru_e]
    have h1 : d ≠ D 386 k := fun e => h (Or.inl ⟨k, a, b, Or.inl e⟩)
    have h2 : d ≠ D 387 k + 1 := fun e => h (Or.inl ⟨k, a, b, Or.inr e⟩)
    omega
  · rw [ru_e, ru_e]
    have h1 : d ≠ D 390 l := fun e => h (Or.inr ⟨l, a, b, e⟩)
    omega
theorem fDay_cd {D : pd_F} {s : Int → Int} (hD : bOk D) (hs : aOk D s) {a : Int} : ∀ n : Nat, ∃ c, a ≤ c ∧ c ≤ a + n ∧ fDay D s c = fDay D s (a + n) ∧ (c = a ∨ isCd D c)
  | 0 => ⟨a, by omega, by omega, by simp, Or.inl rfl⟩
  | n + 1 => by
    rcases Classical.em (isCd D (a + ((n + 1 : Nat) : Int))) with k | k
    · exact ⟨a + ((n + 1 : Nat) : Int), by omega, by omega, rfl, Or.inr k⟩
    · obtain ⟨c, h1, h2, h3, h4⟩ := fDay_cd (a := a) hD hs n
      have e := fDay_eq hD hs k
      rw [show a + ((n + 1 : Nat) : Int) - 1 = a + n by omega] at e
      exact ⟨c, h1, by omega, h3.trans e, h4⟩
section BD
variable {D : pd_F} {s : Int → Int} {F : pd_F}
/-- between trials -/
def yI (D : pd_F) (s : Int → Int) (F G : pd_F) : Prop := cS D s G ∧ yF F G ∧ yT D s G
theorem c_betterDay {G : pd_F} (h : yI D s F G) {v c a b w : Int} (ha : 0 ≤ a) (hb : b ≤ 999) (hv : a ≤ v ∧ v ≤ b) (hw : 0 ≤ w ∧ w ≤ 1) :
    ∃ F' r, pfX11_betterDay pd_SH 5000 G 1 v c a b w = some (r, F') ∧ yI D s F F' ∧ (a ≤ r ∧ r ≤ b) ∧ aBe D s w r v ∧ (a ≤ c → c ≤ b → aBe D s w r c) := by
  unfold pfX11_betterDay
  by_cases k1 : c < a
  · rw [if_pos k1]
    exact ⟨G, v, rfl, h, hv, aBe_rf, fun _ _ => by omega⟩
  rw [if_neg k1]
  by_cases k2 : c ≤ b
  · rw [if_pos k2]
    obtain ⟨G1, f1, f2, f3, f4⟩ := c_dayOn h.1 h.2.2 (day := c) (by omega)
    obtain ⟨G2, g1, g2, g3, g4⟩ := c_dayOn f2 f4 (day := v) (by omega)
    have hs : ∀ d, aOk D (ru s 71 d) := fun d => h.1.2.2.2.2.1.1.up h.1.2.2.1 (Or.inl rfl)
    have bd : ∀ d, 0 ≤ fDay D s d ∧ fDay D s d ≤ 14399998560 := fun d => by
      have n := sD_12 (s := ru s 71 d) h.1.2.2.1
      have q := (hs d).2.2.2.1
      rw [ru_n (show (72 : Int) ≠ 71 by decide)] at q
      have := cPU_bd h.1.2.2.1 (hs d) q.1 n.1
      unfold fDay cPU
      omega
    have bc := bd c
    have bv := bd v
    simp only [pl_l, pl_b, pl_iT, pl_t, pl_f, gx_1, gx_2, gx_3, gx_4, gx_113, gx_114, gx_115, gx_116, gx_212, gx_213, gx_224, gn_4, gn_114, gn_115, gn_116, gn_213, gn_224, f1, g1]
    rw [pl_W (x := fDay D s c - fDay D s v) (by omega), pl_W (x := -(fDay D s c - fDay D s v)) (by omega)]
    have I : yI D s F G2 := ⟨g2, (h.2.1.tr f3).tr g3, g4⟩
    unfold pfX11_betterDay_b36
    by_cases w0 : w = 0
    · rw [if_neg (fun z => z w0)]
      by_cases z1 : -(fDay D s c - fDay D s v) > 0
      · rw [if_pos z1]
        exact ⟨G2, c, rfl, I, ⟨by omega, k2⟩, by unfold aBe; rw [if_pos w0]; omega, fun _ _ => aBe_rf⟩
      rw [if_neg z1]
      by_cases z2 : -(fDay D s c - fDay D s v) ≠ 0
      · rw [if_pos z2]
        exact ⟨G2, v, rfl, I, hv, aBe_rf, fun _ _ => by unfold aBe; rw [if_pos w0]; omega⟩
      rw [if_neg z2]
      by_cases z3 : c ≥ v
      · rw [if_pos z3]
        exact ⟨G2, v, rfl, I, hv, aBe_rf, fun _ _ => by unfold aBe; rw [if_pos w0]; omega⟩
      · rw [if_neg z3]
        exact ⟨G2, c, rfl, I, ⟨by omega, k2⟩, by unfold aBe; rw [if_pos w0]; omega, fun _ _ => aBe_rf⟩
    · rw [if_pos w0]
      by_cases z1 : fDay D s c - fDay D s v > 0
      · rw [if_pos z1]
        exact ⟨G2, c, rfl, I, ⟨by omega, k2⟩, by unfold aBe; rw [if_neg w0]; omega, fun _ _ => aBe_rf⟩
      rw [if_neg z1]
      by_cases z2 : fDay D s c - fDay D s v ≠ 0
      · rw [if_pos z2]
        exact ⟨G2, v, rfl, I, hv, aBe_rf, fun _ _ => by unfold aBe; rw [if_neg w0]; omega⟩
      rw [if_neg z2]
      by_cases z3 : c ≥ v
      · rw [if_pos z3]
        exact ⟨G2, v, rfl, I, hv, aBe_rf, fun _ _ => by unfold aBe; rw [if_neg w0]; omega⟩
      · rw [if_neg z3]
        exact ⟨G2, c, rfl, I, ⟨by omega, k2⟩, by unfold aBe; rw [if_neg w0]; omega, fun _ _ => aBe_rf⟩
  · rw [if_neg k2]
    exact ⟨G, v, rfl, h, hv, aBe_rf, fun _ _ => by omega⟩
/-- the best so far of the days looked at -/
def bdI (D : pd_F) (s : Int → Int) (F : pd_F) (a b w : Int) (i j : Int) (G : pd_F) (v : Int) : Prop := yI D s F G ∧ (a ≤ v ∧ v ≤ b) ∧ aBe D s w v a ∧ (∀ h, 0 ≤ h → h < i → (a ≤ D 386 h → D 386 h ≤ b → aBe D s w v (D 386 h)) ∧ (a ≤ D 387 h + 1 → D 387 h + 1 ≤ b → aBe D s w v (D 387 h + 1))) ∧ ∀ l, 0 ≤ l → l < j → a ≤ D 390 l → D 390 l ≤ b → aBe D s w v (D 390 l)
theorem p_bestDay (h : cS D s F) (hd : dOk D) {a b w : Int} : ∃ F' v, pfX11_bestDay pd_SH 5000 F 1 a b w = some (v, F') ∧ cS D s F' ∧ yF F F' ∧ ((¬ bdOk a b w ∧ v = -1) ∨ (bdOk a b w ∧ aBd D s a b w v)) := by
  have hD := h.2.2.1
  have hs := h.2.2.2.2.1.1
  have m7 := hD.2.2.1
  have m8 := hD.2.2.2.1
  unfold pfX11_bestDay
  simp only [pl_l, pl_b, pl_iT, pl_t, pl_f, p_isDay]
  rcases Classical.em (¬ (0 ≤ a ∧ a ≤ 999)) with k1 | k1
  · rw [if_neg k1, if_pos rfl]
    exact ⟨F, -1, rfl, h, yF.rf F, Or.inl ⟨fun z => k1 z.1, rfl⟩⟩
  have k1 := Classical.not_not.mp k1
  rw [if_pos k1, if_neg (by decide)]
  rcases Classical.em (¬ (0 ≤ b ∧ b ≤ 999)) with k2 | k2
  · rw [if_neg k2, if_pos rfl]
    exact ⟨F, -1, rfl, h, yF.rf F, Or.inl ⟨fun z => k2 (by have := z.1; have := z.2.1; omega), rfl⟩⟩
  have k2 := Classical.not_not.mp k2
  rw [if_pos k2, if_neg (by decide)]
  by_cases k3 : b < a
  · rw [if_pos k3]; exact ⟨F, -1, rfl, h, yF.rf F, Or.inl ⟨fun z => by have := z.2.1; omega, rfl⟩⟩
  rw [if_neg k3]
  by_cases k4 : w < 0
  · rw [if_pos k4]; exact ⟨F, -1, rfl, h, yF.rf F, Or.inl ⟨fun z => by have := z.2.2; omega, rfl⟩⟩
  rw [if_neg k4]
  rcases Classical.em (¬ w ≤ 1) with k5 | k5
  · rw [if_neg k5]
    exact ⟨F, -1, rfl, h, yF.rf F, Or.inl ⟨fun z => by have := z.2.2; omega, rfl⟩⟩
  have k5 := Classical.not_not.mp k5
  rw [if_pos k5]
  obtain ⟨F1, F2, f1, f2, f3, e8, f4, f5, f6⟩ := c_trialNow h
  have el := (ly_l f2.1 (l := 250) (Or.inr rfl)).1
  rw [show (250 : Int) + 1 = 251 from rfl] at el
  simp only [pl_l, pl_b, pl_iT, pl_t, pl_f, gx_1, gx_2, gx_3, gx_4, gx_113, gx_114, gx_115, gx_116, gx_212, gx_213, gx_224, gn_4, gn_114, gn_115, gn_116, gn_213, gn_224, lx_1_0 h.1, lx_1_1 h.1, lx_1_2 h.1, lx_1_3 h.1, lx_1_4 h.1, lx_1_5 h.1, lx_1_6 h.1, lx_1_7 h.1, lx_2_0 h.1, lx_3_0 h.1, lx_113_0 h.1, lx_113_1 h.1, lx_113_2 h.1, lx_212_0 h.1, lx_212_1 h.1, ox_245, f1]
  simp only [pl_l, pl_b, pl_iT, pl_t, pl_f, gx_1, gx_2, gx_3, gx_4, gx_113, gx_114, gx_115, gx_116, gx_212, gx_213, gx_224, gn_4, gn_114, gn_115, gn_116, gn_213, gn_224, lx_1_0 f2.1, lx_1_1 f2.1, lx_1_2 f2.1, lx_1_3 f2.1, lx_1_4 f2.1, lx_1_5 f2.1, lx_1_6 f2.1, lx_1_7 f2.1, lx_2_0 f2.1, lx_3_0 f2.1, lx_113_0 f2.1, lx_113_1 f2.1, lx_113_2 f2.1, lx_212_0 f2.1, lx_212_1 f2.1, ox_250, ox_251, el, e8, f3]
  have ok : bdOk a b w := ⟨k1, ⟨by omega, k2.2⟩, by omega⟩
  -- the loans
  have l136 : ∀ (G : pd_F) (v : Int), bdI D s F a b w (D 372 0) 0 G v → ∃ F' v', pfX11_bestDay_b136 pd_SH 5000 5000 G 1 a b w v 0 = some (v', F') ∧ cS D s F' ∧ yF F F' ∧ ((¬ bdOk a b w ∧ v' = -1) ∨ (bdOk a b w ∧ aBd D s a b w v')) := by
    intro G v hI
    refine pl_for (f := fun j (q : pd_F × Int) i => pfX11_bestDay_b136 pd_SH 5000 j q.1 1 a b w q.2 i) (P := fun i q => bdI D s F a b w (D 372 0) i q.1 q.2) (N := D 373 0)
      (res := fun o => ∃ F' v', o = some (v', F') ∧ cS D s F' ∧ yF F F' ∧ ((¬ bdOk a b w ∧ v' = -1) ∨ (bdOk a b w ∧ aBd D s a b w v'))) ?_ ?_ 5000 (G, v) 0 (by omega) m8.1 (by omega) hI
    · intro j ⟨G, v⟩ i x y ⟨q1, q2, q3, q4, q5⟩
      dsimp only at q1 q2 q3 q4 q5
      have hb := q1.1.2.1
      have sb := (sh_b hb).2.2.2.2.2.2.1
      have l5 := (ly_b q1.1.1 hb).2.2.2.2.2.1
      obtain ⟨eo, so⟩ := fy_o q1.1.1 hb (i := i) x (by omega)
      have hh := (q1.1.2.2.2.1.2.2.2.2.2.2.2.2.2.1 i x y).2.2.1
      obtain ⟨G', r, g1, g2, g3, g4, g5⟩ := c_betterDay q1 (v := v) (c := D 390 i) k1.1 k2.2 q2 (w := w) (by omega)
      refine Or.inl ⟨(G', r), ⟨g2, g3, aBe_tr g4 q3, fun k u z => ⟨fun u1 u2 => aBe_tr g4 ((q4 k u z).1 u1 u2), fun u1 u2 => aBe_tr g4 ((q4 k u z).2 u1 u2)⟩, fun l u z u1 u2 => ?_⟩, ?_⟩
      · by_cases e : l = i
        · rw [e] at u1 u2 ⊢; exact g5 u1 u2
        · exact aBe_tr g4 (q5 l u (by omega) u1 u2)
      · show pfX11_bestDay_b136 pd_SH 5000 (j + 1) G 1 a b w v i = _
        simp (disch := omega) only [pfX11_bestDay_b136, pl_l, pl_b, pl_iT, pl_t, pl_f, gx_1, gx_2, gx_3, gx_4, gx_113, gx_114, gx_115, gx_116, gx_212, gx_213, gx_224, gn_4, gn_114, gn_115, gn_116, gn_213, gn_224, q1.1.ob, q1.1.n4, l5, pl_ib sb, eo, pl_ob so, hh, g1, pl_w, pl_i, if_neg]
    · intro j ⟨G, v⟩ ⟨q1, q2, q3, q4, q5⟩
      dsimp only at q1 q2 q3 q4 q5
      refine ⟨G, v, ?_, q1.1, q1.2.1, Or.inr ⟨ok, q2.1, q2.2, fun d u z => ?_⟩⟩
      · show pfX11_bestDay_b136 pd_SH 5000 (j + 1) G 1 a b w v _ = _
        simp (disch := omega) only [pfX11_bestDay_b136, pl_l, pl_b, pl_iT, pl_t, pl_f, gx_1, gx_2, gx_3, gx_4, gx_113, gx_114, gx_115, gx_116, gx_212, gx_213, gx_224, gn_4, gn_114, gn_115, gn_116, gn_213, gn_224, q1.1.ob, q1.1.n4, if_pos]
      · obtain ⟨c, c1, c2, c3, c4⟩ := fDay_cd (a := a) hD hs (d - a).toNat
        rw [show a + ((d - a).toNat : Int) = d by omega] at c2 c3
        refine aBe_eq ?_ c2 c3
        rcases c4 with e | ⟨k, u1, u2, e | e⟩ | ⟨l, u1, u2, e⟩
        · rw [e]; exact q3
        · rw [e] at c1 c2 ⊢; exact (q4 k u1 u2).1 c1 (by omega)
        · rw [e] at c1 c2 ⊢; exact (q4 k u1 u2).2 c1 (by omega)
        · rw [e] at c1 c2 ⊢; exact q5 l u1 u2 c1 (by omega)
  refine pl_for (f := fun j (q : pd_F × Int) i => pfX11_bestDay_b65 pd_SH 5000 j q.1 1 a b w q.2 i) (P := fun i q => bdI D s F a b w i 0 q.1 q.2) (N := D 372 0)
    (res := fun o => ∃ F' v', o = some (v', F') ∧ cS D s F' ∧ yF F F' ∧ ((¬ bdOk a b w ∧ v' = -1) ∨ (bdOk a b w ∧ aBd D s a b w v'))) ?_ ?_ 5000 (F2, a) 0 (by omega) m7.1 (by omega) ⟨⟨f4, f5, f6⟩, ⟨Int.le_refl _, by show a ≤ b; omega⟩, aBe_rf, fun k u z => by omega, fun l u z => by omega⟩
  · intro j ⟨G, v⟩ i x y ⟨q1, q2, q3, q4, q5⟩
    dsimp only at q1 q2 q3 q4 q5
    have hdi := hd i x y
    obtain ⟨G1, r1, g1, g2, g3, g4, g5⟩ := c_betterDay q1 (v := v) (c := D 386 i) k1.1 k2.2 q2 (w := w) (by omega)
    obtain ⟨G2, r2, p1, p2, p3, p4, p5⟩ := c_betterDay g2 (v := r1) (c := D 387 i + 1) k1.1 k2.2 g3 (w := w) (by omega)
    refine Or.inl ⟨(G2, r2), ⟨p2, p3, aBe_tr p4 (aBe_tr g4 q3), fun k u z => ?_, fun l u z => by omega⟩, ?_⟩
    · by_cases e : k = i
      · rw [e]
        exact ⟨fun u1 u2 => aBe_tr p4 (g5 u1 u2), fun u1 u2 => p5 u1 u2⟩
      · have t := q4 k u (by omega)
        exact ⟨fun u1 u2 => aBe_tr p4 (aBe_tr g4 (t.1 u1 u2)), fun u1 u2 => aBe_tr p4 (aBe_tr g4 (t.2 u1 u2))⟩
    · have hb := q1.1.2.1
      have sb := (sh_b hb).2.2.2.2.2.1
      have l4 := (ly_b q1.1.1 hb).2.2.2.2.1
      obtain ⟨eo, so⟩ := fy_h q1.1.1 hb (i := i) x (by omega)
      have hh := (q1.1.2.2.2.1.2.2.2.2.2.2.2.2.1 i x y).2.2.1
      have hb1 := g2.1.2.1
      have sb1 := (sh_b hb1).2.2.2.2.2.1
      have l41 := (ly_b g2.1.1 hb1).2.2.2.2.1
      obtain ⟨eo1, so1⟩ := fy_h g2.1.1 hb1 (i := i) x (by omega)
      have hh1 := (g2.1.2.2.2.1.2.2.2.2.2.2.2.2.1 i x y).2.2.2
      show pfX11_bestDay_b65 pd_SH 5000 (j + 1) G 1 a b w v i = _
      simp (disch := omega) only [pfX11_bestDay_b65, pl_l, pl_b, pl_iT, pl_t, pl_f, gx_1, gx_2, gx_3, gx_4, gx_113, gx_114, gx_115, gx_116, gx_212, gx_213, gx_224, gn_4, gn_114, gn_115, gn_116, gn_213, gn_224, q1.1.ob, q1.1.n3, l4, pl_ib sb, eo, pl_ob so, hh, g1, pl_i, if_neg]
      simp (disch := omega) only [pl_l, pl_b, pl_iT, pl_t, pl_f, gx_1, gx_2, gx_3, gx_4, gx_113, gx_114, gx_115, gx_116, gx_212, gx_213, gx_224, gn_4, gn_114, gn_115, gn_116, gn_213, gn_224, g2.1.ob, l41, pl_ib sb1, eo1, pl_ob so1, hh1, pl_w, p1, pl_i]
  · intro j ⟨G, v⟩ q'
    have q : bdI D s F a b w (D 372 0) 0 G v := q'
    have e : pfX11_bestDay_b65 pd_SH 5000 (j + 1) G 1 a b w v (D 372 0) = pfX11_bestDay_b136 pd_SH 5000 5000 G 1 a b w v 0 := by
      simp (disch := omega) only [pfX11_bestDay_b65, pfX11_bestDay_b133, pl_l, pl_b, pl_iT, pl_t, pl_f, gx_1, gx_2, gx_3, gx_4, gx_113, gx_114, gx_115, gx_116, gx_212, gx_213, gx_224, gn_4, gn_114, gn_115, gn_116, gn_213, gn_224, q.1.1.ob, q.1.1.n3, if_pos]
    show ∃ F' v', pfX11_bestDay_b65 pd_SH 5000 (j + 1) G 1 a b w v (D 372 0) = some (v', F') ∧ _
    rw [e]
    exact l136 G v q
end BD

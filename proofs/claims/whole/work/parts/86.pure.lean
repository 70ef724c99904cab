/-! the class: book and state told, and what is reckoned of them -/
section BR
variable {D : pd_F} {s : Int → Int} {b st : Int} {F : pd_F}
theorem br_cOk (hD : bOk D) (hk : kB D F b) (hs : sR D F b st s) : cOk F b st (D 369 0) := by
  obtain ⟨k1, k2, k3, k4, k5, k6, k7, k8, k9, k10, ⟨m0, m1, m2, m3, m4⟩⟩ := hk
  obtain ⟨h1, h2, h3, h4, h5, h6, h7, h8, h9, h10, h11, h12⟩ := hs
  have n70 := h1.2.1
  refine ⟨k1, ⟨hD.1.1, hD.1.2.1⟩, m0, fun i x y => ⟨(m4 i x y).1, fun q q0 ht => ?_⟩, by omega, fun k x y => ?_, h10⟩
  · have z := m4 i x y
    exact ((z.2 q q0 (tb_12 z.1 q0 ht)).mp ht).1
  · rw [h8] at y
    rw [(h9 k x y).1, (h9 k x y).2]
    exact h2 k x y
theorem br_cA (hD : bOk D) (hk : kB D F b) (hs : sR D F b st s) {x y : Int} (x0 : 0 ≤ x) (x1 : x < D 369 0) (y0 : 0 ≤ y) (y1 : y < D 369 0) : cA F b st x y ↔ Bs (D 375) (D 376) s x y := by
  obtain ⟨k1, k2, k3, k4, k5, k6, k7, k8, k9, k10, ⟨m0, m1, m2, m3, m4⟩⟩ := hk
  obtain ⟨h1, h2, h3, h4, h5, h6, h7, h8, h9, h10, h11, h12⟩ := hs
  have n1 := hD.1.2.1
  unfold cA Bs
  refine and_congr Iff.rfl (or_congr ⟨fun ⟨i, a, c, e1, e2, e3⟩ => ?_, fun ⟨i, a, c, e1, e2⟩ => ?_⟩ ⟨fun ⟨k, a, c, e⟩ => ?_, fun ⟨k, a, c, e⟩ => ?_⟩)
  · have p2 := (((m4 i a c).2 x x0 (by omega)).mp e2).2
    have p3 := (((m4 i a c).2 y y0 (by omega)).mp e3).2
    obtain ⟨j, j0, j1, j2⟩ := p2
    refine ⟨j, j0, j1, by rw [j2]; exact p3, ?_⟩
    rw [j2]
    exact fun w => e1 ((h11 i a (by omega)).mpr ⟨c, w⟩)
  · have hx : Hk (D 375) (D 376) x (D 376 (3 * x + i)) := ⟨i, a, c, rfl⟩
    obtain ⟨j, j0, j1, j2⟩ := m3 _ ⟨x, x0, x1, hx⟩
    refine ⟨j, j0, j1, fun w => e2 ?_, ((m4 j j0 j1).2 x x0 (by omega)).mpr ⟨x1, by rw [j2]; exact hx⟩, ((m4 j j0 j1).2 y y0 (by omega)).mpr ⟨y1, by rw [j2]; exact e1⟩⟩
    rw [← j2]
    exact ((h11 j j0 (by omega)).mp w).2
  · rw [h8] at c
    rw [(h9 k a c).1, (h9 k a c).2] at e
    exact ⟨k, a, c, e.elim (fun w => Or.inl w) (fun w => Or.inr ⟨w.1, w.2⟩)⟩
  · refine ⟨k, a, by omega, ?_⟩
    rw [(h9 k a c).1, (h9 k a c).2]
    exact e.elim (fun w => Or.inl w) (fun w => Or.inr ⟨w.1, w.2⟩)
theorem br_cn (hD : bOk D) (hk : kB D F b) (hs : sR D F b st s) : ∀ x y, 0 ≤ x → x < D 369 0 → 0 ≤ y → y < D 369 0 → (Cn (D 369 0) (cA F b st) x y ↔ sC D s x y) := fun x _ x0 x1 _ _ =>
  Rk_congr ⟨x0, x1⟩ (fun _ _ a c d e => br_cA hD hk hs a c d e)
theorem br_tP {A : Int → Int → Prop} {t : Int} {G : pd_F} (hD : bOk D) (h : ∀ x y, 0 ≤ x → x < D 369 0 → 0 ≤ y → y < D 369 0 → (Cn (D 369 0) A x y ↔ sC D s x y)) (ht : tP (D 369 0) (Cn (D 369 0) A) t G) :
    G t 3 = sD D s ∧ (∀ p, 0 ≤ p → p < D 369 0 → G (t + 2) p = sN D s p) ∧ ∀ d, 0 ≤ d → d < sD D s → bR (G (t + 3) d) (fun p => p < D 369 0 ∧ sN D s p = d) := by
  have n0 := hD.1.1
  have e := dn_congr h (D 369 0).toNat (by omega)
  have eC : DC (D 369 0) (Cn (D 369 0) A) = sD D s := by unfold sD DC; rw [e]
  have eN : ∀ p, DN (D 369 0) (Cn (D 369 0) A) p = sN D s p := fun p => by unfold sN DN; rw [e]
  obtain ⟨t1, t2, t3⟩ := ht
  refine ⟨t1.trans eC, fun p a c => (t2 p a c).trans (eN p), fun d a c => bR_c (t3 d a (by rw [eC]; exact c)) fun p _ _ => by rw [eN]⟩
theorem gA_row {s' : Int → Int} {a p : Int} (e : s' a = s a) : gA D s' a p = gA D s a p := by unfold gA; rw [e]
theorem hP_row {s' : Int → Int} (hD : bOk D) (h : hP D s F) (e : ∀ j, 0 ≤ j → j < 10 → s' j = s j) : hP D s' F := by
  have n := hD.1.2.2.2.2.2.1
  refine ⟨fun a p x y z w => ?_, fun a p x y z w => ?_⟩
  · rw [gA_row (e a x (by omega))]; exact h.1 a p x y z w
  · have c := (hD.2.2.2.2.1 a x y).1
    have : gH D s' a p = gH D s a p := by unfold gH; rw [e _ c.1 (by omega)]
    rw [this]; exact h.2 a p x y z w
/-- all that is reckoned of book and state -/
def rD (D : pd_F) (s : Int → Int) (F : pd_F) : Prop := hP D s F ∧ kV D s 236 F ∧ (∀ p, 0 ≤ p → p < D 369 0 → F 239 p = sN D s p) ∧ (∀ d, 0 ≤ d → d < sD D s → bR (F 240 d) (fun p => p < D 369 0 ∧ sN D s p = d)) ∧ (D 369 0 = 0 ∨ nR (An (D 369 0) (Bs (D 375) (D 376) s)) (F 238))
theorem aB_out (hb : aB b) : (b = 5 ∨ b = 259) := hb
theorem c_refresh (hD : bOk D) (hb : aB b) (hL : pd_Ly F) (h8 : F 1 8 = b) (hk : kB D F b) (hs : sR D F b 231 s) : ∃ F', pfX11_refresh pd_SH 5000 F 1 = some F' ∧ pd_Ly F' ∧ (∀ a, (a < 214 ∨ (230 < a ∧ a < 236) ∨ 244 < a) → F' a = F a) ∧ rD D s F' := by
  have hb' := aB_out hb
  obtain ⟨F1, f1, f2, f3, f4⟩ := c_sharesReckon hb hD hL hk rfl hs
  have k1 := hk.fr hb hD (G := F1) (fun a x y => f3 a (by omega))
  have s1 : sR D F1 b 231 s := sR_fr hs ⟨f3 _ (by omega), f3 _ (by omega)⟩ (fun a x y => f3 a (by omega))
  obtain ⟨F2, g1, g2, g3, g4, g5⟩ := c_tiesReckon f2 (t := 237) (Or.inl rfl) hb aS_now (br_cOk hD k1 s1)
  have k2 := k1.fr hb hD (G := F2) (fun a x y => g3 a (by omega))
  have s2 : sR D F2 b 231 s := sR_fr s1 ⟨g3 _ (by omega), g3 _ (by omega)⟩ (fun a x y => g3 a (by omega))
  obtain ⟨t1, t2, t3⟩ := br_tP hD (br_cn hD k1 s1) g4
  have n5 := hD.1.2.2.2.2.2.1
  have n7 := hD.2.2.1.2
  have p2 : hP D s F2 := ⟨fun a p x y z w => by rw [g3 _ (by omega)]; exact f4.1 a p x y z w, fun a p x y z w => by rw [g3 _ (by omega)]; exact f4.2 a p x y z w⟩
  have lh : lH D s 236 b 231 F2 := ⟨k2, p2, s2.2.2.2.2.2.2.1, t1, t2⟩
  obtain ⟨F3, u1, u2, u3, u4⟩ := c_sumUp hD hs.1 hs.2.2.2.1.2 (Or.inl rfl) hb (Or.inl rfl) g2 lh
  refine ⟨F3, ?_, u2, fun a ha => ?_, ?_, u4, fun p x y => ?_, fun d x y => ?_, ?_⟩
  · have o0 := pl_ob (sh_l (l := 236) (Or.inl rfl)).1
    have o1 := pl_ob (sh_t (t := 237) (Or.inl rfl)).1
    have e8 : F1 1 8 = b := by rw [f3 1 (by omega)]; exact h8
    have e9 : F2 1 8 = b := by rw [g3 1 (by omega)]; exact e8
    have e0 := (ly_l f2 (l := 236) (Or.inl rfl)).1
    rw [show (236 : Int) + 1 = 237 from rfl] at e0
    unfold pfX11_refresh
    simp only [pl_l, pl_b, pl_iT, pl_t, pl_f, gx_1, gx_2, gx_3, gx_4, gx_113, gx_114, gx_115, gx_116, gx_212, gx_213, gx_224, gn_4, gn_114, gn_115, gn_116, gn_213, gn_224, lx_1_0 hL, lx_1_1 hL, lx_1_2 hL, lx_1_3 hL, lx_1_4 hL, lx_1_5 hL, lx_1_6 hL, lx_1_7 hL, lx_2_0 hL, lx_3_0 hL, lx_113_0 hL, lx_113_1 hL, lx_113_2 hL, lx_212_0 hL, lx_212_1 hL, h8, f1]
    simp only [pl_l, pl_b, pl_iT, pl_t, pl_f, gx_1, gx_2, gx_3, gx_4, gx_113, gx_114, gx_115, gx_116, gx_212, gx_213, gx_224, gn_4, gn_114, gn_115, gn_116, gn_213, gn_224, lx_1_0 f2, lx_1_1 f2, lx_1_2 f2, lx_1_3 f2, lx_1_4 f2, lx_1_5 f2, lx_1_6 f2, lx_1_7 f2, lx_2_0 f2, lx_3_0 f2, lx_113_0 f2, lx_113_1 f2, lx_113_2 f2, lx_212_0 f2, lx_212_1 f2, e8, o0, e0, o1, g1]
    simp only [pl_l, pl_b, pl_iT, pl_t, pl_f, gx_1, gx_2, gx_3, gx_4, gx_113, gx_114, gx_115, gx_116, gx_212, gx_213, gx_224, gn_4, gn_114, gn_115, gn_116, gn_213, gn_224, lx_1_0 g2, lx_1_1 g2, lx_1_2 g2, lx_1_3 g2, lx_1_4 g2, lx_1_5 g2, lx_1_6 g2, lx_1_7 g2, lx_2_0 g2, lx_3_0 g2, lx_113_0 g2, lx_113_1 g2, lx_113_2 g2, lx_212_0 g2, lx_212_1 g2, e9, o0, u1]
  · rw [u3.1 a (by omega) (by omega), g3 a (by omega), f3 a (by omega)]
  · exact ⟨fun a p x y z w => by rw [u3.1 _ (by omega) (by omega)]; exact p2.1 a p x y z w, fun a p x y z w => by rw [u3.1 _ (by omega) (by omega)]; exact p2.2 a p x y z w⟩
  · rw [u3.1 239 (by omega) (by omega)]; exact t2 p x y
  · rw [u3.1 240 (by omega) (by omega)]; exact t3 d x y
  · rw [u3.1 238 (by omega) (by omega)]
    refine Or.inr (nR_c g5 fun p q a c d e => or_congr Iff.rfl ⟨fun ⟨w1, w2, w3⟩ => ⟨w1, w2, (br_cA hD k1 s1 w1.1 w1.2 w2.1 w2.2).mp w3⟩, fun ⟨w1, w2, w3⟩ => ⟨w1, w2, (br_cA hD k1 s1 w1.1 w1.2 w2.1 w2.2).mpr w3⟩⟩)
/-- the class with book D and row of acts s, all reckoned -/
def cS (D : pd_F) (s : Int → Int) (F : pd_F) : Prop := pd_Ly F ∧ aB (F 1 8) ∧ bOk D ∧ kB D F (F 1 8) ∧ sR D F (F 1 8) 231 s ∧ rD D s F
/-- what trials leave -/
def yF (F G : pd_F) : Prop := ∀ a, (a < 245 ∨ 258 < a) → G a = F a
theorem yF.rf (F : pd_F) : yF F F := fun _ _ => rfl
theorem yF.tr {F G H : pd_F} (h : yF F G) (g : yF G H) : yF F H := fun a x => (g a x).trans (h a x)
theorem cS.y {G : pd_F} (h : cS D s F) (hG : pd_Ly G) (y : yF F G) : cS D s G := by
  obtain ⟨h1, h2, h3, h4, h5, h6, h7, h8, h9, h10⟩ := h
  have hb := aB_out h2
  have n5 := h3.1.2.2.2.2.2.1
  have n7 := h3.2.2.1.2
  have e1 : G 1 = F 1 := y 1 (by omega)
  have kk : kV D s 236 G := by
    unfold kV
    rw [y 236 (by omega), y (236 + 1) (by omega), y (236 + 5) (by omega), y (236 + 6) (by omega), y (236 + 7) (by omega), y (236 + 8) (by omega)]
    exact h7
  unfold cS rD
  rw [e1, y 239 (by omega), y 240 (by omega), y 238 (by omega)]
  exact ⟨hG, h2, h3, h4.fr h2 h3 (fun a x z => y a (by omega)), sR_fr h5 ⟨y _ (by omega), y _ (by omega)⟩ (fun a x z => y a (by omega)), ⟨fun a p x z u w => by rw [y _ (by omega)]; exact h6.1 a p x z u w, fun a p x z u w => by rw [y _ (by omega)]; exact h6.2 a p x z u w⟩, kk, h8, h9, h10⟩
theorem cS.w (h : cS D s F) : kW D s 236 F := ⟨h.1, Or.inl rfl, h.2.2.2.2.2.2.1, h.2.2.1, h.2.2.2.2.1.1⟩
/-- the trial's settings and numbers are those of the row s' -/
def yT (D : pd_F) (s' : Int → Int) (F : pd_F) : Prop := (F 247 1 = s' 72 ∧ F 247 2 = s' 73) ∧ F 251 3 = sD D s' ∧ ∀ p, 0 ≤ p → p < D 369 0 → F 253 p = sN D s' p
theorem Bs_71 {mm mk : Int → Int} {day : Int} (h : s 70 ≤ 30) (h2 : s 110 ≤ 36) : Bs mm mk (ru s 71 day) = Bs mm mk s := by
  funext x y
  refine propext (and_congr Iff.rfl (or_congr ?_ ?_))
  · have eo : ∀ m, Ou (ru s 71 day) m ↔ Ou s m := fun m => by
      unfold Ou
      rw [ru_n (show (110 : Int) ≠ 71 by decide)]
      exact ⟨fun ⟨k, x, y, z⟩ => ⟨k, x, y, by rw [ru_n (by omega)] at z; exact z⟩, fun ⟨k, x, y, z⟩ => ⟨k, x, y, by rw [ru_n (by omega)]; exact z⟩⟩
    unfold Hm
    simp only [eo]
  · unfold Jn
    rw [ru_n (show (70 : Int) ≠ 71 by decide)]
    constructor
    · rintro ⟨k, a, c, d⟩
      rw [ru_n (show 10 + 2 * k ≠ 71 by omega), ru_n (show 11 + 2 * k ≠ 71 by omega)] at d
      exact ⟨k, a, c, d⟩
    · rintro ⟨k, a, c, d⟩
      refine ⟨k, a, c, ?_⟩
      rw [ru_n (show 10 + 2 * k ≠ 71 by omega), ru_n (show 11 + 2 * k ≠ 71 by omega)]
      exact d
theorem sN_71 {day : Int} (h : aOk D s) : (∀ p, sN D (ru s 71 day) p = sN D s p) ∧ sD D (ru s 71 day) = sD D s := by
  unfold sN sD sC
  rw [Bs_71 h.2.1.2 h.2.2.1.2]
  exact ⟨fun _ => rfl, rfl⟩
theorem c_sumTrial (h : cS D s F) {s' : Int → Int} (hs : aOk D s') (e : ∀ j, 0 ≤ j → j < 10 → s' j = s j) (h71 : s' 71 ≤ 999) (e2 : F 247 0 = s' 71) (hT : yT D s' F) :
    ∃ F', pfX4_sumUp pd_SH 5000 F 250 (F 1 8) 245 212 = some F' ∧ cS D s F' ∧ yF F F' ∧ F' 247 = F 247 ∧ F' 251 = F 251 ∧ F' 253 = F 253 ∧ kW D s' 250 F' := by
  obtain ⟨h1, h2, h3, h4, h5, h6, h7⟩ := id h
  obtain ⟨t1, t2, t3⟩ := hT
  have lh : lH D s' 250 (F 1 8) 245 F := ⟨h4, hP_row h3 h6 e, ⟨e2, t1⟩, t2, t3⟩
  obtain ⟨F3, u1, u2, u3, u4⟩ := c_sumUp h3 hs h71 (Or.inr rfl) h2 (Or.inr rfl) h1 lh
  have y : yF F F3 := fun a ha => u3.1 a (by omega) (by omega)
  exact ⟨F3, u1, h.y u2 y, y, u3.1 _ (by decide) (by decide), u3.1 _ (by decide) (by decide), u3.1 _ (by decide) (by decide), u2, Or.inr rfl, u4, h3, hs⟩
theorem c_paidOn (h : cS D s F) {s' : Int → Int} {day : Int} (hs : aOk D s') (e : ∀ j, 0 ≤ j → j < 10 → s' j = s j) (h71 : s' 71 = day ∧ day ≤ 999) (hT : yT D s' F) :
    ∃ F', pfX11_paidOn pd_SH 5000 F 1 day = some (cPU D s' (s' 72), F') ∧ cS D s F' ∧ yF F F' ∧ (∀ j, j ≠ 0 → F' 247 j = F 247 j) ∧ F' 251 = F 251 ∧ F' 253 = F 253 := by
  obtain ⟨h1, h2, h3, h4, h5, h6, h7⟩ := id h
  obtain ⟨r0, r1, r2, -⟩ := sh_s (s := 245) (Or.inr (Or.inl rfl))
  have v1 := (ly_s h1 (s := 245) (Or.inr (Or.inl rfl))).2.1
  rw [show (245 : Int) + 2 = 247 from rfl] at v1 r2
  have l1 : pd_Ly (pd_up F 247 0 day) := h1.up (pl_rc0 r2 (by decide))
  have y1 : yF F (pd_up F 247 0 day) := fun a x => pu_a (by omega)
  have c1 := h.y l1 y1
  have e8 : pd_up F 247 0 day 1 8 = F 1 8 := by rw [pu_a (by decide)]
  obtain ⟨G, f1, f2, f3, f4, f5, f6, f7⟩ := c_sumTrial c1 hs e (by omega) (by rw [pu_r, if_pos rfl]; exact h71.1.symm) ⟨by rw [pu_r, if_neg (by decide), pu_r, if_neg (by decide)]; exact hT.1, by rw [pu_a (by decide)]; exact hT.2.1, by rw [pu_a (by decide)]; exact hT.2.2⟩
  refine ⟨G, ?_, f2, y1.tr f3, fun j hj => by rw [f4, pu_r, if_neg hj], by rw [f5, pu_a (by decide)], by rw [f6, pu_a (by decide)]⟩
  have o7 := pl_ob (sh_l (l := 250) (Or.inr rfl)).1
  unfold pfX11_paidOn
  simp only [pl_l, pl_b, pl_iT, pl_t, pl_f, gx_1, gx_2, gx_3, gx_4, gx_113, gx_114, gx_115, gx_116, gx_212, gx_213, gx_224, gn_4, gn_114, gn_115, gn_116, gn_213, gn_224, lx_1_0 h1, lx_1_1 h1, lx_1_2 h1, lx_1_3 h1, lx_1_4 h1, lx_1_5 h1, lx_1_6 h1, lx_1_7 h1, lx_2_0 h1, lx_3_0 h1, lx_113_0 h1, lx_113_1 h1, lx_113_2 h1, lx_212_0 h1, lx_212_1 h1, pl_ob r0, v1, pl_ib r2]
  rw [pl_i (by omega)]
  simp only [pl_l, pl_b, pl_iT, pl_t, pl_f, gx_1, gx_2, gx_3, gx_4, gx_113, gx_114, gx_115, gx_116, gx_212, gx_213, gx_224, gn_4, gn_114, gn_115, gn_116, gn_213, gn_224, lx_1_0 l1, lx_1_1 l1, lx_1_2 l1, lx_1_3 l1, lx_1_4 l1, lx_1_5 l1, lx_1_6 l1, lx_1_7 l1, lx_2_0 l1, lx_3_0 l1, lx_113_0 l1, lx_113_1 l1, lx_113_2 l1, lx_212_0 l1, lx_212_1 l1, o7, f1]
  simp only [pl_l, pl_b, pl_iT, pl_t, pl_f, gx_1, gx_2, gx_3, gx_4, gx_113, gx_114, gx_115, gx_116, gx_212, gx_213, gx_224, gn_4, gn_114, gn_115, gn_116, gn_213, gn_224, lx_1_0 f2.1, lx_1_1 f2.1, lx_1_2 f2.1, lx_1_3 f2.1, lx_1_4 f2.1, lx_1_5 f2.1, lx_1_6 f2.1, lx_1_7 f2.1, lx_2_0 f2.1, lx_3_0 f2.1, lx_113_0 f2.1, lx_113_1 f2.1, lx_113_2 f2.1, lx_212_0 f2.1, lx_212_1 f2.1, o7, k_paidTogether f7]
theorem c_trialTies (h : cS D s F) {s' : Int → Int} (ok : cOk F (F 1 8) 245 (D 369 0)) (hA : ∀ x y, 0 ≤ x → x < D 369 0 → 0 ≤ y → y < D 369 0 → (Cn (D 369 0) (cA F (F 1 8) 245) x y ↔ sC D s' x y)) (e2 : F 247 1 = s' 72 ∧ F 247 2 = s' 73) :
    ∃ F', pfX10_reckon pd_SH 5000 F 251 (F 1 8) 245 = some F' ∧ cS D s F' ∧ yF F F' ∧ F' 247 = F 247 ∧ yT D s' F' := by
  obtain ⟨h1, h2, h3, h4, h5, h6, h7⟩ := id h
  obtain ⟨F2, g1, g2, g3, g4, g5⟩ := c_tiesReckon h1 (t := 251) (Or.inr rfl) h2 (st := 245) (Or.inr (Or.inl rfl)) ok
  obtain ⟨t1, t2, t3⟩ := br_tP h3 hA g4
  have y : yF F F2 := fun a ha => g3 a (by omega)
  have e := g3 247 (by omega)
  exact ⟨F2, g1, h.y g2 y, y, e, by rw [e]; exact e2, t1, t2⟩
theorem c_gainOfTrial (h : cS D s F) {s' : Int → Int} (hs : aOk D s') (e : ∀ j, 0 ≤ j → j < 10 → s' j = s j) (h71 : s' 71 ≤ 999) (e2 : F 247 0 = s' 71 ∧ F 247 1 = s' 72 ∧ F 247 2 = s' 73) (ok : cOk F (F 1 8) 245 (D 369 0)) (hA : ∀ x y, 0 ≤ x → x < D 369 0 → 0 ≤ y → y < D 369 0 → (Cn (D 369 0) (cA F (F 1 8) 245) x y ↔ sC D s' x y)) :
    ∃ F', pfX11_gainOfTrial pd_SH 5000 F 1 = some (cPU D s' (s' 72) - cPU D s (s 72), F') ∧ cS D s F' ∧ yF F F' := by
  obtain ⟨G, f1, f2, f3, f4, f5⟩ := c_trialTies h ok hA e2.2
  obtain ⟨H, g1, g2, g3, g4, g5, g6, g7⟩ := c_sumTrial f2 hs e h71 (by rw [f4]; exact e2.1) f5
  have e8 : G 1 8 = F 1 8 := by rw [f3 1 (by omega)]
  rw [e8] at g1
  refine ⟨H, ?_, g2, f3.tr g3⟩
  have o7 := pl_ob (sh_l (l := 250) (Or.inr rfl)).1
  have o5 := pl_ob (sh_l (l := 236) (Or.inl rfl)).1
  have o8 := pl_ob (sh_t (t := 251) (Or.inr rfl)).1
  have e0 := (ly_l h.1 (l := 250) (Or.inr rfl)).1
  rw [show (250 : Int) + 1 = 251 from rfl] at e0
  have hD := h.2.2.1
  have hs0 := h.2.2.2.2.1.1
  have b1 : 0 ≤ cPU D s' (s' 72) ∧ cPU D s' (s' 72) ≤ 1199999880 * sD D s' := cPU_bd hD hs hs.2.2.2.1.1 (sD_12 hD).1
  have b2 : 0 ≤ cPU D s (s 72) ∧ cPU D s (s 72) ≤ 1199999880 * sD D s := cPU_bd hD hs0 hs0.2.2.2.1.1 (sD_12 hD).1
  have n1 := sD_12 (s := s') hD
  have n2 := sD_12 (s := s) hD
  unfold pfX11_gainOfTrial
  simp only [pl_l, pl_b, pl_iT, pl_t, pl_f, gx_1, gx_2, gx_3, gx_4, gx_113, gx_114, gx_115, gx_116, gx_212, gx_213, gx_224, gn_4, gn_114, gn_115, gn_116, gn_213, gn_224, lx_1_0 h.1, lx_1_1 h.1, lx_1_2 h.1, lx_1_3 h.1, lx_1_4 h.1, lx_1_5 h.1, lx_1_6 h.1, lx_1_7 h.1, lx_2_0 h.1, lx_3_0 h.1, lx_113_0 h.1, lx_113_1 h.1, lx_113_2 h.1, lx_212_0 h.1, lx_212_1 h.1, o7, o8, e0, f1]
  simp only [pl_l, pl_b, pl_iT, pl_t, pl_f, gx_1, gx_2, gx_3, gx_4, gx_113, gx_114, gx_115, gx_116, gx_212, gx_213, gx_224, gn_4, gn_114, gn_115, gn_116, gn_213, gn_224, lx_1_0 f2.1, lx_1_1 f2.1, lx_1_2 f2.1, lx_1_3 f2.1, lx_1_4 f2.1, lx_1_5 f2.1, lx_1_6 f2.1, lx_1_7 f2.1, lx_2_0 f2.1, lx_3_0 f2.1, lx_113_0 f2.1, lx_113_1 f2.1, lx_113_2 f2.1, lx_212_0 f2.1, lx_212_1 f2.1, o7, e8, g1]
  simp only [pl_l, pl_b, pl_iT, pl_t, pl_f, gx_1, gx_2, gx_3, gx_4, gx_113, gx_114, gx_115, gx_116, gx_212, gx_213, gx_224, gn_4, gn_114, gn_115, gn_116, gn_213, gn_224, lx_1_0 g2.1, lx_1_1 g2.1, lx_1_2 g2.1, lx_1_3 g2.1, lx_1_4 g2.1, lx_1_5 g2.1, lx_1_6 g2.1, lx_1_7 g2.1, lx_2_0 g2.1, lx_3_0 g2.1, lx_113_0 g2.1, lx_113_1 g2.1, lx_113_2 g2.1, lx_212_0 g2.1, lx_212_1 g2.1, o7, o5, k_paidTogether g7, k_paidTogether g2.w]
  rw [pl_W (by omega)]
end BR

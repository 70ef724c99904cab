variable {sT : pd_S}
/-! the class: book and state told, and what is reckoned of them -/
section BR
variable {D : pd_F} {s : Int → Int} {b st : Int} {F : pd_F}
theorem br_cOk (hD : bOk D) (hk : kB D F b) (hs : sR D F b st s) : cOk F b st (D 369 0) := by
  obtain ⟨k1, k2, k3, k4, k5, k6, k7, k8, k9, k10, ⟨m0, m1, m2, m3, m4⟩⟩ := hk
  obtain ⟨h1, h2, h3, h4, h5, h6, h7, h8, h9, h10, h11, h12⟩ := hs
  have n70 := h1.2.1
  refine ⟨k1, ⟨hD.1.1, hD.1.2.1⟩, m0, fun i x y => ⟨(m4 i x y).1, fun q q0 ht => ?_⟩, by omega, fun k x y => ?_, h10⟩
  · have z := m4 i x y
    exact ((z.2 q q0 (tb_12 z.1 q0 ht)).mp ht).1
  · rw [h8] at y
    rw [(h9 k x y).1, (h9 k x y).2]
    exact h2 k x y
theorem br_cA (hD : bOk D) (hk : kB D F b) (hs : sR D F b st s) {x y : Int} (x0 : 0 ≤ x) (x1 : x < D 369 0) (y0 : 0 ≤ y) (y1 : y < D 369 0) : cA F b st x y ↔ Bs (D 375) (D 376) s x y := by
  obtain ⟨k1, k2, k3, k4, k5, k6, k7, k8, k9, k10, ⟨m0, m1, m2, m3, m4⟩⟩ := hk
  obtain ⟨h1, h2, h3, h4, h5, h6, h7, h8, h9, h10, h11, h12⟩ := hs
  have n1 := hD.1.2.1
  unfold cA Bs
  refine and_congr Iff.rfl (or_congr ⟨fun ⟨i, a, c, e1, e2, e3⟩ => ?_, fun ⟨i, a, c, e1, e2⟩ => ?_⟩ ⟨fun ⟨k, a, c, e⟩ => ?_, fun ⟨k, a, c, e⟩ => ?_⟩)
  · have p2 := (((m4 i a c).2 x x0 (by omega)).mp e2).2
    have p3 := (((m4 i a c).2 y y0 (by omega)).mp e3).2
    obtain ⟨j, j0, j1, j2⟩ := p2
    refine ⟨j, j0, j1, by rw [j2]; exact p3, ?_⟩
    rw [j2]
    exact fun w => e1 ((h11 i a (by omega)).mpr ⟨c, w⟩)
  · have hx : Hk (D 375) (D 376) x (D 376 (3 * x + i)) := ⟨i, a, c, rfl⟩
    obtain ⟨j, j0, j1, j2⟩ := m3 _ ⟨x, x0, x1, hx⟩
    refine ⟨j, j0, j1, fun w => e2 ?_, ((m4 j j0 j1).2 x x0 (by omega)).mpr ⟨x1, by rw [j2]; exact hx⟩, ((m4 j j0 j1).2 y y0 (by omega)).mpr ⟨y1, by rw [j2]; exact e1⟩⟩
    rw [← j2]
    exact ((h11 j j0 (by omega)).mp w).2
  · rw [h8] at c
    rw [(h9 k a c).1, (h9 k a c).2] at e
    exact ⟨k, a, c, e.elim (fun w => Or.inl w) (fun w => Or.inr ⟨w.1, w.2⟩)⟩
  · refine ⟨k, a, by omega, ?_⟩
    rw [(h9 k a c).1, (h9 k a c).2]
    exact e.elim (fun w => Or.inl w) (fun w => Or.inr ⟨w.1, w.2⟩)
theorem br_cn (hD : bOk D) (hk : kB D F b) (hs : sR D F b st s) : ∀ x y, 0 ≤ x → x < D 369 0 → 0 ≤ y → y < D 369 0 → (Cn (D 369 0) (cA F b st) x y ↔ sC D s x y) := fun x _ x0 x1 _ _ =>
  Rk_congr ⟨x0, x1⟩ (fun _ _ a c d e => br_cA hD hk hs a c d e)
theorem br_tP {A : Int → Int → Prop} {t : Int} {G : pd_F} (hD : bOk D) (h : ∀ x y, 0 ≤ x → x < D 369 0 → 0 ≤ y → y < D 369 0 → (Cn (D 369 0) A x y ↔ sC D s x y)) (ht : tP (D 369 0) (Cn (D 369 0) A) t G) :
    G t 3 = sD D s ∧ (∀ p, 0 ≤ p → p < D 369 0 → G (t + 2) p = sN D s p) ∧ ∀ d, 0 ≤ d → d < sD D s → bR (G (t + 3) d) (fun p => p < D 369 0 ∧ sN D s p = d) := by
  have n0 := hD.1.1
  have e := dn_congr h (D 369 0).toNat (by omega)
  have eC : DC (D 369 0) (Cn (D 369 0) A) = sD D s := by unfold sD DC; rw [e]
  have eN : ∀ p, DN (D 369 0) (Cn (D 369 0) A) p = sN D s p := fun p => by unfold sN DN; rw [e]
  obtain ⟨t1, t2, t3⟩ := ht
  refine ⟨t1.trans eC, fun p a c => (t2 p a c).trans (eN p), fun d a c => bR_c (t3 d a (by rw [eC]; exact c)) fun p _ _ => by rw [eN]⟩
/-- all that is reckoned of book and state -/
def rD (D : pd_F) (s : Int → Int) (F : pd_F) : Prop := hP D s F ∧ kV D s 236 F ∧ (∀ p, 0 ≤ p → p < D 369 0 → F 239 p = sN D s p) ∧ (∀ d, 0 ≤ d → d < sD D s → bR (F 240 d) (fun p => p < D 369 0 ∧ sN D s p = d)) ∧ (D 369 0 = 0 ∨ nR (An (D 369 0) (Bs (D 375) (D 376) s)) (F 238))
theorem aB_out (hb : aB b) : (b = 5 ∨ b = 259) := hb
theorem c_refresh (hD : bOk D) (hb : aB b) (hL : pd_Ly F) (h8 : F 1 8 = b) (hk : kB D F b) (hs : sR D F b 231 s) : ∃ F', pfX11_refresh (pd_SH sT) 5000 F 1 = some F' ∧ pd_Ly F' ∧ (∀ a, (a < 214 ∨ (230 < a ∧ a < 236) ∨ 244 < a) → F' a = F a) ∧ rD D s F' := by
  have hb' := aB_out hb
  obtain ⟨F1, f1, f2, f3, f4⟩ := c_sharesReckon (sT := sT) hb hD hL hk rfl hs
  have k1 := hk.fr hb hD (G := F1) (fun a x y => f3 a (by omega))
  have s1 : sR D F1 b 231 s := sR_fr hs ⟨f3 _ (by omega), f3 _ (by omega)⟩ (fun a x y => f3 a (by omega))
  obtain ⟨F2, g1, g2, g3, g4, g5⟩ := c_tiesReckon (sT := sT) f2 (t := 237) (Or.inl rfl) hb aS_now (br_cOk hD k1 s1)
  have k2 := k1.fr hb hD (G := F2) (fun a x y => g3 a (by omega))
  have s2 : sR D F2 b 231 s := sR_fr s1 ⟨g3 _ (by omega), g3 _ (by omega)⟩ (fun a x y => g3 a (by omega))
  obtain ⟨t1, t2, t3⟩ := br_tP hD (br_cn hD k1 s1) g4
  have n5 := hD.1.2.2.2.2.2.1
  have n7 := hD.2.2.1.2
  have p2 : hP D s F2 := ⟨fun a p x y z w => by rw [g3 _ (by omega)]; exact f4.1 a p x y z w, fun a p x y z w => by rw [g3 _ (by omega)]; exact f4.2 a p x y z w⟩
  have lh : lH D s 236 b 231 F2 := ⟨k2, p2, s2.2.2.2.2.2.2.1, t1, t2⟩
  obtain ⟨F3, u1, u2, u3, u4⟩ := c_sumUp (sT := sT) hD hs.1 hs.2.2.2.1.2 (Or.inl rfl) hb (Or.inl rfl) g2 lh
  refine ⟨F3, ?_, u2, fun a ha => ?_, ?_, u4, fun p x y => ?_, fun d x y => ?_, ?_⟩
  · have o0 := pl_ob (sh_l (sT := sT) (l := 236) (Or.inl rfl)).1
    have o1 := pl_ob (sh_t (sT := sT) (t := 237) (Or.inl rfl)).1
    have e8 : F1 1 8 = b := by rw [f3 1 (by omega)]; exact h8
    have e9 : F2 1 8 = b := by rw [g3 1 (by omega)]; exact e8
    have e0 := (ly_l f2 (l := 236) (Or.inl rfl)).1
    rw [show (236 : Int) + 1 = 237 from rfl] at e0
    unfold pfX11_refresh
    simp only [pl_l, pl_b, pl_iT, pl_t, pl_f, gx_1, gx_2, gx_3, gx_4, gx_113, gx_114, gx_115, gx_116, gx_212, gx_213, gx_224, gn_4, gn_114, gn_115, gn_116, gn_213, gn_224, lx_1_0 hL, lx_1_1 hL, lx_1_2 hL, lx_1_3 hL, lx_1_4 hL, lx_1_5 hL, lx_1_6 hL, lx_1_7 hL, lx_2_0 hL, lx_3_0 hL, lx_113_0 hL, lx_113_1 hL, lx_113_2 hL, lx_212_0 hL, lx_212_1 hL, h8, f1]
    simp only [pl_l, pl_b, pl_iT, pl_t, pl_f, gx_1, gx_2, gx_3, gx_4, gx_113, gx_114, gx_115, gx_116, gx_212, gx_213, gx_224, gn_4, gn_114, gn_115, gn_116, gn_213, gn_224, lx_1_0 f2, lx_1_1 f2, lx_1_2 f2, lx_1_3 f2, lx_1_4 f2, lx_1_5 f2, lx_1_6 f2, lx_1_7 f2, lx_2_0 f2, lx_3_0 f2, lx_113_0 f2, lx_113_1 f2, lx_113_2 f2, lx_212_0 f2, lx_212_1 f2, e8, o0, e0, o1, g1]
    simp only [pl_l, pl_b, pl_iT, pl_t, pl_f, gx_1, gx_2, gx_3, gx_4, gx_113, gx_114, gx_115, gx_116, gx_212, gx_213, gx_224, gn_4, gn_114, gn_115, gn_116, gn_213, gn_224, lx_1_0 g2, lx_1_1 g2, lx_1_2 g2, lx_1_3 g2, lx_1_4 g2, lx_1_5 g2, lx_1_6 g2, lx_1_7 g2, lx_2_0 g2, lx_3_0 g2, lx_113_0 g2, lx_113_1 g2, lx_113_2 g2, lx_212_0 g2, lx_212_1 g2, e9, o0, u1]
  · rw [u3.1 a (by omega) (by omega), g3 a (by omega), f3 a (by omega)]
  · exact ⟨fun a p x y z w => by rw [u3.1 _ (by omega) (by omega)]; exact p2.1 a p x y z w, fun a p x y z w => by rw [u3.1 _ (by omega) (by omega)]; exact p2.2 a p x y z w⟩
  · rw [u3.1 239 (by omega) (by omega)]; exact t2 p x y
  · rw [u3.1 240 (by omega) (by omega)]; exact t3 d x y
  · rw [u3.1 238 (by omega) (by omega)]
    refine Or.inr (nR_c g5 fun p q a c d e => or_congr Iff.rfl ⟨fun ⟨w1, w2, w3⟩ => ⟨w1, w2, (br_cA hD k1 s1 w1.1 w1.2 w2.1 w2.2).mp w3⟩, fun ⟨w1, w2, w3⟩ => ⟨w1, w2, (br_cA hD k1 s1 w1.1 w1.2 w2.1 w2.2).mpr w3⟩⟩)
/-- the class with book D and row of acts s, all reckoned -/
def cS (D : pd_F) (s : Int → Int) (F : pd_F) : Prop := pd_Ly F ∧ aB (F 1 8) ∧ bOk D ∧ kB D F (F 1 8) ∧ sR D F (F 1 8) 231 s ∧ rD D s F
theorem cS.w (h : cS D s F) : kW D s 236 F := ⟨h.1, Or.inl rfl, h.2.2.2.2.2.2.1, h.2.2.1, h.2.2.2.2.1.1⟩
end BR

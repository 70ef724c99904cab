variable {sT : pd_S}
/-! books alike: what is reckoned of one is reckoned of the other -/
section EB
variable {B D F : pd_F} {s : Int → Int} {b : Int}
theorem Kf.ok (h : Kf b F B) : bOk B ∧ kB B F b ∧ dOk B := by
  obtain ⟨⟨p1, p2, p3, p4, p5⟩, ⟨⟨t1, t2⟩, ⟨a1, a2⟩, l1, l2⟩, ⟨h1, h2, h3⟩, ⟨o1, o2, o3⟩, st⟩ := h
  refine ⟨⟨⟨p2.1, p2.2, t2.1, t2.2, a2.1, a2.2, fun t x y => (l1 t x y).2, fun a x y => (l2 a x y).2.1⟩, fun p x y => (p3 p x y).2.1, h2, o2, fun t x y => ⟨(h3 t x y).2.1, (h3 t x y).2.2.1⟩, fun t x y => ⟨(o3 t x y).2.1, (o3 t x y).2.2⟩, fun p x y => (p3 p x y).2.2⟩,
    ⟨p1, t1, a1, h1, o1, fun p x y => (p3 p x y).1, fun t x y => (l1 t x y).1, fun a x y => (l2 a x y).1, fun t x y => (h3 t x y).1, fun t x y => (o3 t x y).1, p4⟩, fun t x y => ⟨(h3 t x y).2.2.2.1, (h3 t x y).2.2.2.2⟩⟩
end EB
/-- the class with a new book -/
theorem c_bookOk {D F F' : pd_F} {b n N : Int} {s : Int → Int} (hL : pd_Ly F') (hn : 0 ≤ n ∧ n ≤ F 3 1) (f0 : pd_Ly F) (hr : pfX6_read (pd_SH sT) 5000 F 2 n = some (N, F')) (hN : 1 ≤ N) (hb : aB b) (h21 : F' 2 1 = b) (hb0 : aB (F' 1 8)) (hne : F' 1 8 ≠ b) (hD : bOk D) (hk : kB D F' b)
    (hs : aOk D s ∧ s 70 = 0 ∧ s 110 = 0 ∧ (0 ≤ s 71 ∧ s 71 ≤ 999) ∧ (∀ a, 0 ≤ a → a < D 371 0 → F' (b + 4) a = s a) ∧ ∀ w, 0 ≤ w → w < 3 → F' (b + 7) w = s (71 + w)) (h113 : 0 ≤ F' 113 3 ∧ F' 113 3 ≤ 16) :
    ∃ F1, pfX11_book (pd_SH sT) 5000 F 1 n = some (N, F1) ∧ pd_Ly F1 ∧ cS D s F1 ∧ F1 1 8 = b ∧ F1 1 9 = 1 ∧ F1 2 1 = F' 1 8 ∧ F1 3 1 = 0 ∧ F1 113 4 = 0 ∧ (0 ≤ F1 113 3 ∧ F1 113 3 ≤ 16) ∧ (∀ k, 0 ≤ k → k < 3 → F1 116 k = 0) ∧ ∀ a, 367 ≤ a → F1 a = F' a := by
  have b5 := aB_5 hb
  have bb : (b < 231 ∨ 235 < b) ∧ (b + 107 < 113 ∨ 244 < b) := by rcases hb with rfl | rfl <;> decide
  have b05 := aB_5 hb0
  obtain ⟨P, hP⟩ : ∃ P, pd_up (pd_up (pd_up (pd_up F' 3 1 0) 2 1 (F' 1 8)) 1 8 b) 1 9 1 = P := ⟨_, rfl⟩
  have u1 : pd_Ly (pd_up F' 3 1 0) := hL.up (pl_rc4 sx_3 (by decide))
  have u2 : pd_Ly (pd_up (pd_up F' 3 1 0) 2 1 (F' 1 8)) := u1.up (pl_rc4 sx_2 (by decide))
  have u3 : pd_Ly (pd_up (pd_up (pd_up F' 3 1 0) 2 1 (F' 1 8)) 1 8 b) := u2.up (pl_rc4 sx_1 (by decide))
  have uP : pd_Ly P := by rw [← hP]; exact u3.up (pl_rc4 sx_1 (by decide))
  have pa : ∀ a, a ≠ 1 → a ≠ 2 → a ≠ 3 → P a = F' a := fun a x y z => by rw [← hP, pu_a x, pu_a x, pu_a y, pu_a z]
  have p18 : P 1 8 = b := by rw [← hP, pu_r, if_neg (by decide), pu_r, if_pos rfl]
  have p19 : P 1 9 = 1 := by rw [← hP, pu_r, if_pos rfl]
  have p21 : P 2 1 = F' 1 8 := by rw [← hP, pu_a (by decide), pu_a (by decide), pu_r, if_pos rfl]
  have p31 : P 3 1 = 0 := by rw [← hP, pu_a (by decide), pu_a (by decide), pu_a (by decide), pu_r, if_pos rfl]
  obtain ⟨Q, q1, q2, q3, q4, q5, q6, q7⟩ := c_begin (sT := sT) uP (d := 231) (b := b) aS_now hb
  obtain ⟨R, r1, r2, r3, r4, r5⟩ := c_forget (sT := sT) q2
  have rb : ∀ a, (a < 231 ∨ 235 < a) → a ≠ 113 → a ≠ 116 → R a = P a := fun a x y z => by rw [r3 a y z, q3 a (by omega)]
  have kR : kB D R b := hk.fr hb hD (fun a x y => by rw [rb a (by omega) (by omega) (by omega), pa a (by omega) (by omega) (by omega)])
  have R18 : R 1 8 = b := by rw [rb 1 (by decide) (by decide) (by decide)]; exact p18
  have nO : ∀ m, ¬ Ou s m := fun m ⟨i, x, y, _⟩ => by omega
  have e232 : ∀ i, 0 ≤ i → i < 10 → R 232 i = F' (b + 4) i := fun i x y => by rw [r3 232 (by decide) (by decide)]; exact (q6 i x y).trans (by rw [pa _ (by omega) (by omega) (by omega)])
  have e233 : ∀ w, 0 ≤ w → w < 3 → R 233 w = s (71 + w) := fun w x y => by rw [r3 233 (by decide) (by decide)]; exact (q7 w x y).trans (by rw [pa _ (by omega) (by omega) (by omega)]; exact hs.2.2.2.2.2 w x y)
  have e4 : R 231 4 = 0 := by rw [r3 231 (by decide) (by decide)]; exact q4
  have e5 : R 231 5 = 0 := by rw [r3 231 (by decide) (by decide)]; exact q5
  have n5 := hD.1.2.2.2.2.2.1
  have sRR : sR D R b 231 s := by
    refine ⟨hs.1, fun k x y => by have := hs.2.1; omega, fun i j x y => by have := hs.2.2.1; omega, hs.2.2.2.1, fun m w => absurd w (nO m), fun a x y => (e232 a x (by omega)).trans (hs.2.2.2.2.1 a x y), ⟨e233 0 (by decide) (by decide), e233 1 (by decide) (by decide), e233 2 (by decide) (by decide)⟩, by rw [e4, hs.2.1], fun k x y => by have := hs.2.1; omega, by rw [e5]; unfold lR; omega, fun i x y => ?_, ?_⟩
    · rw [e5]
      exact ⟨fun w => absurd w (tb_0 i), fun w => absurd w.2 (nO _)⟩
    · rw [hs.2.2.1, Sm_zero]
      intro i _ _
      rw [e5, ci_f (tb_0 i)]
  obtain ⟨F1, c1, c2, c3, c4⟩ := c_refresh (sT := sT) hD hb r2 R18 kR sRR
  have fr : ∀ a, (a < 214 ∨ 244 < a) → a ≠ 113 → a ≠ 116 → F1 a = P a := fun a x y z => by rw [c3 a (by omega), rb a (by omega) y z]
  have F118 : F1 1 8 = b := by rw [fr 1 (by decide) (by decide) (by decide)]; exact p18
  refine ⟨F1, ?_, c2, ?_, F118, by rw [fr 1 (by decide) (by decide) (by decide)]; exact p19, by rw [fr 2 (by decide) (by decide) (by decide)]; exact p21, by rw [fr 3 (by decide) (by decide) (by decide)]; exact p31, ?_, ?_, fun k x y => by rw [c3 116 (by decide)]; exact r5 k x y, fun a x => by rw [fr a (by omega) (by omega) (by omega), pa a (by omega) (by omega) (by omega)]⟩
  · have x11 : F 1 1 = 3 := lx_1_1 f0
    have x10 : F 1 0 = 2 := lx_1_0 f0
    have y11 : F' 1 1 = 3 := lx_1_1 hL
    have y10 : pd_up F' 3 1 0 1 0 = 2 := lx_1_0 u1
    have y18 : pd_up F' 3 1 0 1 8 = F' 1 8 := by rw [pu_a (by decide)]
    have y21 : pd_up F' 3 1 0 2 1 = b := by rw [pu_a (by decide)]; exact h21
    have x14 : P 1 4 = 231 := lx_1_4 uP
    have x12 : Q 1 2 = 113 := lx_1_2 q2
    have gs := pl_ob (sh_s (sT := sT) aS_now).1
    unfold pfX11_book
    rw [if_neg (by omega)]
    simp only [pl_l, pl_b, pl_iT, pl_t, pl_f, gx_1, gx_2, gx_3, gx_4, gx_113, gx_114, gx_115, gx_116, gx_212, gx_213, gx_224, gn_4, gn_114, gn_115, gn_116, gn_213, gn_224, x11, x10]
    rw [if_pos hn.2, hr]
    simp only [pl_l, pl_b, pl_iT, pl_t, pl_f, gx_1, gx_2, gx_3, gx_4, gx_113, gx_114, gx_115, gx_116, gx_212, gx_213, gx_224, gn_4, gn_114, gn_115, gn_116, gn_213, gn_224, y11, y10, y18]
    rw [if_neg (by omega)]
    unfold pfX6_trade
    simp only [pl_l, pl_b, pl_iT, pl_t, pl_f, gx_1, gx_2, gx_3, gx_4, gx_113, gx_114, gx_115, gx_116, gx_212, gx_213, gx_224, gn_4, gn_114, gn_115, gn_116, gn_213, gn_224, y21]
    rw [pl_i (by omega)]
    simp only [pl_l, pl_b, pl_iT, pl_t, pl_f, hP, x14, p18, gs, q1, x12, gx_1, gx_2, gx_3, gx_4, gx_113, gx_114, gx_115, gx_116, gx_212, gx_213, gx_224, gn_4, gn_114, gn_115, gn_116, gn_213, gn_224, r1, c1]
  · exact ⟨c2, by rw [F118]; exact hb, hD, by rw [F118]; exact kR.fr hb hD (fun a x y => c3 a (by omega)), by rw [F118]; exact sR_fr sRR ⟨c3 _ (by omega), c3 _ (by omega)⟩ (fun a x y => c3 a (by omega)), c4⟩
  · rw [c3 113 (by decide), r4, ru_e]
  · rw [c3 113 (by decide), r4, ru_n (by decide), q3 113 (by decide), pa 113 (by decide) (by decide) (by decide)]
    exact h113


/-! book, side by side -/
section IB
variable {D : pd_F} {s : Int → Int} {F : pd_F}
theorem bG_eB {B G G' : pd_F} (h : bG G G') (e : bE B G) : eB B G' := by
  have k : ∀ a j, 369 ≤ a → a ≤ 390 → j < bs a → G' a j = B a j := fun a j x y z => by rw [h.2.2.1 a j x y z, e a x y]
  refine ⟨⟨k 369 0 (by decide) (by decide) (by decide), k 370 0 (by decide) (by decide) (by decide), k 371 0 (by decide) (by decide) (by decide), k 372 0 (by decide) (by decide) (by decide), k 373 0 (by decide) (by decide) (by decide)⟩, fun p x y => ⟨k 374 p (by decide) (by decide) (by rw [show bs 374 = 12 by decide]; exact y), k 375 p (by decide) (by decide) (by rw [show bs 375 = 12 by decide]; exact y), k 377 p (by decide) (by decide) (by rw [show bs 377 = 12 by decide]; exact y)⟩, fun j x y => k 376 j (by decide) (by decide) (by rw [show bs 376 = 36 by decide]; exact y), fun l x y => k 381 l (by decide) (by decide) (by rw [show bs 381 = 15 by decide]; exact y),
    fun j x y => ⟨k 382 j (by decide) (by decide) (by rw [show bs 382 = 75 by decide]; exact y), k 383 j (by decide) (by decide) (by rw [show bs 383 = 75 by decide]; exact y)⟩, fun t x y => ⟨k 384 t (by decide) (by decide) (by rw [show bs 384 = 6 by decide]; exact y), k 385 t (by decide) (by decide) (by rw [show bs 385 = 6 by decide]; exact y), k 386 t (by decide) (by decide) (by rw [show bs 386 = 6 by decide]; exact y), k 387 t (by decide) (by decide) (by rw [show bs 387 = 6 by decide]; exact y)⟩,
    fun l x y => ⟨k 388 l (by decide) (by decide) (by rw [show bs 388 = 8 by decide]; exact y), k 389 l (by decide) (by decide) (by rw [show bs 389 = 8 by decide]; exact y), k 390 l (by decide) (by decide) (by rw [show bs 390 = 8 by decide]; exact y)⟩⟩
theorem Iv.tape (h : Iv D s F) : ∀ j, 0 ≤ j → j < F 367 2 → F 4 j = F 368 j ∧ -128 ≤ F 368 j ∧ F 368 j ≤ 127 := fun j x y => ⟨h.2.2.2.2.1.2.2 j x y, h.2.2.2.2.2.2.2.2 j x y⟩
theorem i_book (h : Iv D s F) (n : Int) : ∃ D' v F1 F2 s', pfX11_book pd_SH 5000 F 1 n = some (v, F1) ∧ pfX12_book pd_SH 5000 F1 367 n = some (v, F2) ∧ Iv D' s' F2 := by
  obtain ⟨h1, h2, h3, h4, ⟨t1, t2, t3⟩, ⟨x1, x2, x3, x4⟩⟩ := id h
  have f0 := h1.1
  have hb0 := h2.2.1
  obtain ⟨b0, e18⟩ : ∃ b0, F 1 8 = b0 := ⟨_, rfl⟩
  obtain ⟨b, e21⟩ : ∃ b, F 2 1 = b := ⟨_, rfl⟩
  rw [e18] at hb0 x2
  rw [e21] at x2
  have hb : aB b := by rcases hb0 with rfl | rfl <;> unfold aB <;> omega
  have hne : b0 ≠ b := by rcases hb0 with rfl | rfl <;> omega
  have b5 := aB_5 hb
  have b05 := aB_5 hb0
  have out : (b0 < b ∨ b + 107 < b0) ∧ (b0 + 107 < b ∨ b + 107 < b0) := by rcases hb0 with rfl | rfl <;> omega
  have bb : b + 107 < 113 ∨ 244 < b := by rcases hb with rfl | rfl <;> decide
  have x11 : F 1 1 = 3 := lx_1_1 f0
  by_cases hn : 0 ≤ n ∧ n ≤ F 367 2
  · -- first over one heap, for what the class leaves
    obtain ⟨F', r1, r2, r3, r4⟩ := j_read f0 f0 hb e21 t1 rfl h.tape hn
    have F'18 : F' 1 8 = b0 := by rw [r3 1 (by decide) (by decide) (by omega)]; exact e18
    have F'113 : F' 113 = F 113 := r3 113 (by decide) (by decide) (by omega)
    have two : ∀ F1 : pd_F, pd_Ly F1 → (∀ a, 367 ≤ a → F1 a = F a) → ∀ j, 0 ≤ j → j < F1 367 2 → F 4 j = F1 368 j ∧ -128 ≤ F1 368 j ∧ F1 368 j ≤ 127 := fun F1 _ e j x y => by
      rw [e 367 (by decide)] at y
      rw [e 368 (by decide)]
      exact h.tape j x y
    rcases r4 with ⟨v, G', v0, c1, c2, c3, c4⟩ | ⟨N, G', N1, c1, c2, c3, c4, c5⟩
    · -- a fault
      have f7 : pd_Ly (pd_up F' 3 1 0) := r1.up (pl_rc4 sx_3 (by decide))
      have y11 : F' 1 1 = 3 := lx_1_1 r1
      have eC : pfX11_book pd_SH 5000 F 1 n = some (v, pd_up F' 3 1 0) := by
        have x10 : F 1 0 = 2 := lx_1_0 f0
        unfold pfX11_book
        rw [if_neg (by omega)]
        simp only [pl_l, pl_b, pl_iT, pl_t, pl_f, gx_1, gx_2, gx_3, gx_4, gx_113, gx_114, gx_115, gx_116, gx_212, gx_213, gx_224, gn_4, gn_114, gn_115, gn_116, gn_213, gn_224, x11, x10]
        rw [if_pos (by rw [t2]; exact hn.2), c1]
        simp only [pl_l, pl_b, pl_iT, pl_t, pl_f, gx_1, gx_2, gx_3, gx_4, gx_113, gx_114, gx_115, gx_116, gx_212, gx_213, gx_224, gn_4, gn_114, gn_115, gn_116, gn_213, gn_224, y11]
        rw [if_pos (by omega)]
      have e7 : ∀ a, a ≠ 2 → a ≠ 3 → (a < b ∨ b + 107 < a) → pd_up F' 3 1 0 a = F a := fun a x y z => by rw [pu_a y]; exact r3 a x y z
      obtain ⟨F'', o1, o2, o3, o4⟩ := j_read f0 f7 hb e21 (G := pd_up F' 3 1 0) (tp := F 367 2) t1 (by rw [e7 367 (by decide) (by decide) (by omega)]) (fun j x y => two _ f7 (fun a x => e7 a (by omega) (by omega) (by omega)) j x (by rw [e7 367 (by decide) (by decide) (by omega)]; exact y)) hn
      rcases o4 with ⟨v', H, _, d1, d2, d3, d4⟩ | ⟨N, H, N1, d1, _⟩
      · rw [c1] at d1
        obtain ⟨ev, eF⟩ := Prod.mk.inj (Option.some.inj d1)
        subst ev
        have g : ∀ a, a < 367 → H a = pd_up F' 3 1 0 a := fun a x => d4.1 a (by omega) (by omega)
        have eb : eB D H := bG_eB d4 (fun a x y => by rw [e7 a (by omega) (by omega) (by omega)]; exact h1.2.1 a x y)
        have e1 : H 1 = F 1 := by rw [g 1 (by decide), e7 1 (by decide) (by decide) (by omega)]
        have eg : ∀ a, 5 ≤ a → a < 367 → (a < b ∨ b + 107 < a) → H a = F a := fun a x y z => by rw [g a y, e7 a (by omega) (by omega) z]
        have er : ∀ a, 393 ≤ a → H a = F a := fun a x => by rw [d4.1 a (by omega) (by omega), e7 a (by omega) (by omega) (by omega)]
        have s367 : ∀ j, 14 ≤ j ∨ j = 12 → j ≠ 38 → H 367 j = F 367 j := fun j x y => by rw [d4.2.1 j x y, e7 367 (by decide) (by decide) (by omega)]
        have e393 : H 393 = s := by rw [er 393 (by decide)]; exact h1.2.2.1
        refine ⟨H, v, pd_up F' 3 1 0, H, s, eC, d2, ⟨d3, fun _ _ _ => rfl, e393, eb.ok h1.2.2.2.1, ?_⟩, ?_, eb.dk h1.2.2.2.1 h3, ?_, ⟨by rw [d4.2.2.2.2.2]; omega, ?_, fun j x y => ?_⟩, ?_, ?_, ?_, fun j x y => ?_⟩
        · have := h1.2.2.2.2
          unfold aOk at this ⊢
          rw [eb.1.2.2.1]
          exact this
        · exact h2.mv eb d3 e1 (fun a x => by rw [e18] at x; exact eg a (by omega) (by omega) (by omega))
        · rw [s367 41 (by decide) (by decide), er 394 (by decide), er 395 (by decide), er 396 (by decide)]
          exact h4.mv eb h2.2.1 e1 (fun a x => by rw [e18] at x; exact eg a (by omega) (by omega) (by omega))
        · rw [g 3 (by decide), pu_r, if_pos rfl, d4.2.2.2.2.2]
        · rw [d4.2.2.2.2.2] at y; omega
        · rw [e1, s367 12 (by decide) (by decide)]; exact x1
        · rw [e1, e18, g 2 (by decide), pu_a (by decide), r2]; exact x2
        · exact fun k x y => d4.2.2.2.1 k (by rw [e7 377 (by decide) (by decide) (by omega)]; exact x3 k x y)
        · rw [d4.2.2.2.2.2] at y; omega
      · rw [c1] at d1
        have := (Prod.mk.inj (Option.some.inj d1)).1
        omega
    · -- a book
      have mk : ∀ G' : pd_F, Kf b F' (bn G') → ∀ D, eB (bn G') D → ∀ s : Int → Int, (∀ a, 0 ≤ a → a < bn G' 371 0 → s a = bn G' 380 a) → s 70 = 0 → s 110 = 0 → (∀ w, 0 ≤ w → w < 3 → s (71 + w) = sv (bn G') w) →
          ∃ F1, pfX11_book pd_SH 5000 F 1 n = some (N, F1) ∧ pd_Ly F1 ∧ cS D s F1 ∧ F1 1 8 = b ∧ F1 1 9 = 1 ∧ F1 2 1 = F' 1 8 ∧ F1 3 1 = 0 ∧ F1 113 4 = 0 ∧ (0 ≤ F1 113 3 ∧ F1 113 3 ≤ 16) ∧ (∀ k, 0 ≤ k → k < 3 → F1 116 k = 0) ∧ ∀ a, 367 ≤ a → F1 a = F' a := fun G' c5 D eb s z1 z2 z3 z4 => by
        obtain ⟨k1, k2, k3⟩ := c5.ok
        have kl := c5.2.1.2.2.2
        have ks := c5.2.2.2.2
        have m0 := ks 0 (by decide) (by decide)
        have m1 := ks 1 (by decide) (by decide)
        have m2 := ks 2 (by decide) (by decide)
        have w0 := z4 0 (by decide) (by decide)
        have w1 := z4 1 (by decide) (by decide)
        have w2 := z4 2 (by decide) (by decide)
        have y0 : tMx 0 = 999 := by decide
        have y1 : tMx 1 = 9999999 := by decide
        have y2 : tMx 2 = 9999999 := by decide
        refine c_bookOk r1 (by rw [t2]; exact hn) f0 c1 N1 hb r2 (by rw [F'18]; exact hb0) (by rw [F'18]; exact hne) (eb.ok k1) (eb.kb k1 k2) ⟨⟨fun a x y => ?_, by rw [z2]; decide, by rw [z3]; decide, ?_, ?_⟩, z2, z3, ?_, fun a x y => ?_, fun w x y => ?_⟩ (by rw [F'113]; exact h4.2.1)
        · rw [eb.1.2.2.1] at y
          rw [z1 a x y]
          exact (kl a x y).2.2.2
        · rw [show (72 : Int) = 71 + 1 by decide, w1]; omega
        · rw [show (73 : Int) = 71 + 2 by decide, w2]; omega
        · rw [show (71 : Int) = 71 + 0 by decide, w0]; omega
        · rw [eb.1.2.2.1] at y
          rw [z1 a x y]
          exact (kl a x y).2.2.1
        · rw [z4 w x y]
          exact (ks w x y).1
      have eBrf : ∀ B : pd_F, eB B B := fun B => ⟨⟨rfl, rfl, rfl, rfl, rfl⟩, fun _ _ _ => ⟨rfl, rfl, rfl⟩, fun _ _ _ => rfl, fun _ _ _ => rfl, fun _ _ _ => ⟨rfl, rfl⟩, fun _ _ _ => ⟨rfl, rfl, rfl, rfl⟩, fun _ _ _ => ⟨rfl, rfl, rfl⟩⟩
      have na10 : ∀ G' : pd_F, Kf b F' (bn G') → 0 ≤ bn G' 371 0 ∧ bn G' 371 0 ≤ 10 := fun G' c5 => c5.2.1.2.1.2
      -- any row that fits
      have na1 := na10 G' c5
      obtain ⟨F1, m1, m2, m3, m4, m5, m6, m7, m8, m9, m10, m11⟩ := mk G' c5 (bn G') (eBrf _) (fun j => if j = 71 then sv (bn G') 0 else if j = 72 then sv (bn G') 1 else if j = 73 then sv (bn G') 2 else if j < bn G' 371 0 then bn G' 380 j else 0)
        (fun a x y => by show (if _ then _ else _) = _; rw [if_neg (by omega), if_neg (by omega), if_neg (by omega), if_pos y]) (by show (if _ then _ else _) = _; rw [if_neg (by decide), if_neg (by decide), if_neg (by decide), if_neg (by omega)]) (by show (if _ then _ else _) = _; rw [if_neg (by decide), if_neg (by decide), if_neg (by decide), if_neg (by omega)])
        (fun w x y => by
          have c : w = 0 ∨ w = 1 ∨ w = 2 := by omega
          rcases c with rfl | rfl | rfl
          · show (if _ then _ else _) = _; rw [if_pos (by decide)]
          · show (if _ then _ else _) = _; rw [if_neg (by decide), if_pos (by decide)]
          · show (if _ then _ else _) = _; rw [if_neg (by decide), if_neg (by decide), if_pos (by decide)])
      have e1F : ∀ a, 367 ≤ a → F1 a = F a := fun a x => by rw [m11 a x, r3 a (by omega) (by omega) (by omega)]
      -- now the reference, behind the class
      obtain ⟨F'', o1, o2, o3, o4⟩ := j_read f0 m2 hb e21 (G := F1) (tp := F 367 2) t1 (by rw [e1F 367 (by decide)]) (fun j x y => two F1 m2 e1F j x (by rw [e1F 367 (by decide)]; exact y)) hn
      rcases o4 with ⟨v', H, v0, d1, _⟩ | ⟨N', H, N1', d1, d2, d3, d4, d5⟩
      · rw [c1] at d1
        have := (Prod.mk.inj (Option.some.inj d1)).1
        omega
      rw [c1] at d1
      obtain ⟨eN, eF⟩ := Prod.mk.inj (Option.some.inj d1)
      subst eN eF
      have na2 := na10 H d5
      rw [bn_371] at na2
      have HB : ∀ k, 12 ≤ k → k < 24 → H 377 k = 0 ∨ H 377 k = 1 := fun k x y => d4.2.2.2.1 k (by rw [e1F 377 (by decide)]; exact x3 k x y)
      have H13 : pd_Ly (pd_up H 367 13 0) := d3.up (pl_rc4 sx_367 (by decide))
      obtain ⟨P, p1, p2, p3, ⟨p4, p5, p6, p7, p8⟩, ⟨p9, p10, p11⟩, p12, p13, ⟨p14, p15⟩, ⟨p16, p17, p18, p19⟩, ⟨p20, p21, p22⟩, p23⟩ := r_copies H13 (na := H 371 1) (fun k x y => by rw [pu_a (by decide)]; exact HB k x y) (by rw [pu_a (by decide)]) na2
      have u3 : ∀ a, a ≠ 367 → pd_up H 367 13 0 a = H a := fun a x => pu_a x
      have usv : ∀ w, sv (pd_up H 367 13 0) w = sv (bn H) w := fun w => by unfold sv; rw [bn_392, bn_391, u3 392 (by decide), u3 391 (by decide)]
      -- the keeps forgotten
      have hQ : ∃ Q, pfX12_book_b177 pd_SH 5000 5000 (pd_up (pd_up P 367 12 1) 367 41 0) 367 N 0 = some (N, Q) ∧ pd_Ly Q ∧ (∀ a, a ≠ 396 → Q a = pd_up (pd_up P 367 12 1) 367 41 0 a) ∧ ∀ k, 0 ≤ k → k < 3 → Q 396 k = 0 := by
        have gP : pd_Ly (pd_up (pd_up P 367 12 1) 367 41 0) := (p2.up (pl_rc4 sx_367 (by decide))).up (pl_rc4 sx_367 (by decide))
        refine pl_for (f := fun j (q : pd_F) i => pfX12_book_b177 pd_SH 5000 j q 367 N i) (P := fun i q => pd_Ly q ∧ (∀ a, a ≠ 396 → q a = pd_up (pd_up P 367 12 1) 367 41 0 a) ∧ ∀ k, 0 ≤ k → k < i → q 396 k = 0) (N := 3)
          (res := fun o => ∃ Q, o = some (N, Q) ∧ pd_Ly Q ∧ (∀ a, a ≠ 396 → Q a = pd_up (pd_up P 367 12 1) 367 41 0 a) ∧ ∀ k, 0 ≤ k → k < 3 → Q 396 k = 0) ?_ ?_ 5000 _ 0 (by omega) (by omega) (by omega) ⟨gP, fun _ _ => rfl, fun w x y => by omega⟩
        · intro k q i a0 b0 ⟨q1, q2, q3⟩
          refine Or.inl ⟨pd_up q 396 i 0, ⟨q1.up (pl_rc0 sx_396 (by decide)), fun a x => by rw [pu_a x]; exact q2 a x, fun w x y => ?_⟩, ?_⟩
          · rw [pu_r]
            by_cases e : w = i
            · rw [if_pos e]
            · rw [if_neg e]; exact q3 w x (by omega)
          · show pfX12_book_b177 pd_SH 5000 (k + 1) q 367 N i = _
            simp only [pfX12_book_b177, pl_l, pl_b, pl_iT, pl_t, pl_f, gx_367, gx_368, gx_369, gx_370, gx_371, gx_372, gx_373, gx_374, gx_375, gx_376, gx_377, gx_378, gx_379, gx_380, gx_381, gx_382, gx_383, gx_384, gx_385, gx_386, gx_387, gx_388, gx_389, gx_390, gx_391, gx_392, gx_393, gx_394, gx_395, gx_396, gx_397, gx_398, gx_399, gx_400, gx_401, gx_402, gx_403, gn_368, gn_369, gn_370, gn_371, gn_372, gn_373, gn_374, gn_375, gn_376, gn_377, gn_378, gn_379, gn_380, gn_381, gn_382, gn_383, gn_384, gn_385, gn_386, gn_387, gn_388, gn_389, gn_390, gn_391, gn_392, gn_393, gn_394, gn_395, gn_396, gn_397, gn_398, gn_399, gn_400, gn_401, gn_402, gn_403, lm_1 q1, lm_14 q1, lm_15 q1, lm_16 q1, lm_17 q1, lm_18 q1, lm_19 q1, lm_20 q1, lm_21 q1, lm_22 q1, lm_23 q1, lm_24 q1, lm_25 q1, lm_26 q1, lm_27 q1, lm_28 q1, lm_29 q1, lm_30 q1, lm_31 q1, lm_32 q1, lm_33 q1, lm_34 q1, lm_35 q1, lm_36 q1, lm_37 q1, lm_39 q1, lm_40 q1, lm_42 q1, lm_43 q1, lm_44 q1, lm_45 q1, lm_47 q1, lm_48 q1, lm_49 q1, lm_50 q1, lm_51 q1]
            rw [if_neg (by omega), pl_i (by omega), pl_w (by omega)]
        · intro k q ⟨q1, q2, q3⟩
          refine ⟨q, ?_, q1, q2, q3⟩
          show pfX12_book_b177 pd_SH 5000 (k + 1) q 367 N _ = _
          simp only [pfX12_book_b177]
          rw [if_pos (by decide)]
      obtain ⟨Q, j1, j2, j3, j4⟩ := hQ
      have eR : pfX12_book pd_SH 5000 F1 367 n = some (N, Q) := by
        rw [d2]
        unfold pfX12_book_b135
        simp only [pl_l, pl_b, pl_iT, pl_t, pl_f, gx_367, gx_368, gx_369, gx_370, gx_371, gx_372, gx_373, gx_374, gx_375, gx_376, gx_377, gx_378, gx_379, gx_380, gx_381, gx_382, gx_383, gx_384, gx_385, gx_386, gx_387, gx_388, gx_389, gx_390, gx_391, gx_392, gx_393, gx_394, gx_395, gx_396, gx_397, gx_398, gx_399, gx_400, gx_401, gx_402, gx_403, gn_368, gn_369, gn_370, gn_371, gn_372, gn_373, gn_374, gn_375, gn_376, gn_377, gn_378, gn_379, gn_380, gn_381, gn_382, gn_383, gn_384, gn_385, gn_386, gn_387, gn_388, gn_389, gn_390, gn_391, gn_392, gn_393, gn_394, gn_395, gn_396, gn_397, gn_398, gn_399, gn_400, gn_401, gn_402, gn_403, p1]
        rw [if_pos (show (1 : Int) ≠ 0 by decide)]
        exact j1
      have qa : ∀ a, a ≠ 367 → a ≠ 396 → Q a = P a := fun a x y => by rw [j3 a y, pu_a x, pu_a x]
      have qc : ∀ a, a < 367 → Q a = F1 a := fun a x => by rw [qa a (by omega) (by omega), p3 a (by omega), u3 a (by omega)]; exact d4.1 a (by omega) (by omega)
      have q367 : ∀ j, Q 367 j = if j = 41 then 0 else if j = 12 then 1 else pd_up H 367 13 0 367 j := fun j => by rw [j3 367 (by decide), pu_r, pu_r, p3 367 (by decide)]
      have cp : ∀ a m, bs a = m → a ≠ 367 → a ≠ 396 → cpR (pd_up H 367 13 0) P a m → ∀ j, 0 ≤ j → j < m → Q a j = bn H a j := fun a m hm x y z j u w => by
        rw [qa a x y, z j, if_pos ⟨u, w⟩, u3 a x]
        unfold bn
        rw [hm]
      have eb : eB (bn H) Q := by
        refine ⟨⟨?_, ?_, ?_, ?_, ?_⟩, fun p x y => ⟨cp 374 12 (by decide) (by decide) (by decide) p9 p x y, cp 375 12 (by decide) (by decide) (by decide) p10 p x y, cp 377 12 (by decide) (by decide) (by decide) p11 p x y⟩, fun j x y => cp 376 36 (by decide) (by decide) (by decide) p12 j x y, fun j x y => cp 381 15 (by decide) (by decide) (by decide) p13 j x y, fun j x y => ⟨cp 382 75 (by decide) (by decide) (by decide) p14 j x y, cp 383 75 (by decide) (by decide) (by decide) p15 j x y⟩, fun j x y => ⟨cp 384 6 (by decide) (by decide) (by decide) p16 j x y, cp 385 6 (by decide) (by decide) (by decide) p17 j x y, cp 386 6 (by decide) (by decide) (by decide) p18 j x y, cp 387 6 (by decide) (by decide) (by decide) p19 j x y⟩, fun j x y => ⟨cp 388 8 (by decide) (by decide) (by decide) p20 j x y, cp 389 8 (by decide) (by decide) (by decide) p21 j x y, cp 390 8 (by decide) (by decide) (by decide) p22 j x y⟩⟩
        · rw [qa 369 (by decide) (by decide), p4, u3 369 (by decide), bn_369]
        · rw [qa 370 (by decide) (by decide), p5, u3 370 (by decide), bn_370]
        · rw [qa 371 (by decide) (by decide), p6, u3 371 (by decide), bn_371]
        · rw [qa 372 (by decide) (by decide), p7, u3 372 (by decide), bn_372]
        · rw [qa 373 (by decide) (by decide), p8, u3 373 (by decide), bn_373]
      have q393 : ∀ j, 0 ≤ j → j < 111 → Q 393 j = if j = 71 then sv (bn H) 0 else if j = 72 then sv (bn H) 1 else if j = 73 then sv (bn H) 2 else if j < H 371 1 then H 380 (10 + j) else 0 := fun j x y => by
        rw [qa 393 (by decide) (by decide), p23 j x y, usv, usv, usv, u3 380 (by decide)]
      obtain ⟨k1, k2, k3⟩ := d5.ok
      obtain ⟨F1', n1, n2, n3, n4, n5, n6, n7, n8, n9, n10, n11⟩ := mk H d5 Q eb (Q 393)
        (fun a x y => by
          rw [bn_371] at y
          rw [q393 a x (by omega), if_neg (by omega), if_neg (by omega), if_neg (by omega), if_pos y, bn_380]) (by rw [q393 70 (by decide) (by decide), if_neg (by decide), if_neg (by decide), if_neg (by decide), if_neg (by omega)]) (by rw [q393 110 (by decide) (by decide), if_neg (by decide), if_neg (by decide), if_neg (by decide), if_neg (by omega)])
        (fun w x y => by
          have c : w = 0 ∨ w = 1 ∨ w = 2 := by omega
          rcases c with rfl | rfl | rfl
          · rw [q393 (71 + 0) (by decide) (by decide), if_pos (by decide)]
          · rw [q393 (71 + 1) (by decide) (by decide), if_neg (by decide), if_pos (by decide)]
          · rw [q393 (71 + 2) (by decide) (by decide), if_neg (by decide), if_neg (by decide), if_pos (by decide)])
      have eF1 : F1' = F1 := by
        rw [m1] at n1
        exact (Prod.mk.inj (Option.some.inj n1)).2.symm
      subst eF1
      have q1 : Q 1 = F1' 1 := qc 1 (by decide)
      refine ⟨Q, N, F1', Q, Q 393, m1, eR, ⟨j2, fun _ _ _ => rfl, rfl, eb.ok k1, n3.2.2.2.2.1.1⟩, n3.mv (eBrf Q) j2 q1 (fun a x => qc a (by rw [n4] at x; omega)), eb.dk k1 k3, ?_, ⟨?_, ?_, fun j x y => ?_⟩, ?_, ?_, ?_, fun j x y => ?_⟩
      · refine ⟨?_, by rw [qc 113 (by decide)]; exact m9, ?_, fun j x y => ?_, fun k x y => ⟨?_, fun w => absurd (j4 k x y) w⟩⟩
        · rw [qc 113 (by decide), m8, q367, if_pos rfl]
        · rw [q367, if_pos rfl]; decide
        · rw [q367, if_pos rfl] at y; omega
        · rw [qc 116 (by decide), m10 k x y, j4 k x y]
      · rw [q367, if_neg (by decide), if_neg (by decide), pu_r, if_neg (by decide), d4.2.2.2.2.2]; decide
      · rw [qc 3 (by decide), m7, q367, if_neg (by decide), if_neg (by decide), pu_r, if_neg (by decide), d4.2.2.2.2.2]
      · rw [q367, if_neg (by decide), if_neg (by decide), pu_r, if_neg (by decide), d4.2.2.2.2.2] at y; omega
      · rw [q1, m5, q367, if_neg (by decide), if_pos rfl]
      · rw [q1, m4, qc 2 (by decide), m6, F'18]; omega
      · intro k x y
        rw [qa 377 (by decide) (by decide), p11 k, if_neg (by omega), u3 377 (by decide)]
        exact HB k x y
      · rw [q367, if_neg (by decide), if_neg (by decide), pu_r, if_neg (by decide), d4.2.2.2.2.2] at y; omega
  · -- not so many bytes
    have eC : pfX11_book pd_SH 5000 F 1 n = some (-1, F) := by
      unfold pfX11_book
      by_cases z : n < 0
      · rw [if_pos z]
      · rw [if_neg z]
        simp only [pl_l, pl_b, pl_iT, pl_t, pl_f, gx_1, gx_2, gx_3, gx_4, gx_113, gx_114, gx_115, gx_116, gx_212, gx_213, gx_224, gn_4, gn_114, gn_115, gn_116, gn_213, gn_224, x11]
        rw [if_neg (by rw [t2]; omega)]
    have u2 : pd_up F 367 0 0 367 2 = F 367 2 := by rw [pu_r, if_neg (by decide)]
    have eR : pfX12_book pd_SH 5000 F 367 n = some (-1, pd_up F 367 0 0) := by
      unfold pfX12_book
      simp only [pl_l, pl_b, pl_iT, pl_t, pl_f, gx_367, gx_368, gx_369, gx_370, gx_371, gx_372, gx_373, gx_374, gx_375, gx_376, gx_377, gx_378, gx_379, gx_380, gx_381, gx_382, gx_383, gx_384, gx_385, gx_386, gx_387, gx_388, gx_389, gx_390, gx_391, gx_392, gx_393, gx_394, gx_395, gx_396, gx_397, gx_398, gx_399, gx_400, gx_401, gx_402, gx_403, gn_368, gn_369, gn_370, gn_371, gn_372, gn_373, gn_374, gn_375, gn_376, gn_377, gn_378, gn_379, gn_380, gn_381, gn_382, gn_383, gn_384, gn_385, gn_386, gn_387, gn_388, gn_389, gn_390, gn_391, gn_392, gn_393, gn_394, gn_395, gn_396, gn_397, gn_398, gn_399, gn_400, gn_401, gn_402, gn_403, u2, r_within]
      rw [if_neg hn, if_neg (by decide)]
    exact ⟨D, -1, F, _, s, eC, eR, h.q (h1.th 0).1 (qF.th F 0)⟩
end IB

/-! the class reads: trusts, accounts -/
section GR
variable {sT : pd_S} {b g l : Int} {F F' B : pd_F} {T : Int → Int} {N p q np nt na nh nl : Int} {u : List Int}
theorem z_settle {F8 : pd_F} {m : Int} (hb : aB b) (hZ : ZK b F B np nt na nh nl) (hgb : b + 34 + 4 * l = g) (hl : (0 ≤ l ∧ l < 5 ∧ nt = l) ∨ (5 ≤ l ∧ l < 15 ∧ na = l - 5)) (f8 : pd_Ly F8) (ff8 : ∀ a, a ≠ 3 → a ≠ g → a ≠ g + 1 → a ≠ g + 2 → F8 a = F a) (hm : F8 g 3 = m) (m0 : 0 ≤ m ∧ m ≤ 5) (hin : ∀ i, 0 ≤ i → i < m → ((0 ≤ F8 (g + 1) i ∧ F8 (g + 1) i < np) ∨ (12 ≤ F8 (g + 1) i ∧ F8 (g + 1) i < 12 + nt)) ∧ 0 ≤ F8 (g + 2) i ∧ F8 (g + 2) i ≤ 99) :
    ∃ H B', pfX2_settle (pd_SH sT) 5000 F8 g (b + 2) = some H ∧ pd_Ly H ∧ (∀ a, a ≠ g → a ≠ g + 3 → H a = F8 a) ∧ (∀ j, j ≠ 5 → j ≠ 6 → j ≠ 7 → H g j = F8 g j) ∧ kG B' H b l ∧ lOk np (B' 381) (B' 382) (B' 383) l nt ∧ (∀ a, a ≠ 381 → a ≠ 382 → a ≠ 383 → B' a = B a) ∧
      ∀ (G B2 : pd_F), (∀ a, a ≠ 3 → a ≠ b → a ≠ b + 4 → (a < g ∨ g + 3 < a) → G a = F a) → B2 381 = B' 381 → B2 382 = B' 382 → B2 383 = B' 383 → (∀ t, 0 ≤ t → t < nt → kG B2 G b t ∧ lOk np (B2 381) (B2 382) (B2 383) t t) ∧ ∀ a, 0 ≤ a → a < na → kG B2 G b (5 + a) ∧ lOk np (B2 381) (B2 382) (B2 383) (5 + a) nt := by
  have b5 := aB_5 hb
  have cb := hZ.bd
  obtain ⟨⟨e1, e2, e3, e4, e5⟩, -, ⟨kt1, kt2, kT, kA⟩, -⟩ := hZ
  rw [e2] at kT
  rw [e3] at kA
  rw [e1] at kT kA
  rw [e2] at kA
  obtain ⟨B0, hB0⟩ : ∃ B0 : pd_F, (fun a j => if a = 382 ∧ 5 * l ≤ j ∧ j < 5 * l + 5 then pcu (F8 (g + 1) (j - 5 * l)) else if a = 383 ∧ 5 * l ≤ j ∧ j < 5 * l + 5 then F8 (g + 2) (j - 5 * l) else B a j) = B0 := ⟨_, rfl⟩
  obtain ⟨B', hB'⟩ : ∃ B', pd_up B0 381 l m = B' := ⟨_, rfl⟩
  have R0 : ∀ a, a ≠ 381 → a ≠ 382 → a ≠ 383 → B' a = B a := fun a x y z => by
    rw [← hB', pu_a x, ← hB0]; funext j
    show (if _ then _ else if _ then _ else _) = _
    rw [if_neg (fun w => y w.1), if_neg (fun w => z w.1)]
  have R381 : ∀ j, B' 381 j = if j = l then m else B 381 j := fun j => by
    rw [← hB', pu_r, ← hB0]
    show (if j = l then m else if (381 : Int) = 382 ∧ _ then _ else if (381 : Int) = 383 ∧ _ then _ else _) = _
    rw [if_neg (show ¬ ((381 : Int) = 382 ∧ _) from fun w => absurd w.1 (by decide)), if_neg (show ¬ ((381 : Int) = 383 ∧ _) from fun w => absurd w.1 (by decide))]
  have R382 : ∀ j, B' 382 j = if 5 * l ≤ j ∧ j < 5 * l + 5 then pcu (F8 (g + 1) (j - 5 * l)) else B 382 j := fun j => by
    rw [← hB', pu_a (by decide), ← hB0]
    show (if (382 : Int) = 382 ∧ _ then _ else if (382 : Int) = 383 ∧ _ then _ else _) = _
    by_cases z : 5 * l ≤ j ∧ j < 5 * l + 5
    · rw [if_pos ⟨rfl, z⟩, if_pos z]
    · rw [if_neg (fun w => z w.2), if_neg (fun w => absurd w.1 (by decide)), if_neg z]
  have R383 : ∀ j, B' 383 j = if 5 * l ≤ j ∧ j < 5 * l + 5 then F8 (g + 2) (j - 5 * l) else B 383 j := fun j => by
    rw [← hB', pu_a (by decide), ← hB0]
    show (if (383 : Int) = 382 ∧ _ then _ else if (383 : Int) = 383 ∧ _ then _ else _) = _
    rw [if_neg (show ¬ ((383 : Int) = 382 ∧ _) from fun w => absurd w.1 (by decide))]
    by_cases z : 5 * l ≤ j ∧ j < 5 * l + 5
    · rw [if_pos ⟨rfl, z⟩, if_pos z]
    · rw [if_neg (fun w => z w.2), if_neg z]
  have L1 : ∀ k, Ls nt na k → B' 381 k = B 381 k := fun k y => by rw [R381, if_neg (by unfold Ls at y; omega)]
  have L2 : ∀ k i, Ls nt na k → 0 ≤ i → i < 5 → B' 382 (5 * k + i) = B 382 (5 * k + i) ∧ B' 383 (5 * k + i) = B 383 (5 * k + i) := fun k i y x0 x1 => by
    unfold Ls at y
    rw [R382, R383, if_neg (by omega), if_neg (by omega)]
    exact ⟨rfl, rfl⟩
  have T38 : ∀ i, 0 ≤ i → i < 5 → B' 382 (5 * l + i) = pcu (F8 (g + 1) i) ∧ B' 383 (5 * l + i) = F8 (g + 2) i := fun i x y => by
    rw [R382, R383, if_pos (by omega), if_pos (by omega), show 5 * l + i - 5 * l = i by omega]
    exact ⟨rfl, rfl⟩
  have T381 : B' 381 l = m := by rw [R381, if_pos rfl]
  have oN : lOk np (B' 381) (B' 382) (B' 383) l nt := by
    refine ⟨by rw [T381]; exact m0.1, by rw [T381]; exact m0.2, fun i x y => ?_⟩
    rw [T381] at y
    rw [(T38 i x (by omega)).1, (T38 i x (by omega)).2]
    obtain ⟨o1, o2⟩ := hin i x y
    refine ⟨?_, o2⟩
    unfold pcu
    by_cases z : F8 (g + 1) i < 12
    · rw [if_pos z]; omega
    · rw [if_neg z]; omega
  obtain ⟨c1, c2⟩ := lists_cg cb.1.2 kT (fun a x y => ⟨(kA a x y).1, (kA a x y).2.1⟩) (F' := F8) L1 L2 (fun k a y x0 x1 => by unfold Ls at y; exact ff8 a (by omega) (by omega) (by omega) (by omega))
  obtain ⟨H, v1, v2, v3, v4, v5⟩ := c_settle (sT := sT) (D := B') f8 hb (l := l) (nt := nt) (np := np) (by omega) cb.1.2 cb.2.1 (by omega) oN (fun t x y => ⟨(c1 t x y).2, (c1 t x y).1⟩) (by rw [hgb, T381]; exact hm) (fun i x y => by
    rw [T381] at y
    rw [hgb, (T38 i x (by omega)).1, (T38 i x (by omega)).2, pcl_pcu]
    exact ⟨rfl, rfl⟩)
  rw [hgb] at v1 v3 v4
  refine ⟨H, B', v1, v2, v3, v4, v5, oN, R0, fun G B2 ff9 r1 r2 r3 => ?_⟩
  exact lists_cg cb.1.2 kT (fun a x y => ⟨(kA a x y).1, (kA a x y).2.1⟩) (F' := G) (B' := B2) (fun k y => by rw [r1]; exact L1 k y) (fun k i y x0 x1 => by rw [r2, r3]; exact L2 k i y x0 x1) (fun k a y x0 x1 => by unfold Ls at y; exact ff9 a (by omega) (by omega) (by omega) (by omega))
theorem z_trust {ps : List (Int × Int × Int)} (h : ad F T N p) (hb : aB b) (h21 : F 2 1 = b) (hZ : ZK b F B np nt na nh nl) (cc : nt < 5) (hgp : gp np nt ps) (hl5 : (ps.length : Int) ≤ 5) (h3 : F 3 3 = q) (q0 : 0 ≤ q) (ht : atl T q ([32] ++ [116, 97 + nt] ++ (ptxt ps ++ [59]))) {e : Int} (he : e = q + 3 + (ptxt ps).length + 1) (hN : e ≤ N) :
    ∃ F' B', pfX6_readTrust (pd_SH sT) 5000 F 2 = some (1, F') ∧ ad F' T N e ∧ wF b F F' ∧ (∀ x, F' (b + 7) x = F (b + 7) x) ∧ ZK b F' B' np (nt + 1) na nh nl := by
  have b5 := aB_5 hb
  have cb := hZ.bd
  have cn := hZ.cn
  have h1 := h.1
  obtain ⟨s0, -, s2, -⟩ := sh_b (sT := sT) hb
  have l1 : ∀ {H : pd_F}, pd_Ly H → H b 1 = b + 2 := fun hH => (ly_b hH hb).2.1
  obtain ⟨g, hg⟩ : ∃ g, b + 34 + 4 * nt = g := ⟨_, rfl⟩
  have lt : F (b + 2) nt = g := by rw [← hg]; exact fy_tr h1 hb cb.2.1.1 cc
  obtain ⟨-, -, -, sg, sg1, sg2, sg3⟩ := fy_g (sT := sT) h1 hb (i := nt) cb.2.1.1 (by omega)
  rw [hg] at sg sg1 sg2 sg3
  have hgl : ∀ H : pd_F, pd_Ly H → H g 0 = g + 1 ∧ H g 1 = g + 2 := fun H hH => by
    obtain ⟨x1, x2, -⟩ := fy_g (sT := sT) hH hb (i := nt) cb.2.1.1 (by omega)
    rw [hg] at x1 x2
    exact ⟨x1, x2⟩
  have x1 : T q = 32 := atl_1 ht.l.l
  have x2 : atl T (q + 1) [116, 97 + nt] := ht.l.r rfl
  have x3 : atl T (q + 3) (ptxt ps ++ [59]) := ht.r (by simp only [List.length_append, List.length_cons, List.length_nil]; omega)
  have x30 := atl_0 x3 (by rw [List.length_append]; show 1 ≤ _ + 1; omega)
  have x3s : T (q + 3) = 32 ∨ T (q + 3) = 59 := by rw [x30]; exact ptxt_0
  have x4 : T (q + 3 + (ptxt ps).length) = 59 := atl_1 (x3.r rfl)
  obtain ⟨F1, a1, a2, a3⟩ := h.adv (sT := sT) h3 (by omega)
  have f1 := a2.1
  have Z1 := hZ.j hb a3
  obtain ⟨g1, g2, g3, g4⟩ := a2.nm (by decide) (by omega) x1 x2 (m := q + 3) rfl ⟨by omega, x3s⟩
  have new := z_new (sT := sT) a2 (by rw [a3.1 2 (by decide)]; exact h21) hb ⟨g1, g2⟩ (by omega) ((z_find a2.1 hb Z1).2.2.2 (by omega) (by omega) (by omega))
  obtain ⟨P, hP⟩ : ∃ P, pd_up (pd_up F1 g 4 (29793 + nt)) g 3 0 = P := ⟨_, rfl⟩
  have fP : pd_Ly P := by rw [← hP]; exact (f1.up (pl_rc4 sg (by decide))).up (pl_rc4 sg (by decide))
  have p3 : P g 3 = 0 := by rw [← hP, pu_r, if_pos rfl]
  have p4 : P g 4 = 29793 + nt := by rw [← hP, pu_r, if_neg (by decide), pu_r, if_pos rfl]
  have pa : ∀ a, a ≠ g → P a = F1 a := fun a y => by rw [← hP, pu_a y, pu_a y]
  have eB : pfX2_begin (pd_SH sT) 5000 F1 g (29793 + nt) = some P := by
    unfold pfX2_begin
    simp only [pl_l, pl_b, pl_iT, pl_t, pl_f, pl_ob sg, hP]
  have aP : ad P T N q := a2.up fP (pa 3 (by omega)) (pa 4 (by omega))
  obtain ⟨F3, b1, b2, b3⟩ := aP.adv (sT := sT) (q := q + 3) (by rw [pa 3 (by omega)]; exact g3) (by omega)
  have ff3 : ∀ a, a ≠ 3 → a ≠ g → F3 a = F a := fun a x y => by rw [b3.1 a x, pa a y, a3.1 a x]
  have Z3 : ZK b F3 B np nt na nh nl := by
    obtain ⟨⟨e1, e2, e3, e4, e5⟩, kk1, ⟨kt1, kt2, kt3, kt4⟩, kk3, kk4, kk5, kk6, kk7⟩ := id hZ
    rw [e1] at kt3 kt4
    rw [e2] at kt3
    rw [e3] at kt4
    have fr : ∀ x, b ≤ x → x ≠ g → F3 x = F x := fun x _ y => ff3 x (by omega) y
    refine ⟨⟨e1, e2, e3, e4, e5⟩, kk1.fr (by rw [fr b (by omega) (by omega)]) (by rw [fr b (by omega) (by omega)]) (fun x y z => fr x (by omega) (by omega)) rfl rfl rfl rfl rfl, ⟨by rw [fr b (by omega) (by omega)]; exact kt1, by rw [fr b (by omega) (by omega)]; exact kt2, fun t x y => ?_, fun t x y => ?_⟩, kk3.fr (by rw [fr b (by omega) (by omega)]) (fun x y z => fr x (by omega) (by omega)) (Int.le_refl _) rfl rfl rfl rfl rfl, kk4.fr (by rw [fr b (by omega) (by omega)]) (fun x y z => fr x (by omega) (by omega)) (Int.le_refl _) rfl rfl rfl rfl, kk5.fr (fr _ (by omega) (by omega)) rfl rfl, ⟨fun i x y => by rw [fr _ (by omega) (by omega)]; exact kk6.1 i x y, fun i x y => by rw [fr _ (by omega) (by omega)]; exact kk6.2.1 i x y, fun i x y => by rw [fr _ (by omega) (by omega)]; exact kk6.2.2 i x y⟩, kk7⟩
    · rw [e2] at y
      rw [e1]
      exact ⟨(kt3 t x y).1.fr (fun z v w => fr z (by omega) (by omega)) rfl rfl rfl, (kt3 t x y).2⟩
    · rw [e3] at y
      rw [e1, fr (b + 4) (by omega) (by omega)]
      exact ⟨(kt4 t x y).1.fr (fun z v w => fr z (by omega) (by omega)) rfl rfl rfl, (kt4 t x y).2⟩
  have F321 : F3 2 1 = b := by rw [ff3 2 (by omega) (by omega)]; exact h21
  have F3g : F3 g 3 = 0 := by rw [b3.1 g (by omega)]; exact p3
  obtain ⟨F5, d1, d2, d3, d4, d5⟩ := z_parts (sT := sT) hb sg sg1 sg2 hgl (l := nt) hg (Or.inl ⟨cb.2.1.1, cc, Int.le_refl _⟩) ps 5000 F3 (q + 3) 0 (by omega) b2 (by omega) F321 Z3 hgp F3g (Int.le_refl _) (by omega) (fun i x y => by omega) (fun i x y => by omega) x3 (by omega)
  have eM : pfX6_readParts (pd_SH sT) 5000 F3 2 g = some (1, F5) := d1
  obtain ⟨k10, k11⟩ := d2.semi (by omega) x4
  obtain ⟨F8, j1, j2, j3⟩ := d2.passEnd (sT := sT) (q := e) k10 (by omega) (by omega)
  have f8 := j2.1
  have ff8 : ∀ a, a ≠ 3 → a ≠ g → a ≠ g + 1 → a ≠ g + 2 → F8 a = F a := fun a x y z w => by rw [j3.1 a x, d3.1 a x y z w, ff3 a x y]
  have f8g : ∀ j, j ≠ 3 → F8 g j = P g j := fun j y => by rw [j3.1 g (by omega), d3.2.1 j y, b3.1 g (by omega)]
  have e82 : F8 2 1 = b := by rw [ff8 2 (by omega) (by omega) (by omega) (by omega)]; exact h21
  have f83 : F8 g 3 = ps.length := by rw [j3.1 g (by omega), d4]; omega
  obtain ⟨H, B', v1, v2, v3, v4, v5, v6, v7, v8⟩ := z_settle (sT := sT) (F8 := F8) hb hZ hg (Or.inl ⟨cb.2.1.1, cc, rfl⟩) f8 ff8 f83 (by omega) (fun i x y => by rw [j3.1 (g + 1) (by omega), j3.1 (g + 2) (by omega)]; exact d5 i x (by omega))
  have hb2 : H 2 1 = b := by rw [v3 2 (by omega) (by omega)]; exact e82
  have hb10 : H b 10 = nt := by rw [v3 b (by omega) (by omega), ff8 b (by omega) (by omega) (by omega) (by omega)]; exact cn.2.1
  have gf : pd_Ly (pd_up H b 10 (nt + 1)) := v2.up (pl_rc4 s0 (by decide))
  have ff9 : ∀ a, a ≠ 3 → a ≠ b → (a < g ∨ g + 3 < a) → pd_up H b 10 (nt + 1) a = F a := fun a x w q => by rw [pu_a w, v3 a (by omega) (by omega), ff8 a x (by omega) (by omega) (by omega)]
  have f9b : ∀ j, j ≠ 10 → pd_up H b 10 (nt + 1) b j = F b j := fun j y => by rw [pu_r, if_neg y, v3 b (by omega) (by omega), ff8 b (by omega) (by omega) (by omega) (by omega)]
  have f9g4 : pd_up H b 10 (nt + 1) g 4 = 29793 + nt := by rw [pu_a (by omega), v4 4 (by decide) (by decide) (by decide), f8g 4 (by decide)]; exact p4
  have Rb : ∀ a, a ≠ 370 → a ≠ 381 → a ≠ 382 → a ≠ 383 → pd_up B' 370 0 (nt + 1) a = B a := fun a x y z w => by rw [pu_a x]; exact v7 a y z w
  obtain ⟨e1, e2⟩ := v8 (pd_up H b 10 (nt + 1)) (pd_up B' 370 0 (nt + 1)) (fun a x y _ z => ff9 a x y z) (pu_a (by decide)) (pu_a (by decide)) (pu_a (by decide))
  have g2' : F1 3 8 = 29793 + nt := by rw [g2]; omega
  have Xf1 : F1 2 0 = 3 := lx_2_0 f1
  have XP : P 2 0 = 3 := lx_2_0 fP
  refine ⟨pd_up H b 10 (nt + 1), pd_up B' 370 0 (nt + 1), ?_, j2.up gf (by rw [pu_a (by omega), v3 3 (by omega) (by omega)]) (by rw [pu_a (by omega), v3 4 (by omega) (by omega)]), ⟨fun a x y => ff9 a x (by omega) (by omega), fun j x => by rw [pu_a (by omega), v3 3 (by omega) (by omega), j3.2 j x, d3.2.2 j x, b3.2 j x, pa 3 (by omega), a3.2 j x]⟩, fun x => by rw [ff9 _ (by omega) (by omega) (by omega)], ?_⟩
  · unfold pfX6_readTrust
    simp only [pl_l, pl_b, pl_iT, pl_t, pl_f, gx_1, gx_2, gx_3, gx_4, gx_113, gx_114, gx_115, gx_116, gx_212, gx_213, gx_224, gn_4, gn_114, gn_115, gn_116, gn_213, gn_224, lx_1_0 h1, lx_1_1 h1, lx_1_2 h1, lx_1_3 h1, lx_1_4 h1, lx_1_5 h1, lx_1_6 h1, lx_1_7 h1, lx_2_0 h1, lx_3_0 h1, lx_113_0 h1, lx_113_1 h1, lx_113_2 h1, lx_212_0 h1, lx_212_1 h1, h21, pl_ob s0, l1 h1]
    rw [if_pos (by rw [cn.2.1]; exact cc)]
    simp only [cn.2.1, pl_ib s2, lt]
    rw [pl_i (by omega), pl_i (by omega)]
    simp only [pl_l, pl_b, pl_iT, pl_t, pl_f, a1, new]
    rw [if_pos (show (1 : Int) ≠ 0 by decide)]
    simp only [Xf1, gx_1, gx_2, gx_3, gx_4, gx_113, gx_114, gx_115, gx_116, gx_212, gx_213, gx_224, gn_4, gn_114, gn_115, gn_116, gn_213, gn_224, pl_l, pl_b, pl_iT, pl_t, pl_f, pl_ob sg, g2', eB, XP, b1, eM]
    rw [if_neg (show ¬ (1 : Int) = 0 by decide)]
    simp only [pl_l, pl_b, pl_iT, pl_t, pl_f, j1]
    rw [if_pos (show (1 : Int) ≠ 0 by decide)]
    simp only [gx_1, gx_2, gx_3, gx_4, gx_113, gx_114, gx_115, gx_116, gx_212, gx_213, gx_224, gn_4, gn_114, gn_115, gn_116, gn_213, gn_224, pl_l, pl_b, pl_iT, pl_t, pl_f, e82, pl_ob s0, l1 f8, v1, hb2, hb10]
    rw [pl_w (by omega)]
  · obtain ⟨⟨m1, m2, m3, m4, m5⟩, kP, ⟨⟨k10, kn⟩, ⟨k11, kna⟩, kT, kA⟩, kH, kO, kS, kM, kk⟩ := id hZ
    have B370 : pd_up B' 370 0 (nt + 1) 370 0 = nt + 1 := by rw [pu_r, if_pos rfl]
    have r369 := Rb 369 (by decide) (by decide) (by decide) (by decide)
    have r371 := Rb 371 (by decide) (by decide) (by decide) (by decide)
    have r380 := Rb 380 (by decide) (by decide) (by decide) (by decide)
    refine ⟨⟨by rw [r369]; exact m1, B370, by rw [r371]; exact m3, by rw [Rb 372 (by decide) (by decide) (by decide) (by decide)]; exact m4, by rw [Rb 373 (by decide) (by decide) (by decide) (by decide)]; exact m5⟩,
      kP.fr (f9b 9 (by decide)) (f9b 14 (by decide)) (fun a y z => ff9 a (by omega) (by omega) (by omega)) (by rw [r369]) (Rb 374 (by decide) (by decide) (by decide) (by decide)) (Rb 375 (by decide) (by decide) (by decide) (by decide)) (Rb 376 (by decide) (by decide) (by decide) (by decide)) (Rb 377 (by decide) (by decide) (by decide) (by decide)),
      ⟨⟨by rw [B370, pu_r, if_pos rfl], by rw [B370]; omega⟩, ⟨by rw [f9b 11 (by decide), r371]; exact k11, by rw [r371]; exact kna⟩, fun t x y => ?_, fun a x y => ?_⟩,
      kH.fr (f9b 12 (by decide)) (fun a y z => ff9 a (by omega) (by omega) (by omega)) (by rw [r371]; exact Int.le_refl _) (by rw [Rb 372 (by decide) (by decide) (by decide) (by decide)]) (Rb 384 (by decide) (by decide) (by decide) (by decide)) (Rb 385 (by decide) (by decide) (by decide) (by decide)) (Rb 386 (by decide) (by decide) (by decide) (by decide)) (Rb 387 (by decide) (by decide) (by decide) (by decide)),
      kO.fr (f9b 13 (by decide)) (fun a y z => ff9 a (by omega) (by omega) (by omega)) (by rw [r369]; exact Int.le_refl _) (by rw [Rb 373 (by decide) (by decide) (by decide) (by decide)]) (Rb 388 (by decide) (by decide) (by decide) (by decide)) (Rb 389 (by decide) (by decide) (by decide) (by decide)) (Rb 390 (by decide) (by decide) (by decide) (by decide)),
      kS.fr (ff9 _ (by omega) (by omega) (by omega)) (Rb 391 (by decide) (by decide) (by decide) (by decide)) (Rb 392 (by decide) (by decide) (by decide) (by decide)), ⟨fun i x y => by rw [ff9 _ (by omega) (by omega) (by omega)]; exact kM.1 i x y, fun i x y => ?_, fun i x y => by rw [ff9 _ (by omega) (by omega) (by omega)]; exact kM.2.2 i x y⟩, fun i x y => by rw [Rb 375 (by decide) (by decide) (by decide) (by decide)]; exact kk i x y⟩
    · rw [B370] at y
      rw [r369, m1]
      by_cases ee : t = nt
      · rw [ee]
        exact ⟨v5.fr (fun a x y => pu_a (by omega)) (pu_a (by decide)) (pu_a (by decide)) (pu_a (by decide)), by rw [pu_a (show (381 : Int) ≠ 370 by decide), pu_a (show (382 : Int) ≠ 370 by decide), pu_a (show (383 : Int) ≠ 370 by decide)]; exact v6⟩
      · exact e1 t x (by omega)
    · rw [r371, m3] at y
      rw [r369, m1, B370, r380, ff9 (b + 4) (by omega) (by omega) (by omega)]
      obtain ⟨o1, o2⟩ := e2 a x y
      exact ⟨o1, lOk_mono o2 (Int.le_refl _) (by omega), (kA a x (by rw [m3]; exact y)).2.2⟩
    · by_cases ee : i = nt
      · rw [ee, hg]; exact f9g4
      · rw [ff9 _ (by omega) (by omega) (by omega)]; exact kM.2.1 i x (by omega)
theorem z_account {ps : List (Int × Int × Int)} {cents : Int} (h : ad F T N p) (hb : aB b) (h21 : F 2 1 = b) (hZ : ZK b F B np nt na nh nl) (cc : na < 10) (hgp : gp np nt ps) (hl5 : 1 ≤ (ps.length : Int) ∧ (ps.length : Int) ≤ 5) (hce : 0 ≤ cents ∧ cents < 10000) (h3 : F 3 3 = q) (q0 : 0 ≤ q) (ht : atl T q ([32] ++ [97, 97 + na] ++ [32] ++ [98, 97, 108, 97, 110, 99, 101] ++ [32] ++ dg cents ++ (ptxt ps ++ [59]))) {e : Int} (he : e = q + 12 + (dg cents).length + (ptxt ps).length + 1) (hN : e ≤ N) :
    ∃ F' B', pfX6_readAccount (pd_SH sT) 5000 F 2 = some (1, F') ∧ ad F' T N e ∧ wF b F F' ∧ (∀ x, F' (b + 7) x = F (b + 7) x) ∧ ZK b F' B' np nt (na + 1) nh nl := by
  have b5 := aB_5 hb
  have cb := hZ.bd
  have cn := hZ.cn
  have h1 := h.1
  obtain ⟨s0, -, -, s3, s4, -⟩ := sh_b (sT := sT) hb
  have l1 : ∀ {H : pd_F}, pd_Ly H → H b 1 = b + 2 ∧ H b 2 = b + 3 ∧ H b 3 = b + 4 := fun hH => ⟨(ly_b hH hb).2.1, (ly_b hH hb).2.2.1, (ly_b hH hb).2.2.2.1⟩
  obtain ⟨g, hg⟩ : ∃ g, b + 34 + 4 * (5 + na) = g := ⟨_, rfl⟩
  have lt : F (b + 3) na = g := by rw [← hg]; exact fy_ac h1 hb cb.2.2.1.1 cc
  obtain ⟨-, -, -, sg, sg1, sg2, sg3⟩ := fy_g (sT := sT) h1 hb (i := 5 + na) (by omega) (by omega)
  rw [hg] at sg sg1 sg2 sg3
  have hgl : ∀ H : pd_F, pd_Ly H → H g 0 = g + 1 ∧ H g 1 = g + 2 := fun H hH => by
    obtain ⟨x1, x2, -⟩ := fy_g (sT := sT) hH hb (i := 5 + na) (by omega) (by omega)
    rw [hg] at x1 x2
    exact ⟨x1, x2⟩
  have dl := dg_lenB (v := cents)
  have x1 : T q = 32 := atl_1 ht.l.l.l.l.l.l
  have x2 : atl T (q + 1) [97, 97 + na] := ht.l.l.l.l.l.r rfl
  have x3 : T (q + 3) = 32 := atl_1 (ht.l.l.l.l.r (by simp only [List.length_append, List.length_cons, List.length_nil]; omega))
  have x4 : atl T (q + 4) [98, 97, 108, 97, 110, 99, 101] := ht.l.l.l.r (by simp only [List.length_append, List.length_cons, List.length_nil]; omega)
  have x5 : T (q + 11) = 32 := atl_1 (ht.l.l.r (by simp only [List.length_append, List.length_cons, List.length_nil]; omega))
  have x6 : atl T (q + 11 + 1) (dg cents) := ht.l.r (by simp only [List.length_append, List.length_cons, List.length_nil]; omega)
  have x7 : atl T (q + 12 + (dg cents).length) (ptxt ps ++ [59]) := ht.r (by simp only [List.length_append, List.length_cons, List.length_nil]; omega)
  have x70 := atl_0 x7 (by rw [List.length_append]; show 1 ≤ _ + 1; omega)
  have x7s : T (q + 12 + (dg cents).length) = 32 ∨ T (q + 12 + (dg cents).length) = 59 := by rw [x70]; exact ptxt_0
  have x8 : T (q + 12 + (dg cents).length + (ptxt ps).length) = 59 := atl_1 (x7.r rfl)
  obtain ⟨F1, a1, a2, a3⟩ := h.adv (sT := sT) h3 (by omega)
  have f1 := a2.1
  have Z1 := hZ.j hb a3
  obtain ⟨g1, g2, g3, g4⟩ := a2.nm (by decide) (by omega) x1 x2 (m := q + 3) rfl ⟨by omega, Or.inl x3⟩
  have new := z_new (sT := sT) a2 (by rw [a3.1 2 (by decide)]; exact h21) hb ⟨g1, g2⟩ (by omega) ((z_find a2.1 hb Z1).2.2.2 (by omega) (by omega) (by omega))
  obtain ⟨P, hP⟩ : ∃ P, pd_up (pd_up F1 g 4 (24929 + na)) g 3 0 = P := ⟨_, rfl⟩
  have fP : pd_Ly P := by rw [← hP]; exact (f1.up (pl_rc4 sg (by decide))).up (pl_rc4 sg (by decide))
  have p3 : P g 3 = 0 := by rw [← hP, pu_r, if_pos rfl]
  have p4 : P g 4 = 24929 + na := by rw [← hP, pu_r, if_neg (by decide), pu_r, if_pos rfl]
  have pa : ∀ a, a ≠ g → P a = F1 a := fun a y => by rw [← hP, pu_a y, pu_a y]
  have eB : pfX2_begin (pd_SH sT) 5000 F1 g (24929 + na) = some P := by
    unfold pfX2_begin
    simp only [pl_l, pl_b, pl_iT, pl_t, pl_f, pl_ob sg, hP]
  have aP : ad P T N q := a2.up fP (pa 3 (by omega)) (pa 4 (by omega))
  obtain ⟨F2, b1, b2, b3⟩ := aP.adv (sT := sT) (q := q + 3) (by rw [pa 3 (by omega)]; exact g3) (by omega)
  obtain ⟨k4, k5, k6, -⟩ := b2.word (q := q + 4) (Or.inr ⟨by omega, x3⟩) x4 (by unfold lets; decide) (by decide) ⟨by show _ + (7 : Int) < N; omega, Or.inl (by show T (q + 4 + (7 : Int)) = 32; rw [show q + 4 + (7 : Int) = q + 11 by omega]; exact x5)⟩
  obtain ⟨Fa, y1, y2, y3⟩ := b2.pass (sT := sT) (w := 27691665836630885) (q := q + 11) ⟨k4, k5⟩ (by rw [k6]; show q + 4 + (7 : Int) = q + 11; omega) (by omega)
  obtain ⟨k7, k8, k9⟩ := y2.dg (v := cents) hce x5 x6 (m := q + 12 + (dg cents).length) (by omega) ⟨by omega, x7s⟩
  obtain ⟨F3, y4, y5, y6⟩ := y2.take (sT := sT) (lo := 0) (hi := 9999999) ⟨k7, k8⟩ (by omega) k9 (by omega)
  have jj := (b3.tr y3).tr y6
  have ff3 : ∀ a, a ≠ 3 → a ≠ g → F3 a = F a := fun a x y => by rw [jj.1 a x, pa a y, a3.1 a x]
  have Z3 : ZK b F3 B np nt na nh nl := by
    obtain ⟨⟨e1, e2, e3, e4, e5⟩, kk1, ⟨kt1, kt2, kt3, kt4⟩, kk3, kk4, kk5, kk6, kk7⟩ := id hZ
    rw [e1] at kt3 kt4
    rw [e2] at kt3
    rw [e3] at kt4
    have fr : ∀ x, b ≤ x → x ≠ g → F3 x = F x := fun x _ y => ff3 x (by omega) y
    refine ⟨⟨e1, e2, e3, e4, e5⟩, kk1.fr (by rw [fr b (by omega) (by omega)]) (by rw [fr b (by omega) (by omega)]) (fun x y z => fr x (by omega) (by omega)) rfl rfl rfl rfl rfl, ⟨by rw [fr b (by omega) (by omega)]; exact kt1, by rw [fr b (by omega) (by omega)]; exact kt2, fun t x y => ?_, fun t x y => ?_⟩, kk3.fr (by rw [fr b (by omega) (by omega)]) (fun x y z => fr x (by omega) (by omega)) (Int.le_refl _) rfl rfl rfl rfl rfl, kk4.fr (by rw [fr b (by omega) (by omega)]) (fun x y z => fr x (by omega) (by omega)) (Int.le_refl _) rfl rfl rfl rfl, kk5.fr (fr _ (by omega) (by omega)) rfl rfl, ⟨fun i x y => by rw [fr _ (by omega) (by omega)]; exact kk6.1 i x y, fun i x y => by rw [fr _ (by omega) (by omega)]; exact kk6.2.1 i x y, fun i x y => by rw [fr _ (by omega) (by omega)]; exact kk6.2.2 i x y⟩, kk7⟩
    · rw [e2] at y
      rw [e1]
      exact ⟨(kt3 t x y).1.fr (fun z v w => fr z (by omega) (by omega)) rfl rfl rfl, (kt3 t x y).2⟩
    · rw [e3] at y
      rw [e1, fr (b + 4) (by omega) (by omega)]
      exact ⟨(kt4 t x y).1.fr (fun z v w => fr z (by omega) (by omega)) rfl rfl rfl, (kt4 t x y).2⟩
  have F321 : F3 2 1 = b := by rw [ff3 2 (by omega) (by omega)]; exact h21
  have F3g : F3 g 3 = 0 := by rw [jj.1 g (by omega)]; exact p3
  obtain ⟨F5, d1, d2, d3, d4, d5⟩ := z_parts (sT := sT) hb sg sg1 sg2 hgl (l := 5 + na) hg (Or.inr ⟨by omega, by omega, by omega⟩) ps 5000 F3 (q + 12 + (dg cents).length) 0 (by omega) y5 (by omega) F321 Z3 hgp F3g (Int.le_refl _) (by omega) (fun i x y => by omega) (fun i x y => by omega) x7 (by omega)
  have eM : pfX6_readParts (pd_SH sT) 5000 F3 2 g = some (1, F5) := d1
  obtain ⟨k10, k11⟩ := d2.semi (by omega) x8
  obtain ⟨F8, j1, j2, j3⟩ := d2.passEnd (sT := sT) (q := e) k10 (by omega) (by omega)
  have f8 := j2.1
  have ff8 : ∀ a, a ≠ 3 → a ≠ g → a ≠ g + 1 → a ≠ g + 2 → F8 a = F a := fun a x y z w => by rw [j3.1 a x, d3.1 a x y z w, ff3 a x y]
  have f8g : ∀ j, j ≠ 3 → F8 g j = P g j := fun j y => by rw [j3.1 g (by omega), d3.2.1 j y, jj.1 g (by omega)]
  have e82 : F8 2 1 = b := by rw [ff8 2 (by omega) (by omega) (by omega) (by omega)]; exact h21
  have f53 : F5 g 3 = ps.length := by rw [d4]; omega
  have f83 : F8 g 3 = ps.length := by rw [j3.1 g (by omega)]; exact f53
  obtain ⟨H, B', v1, v2, v3, v4, v5, v6, v7, v8⟩ := z_settle (sT := sT) (F8 := F8) (l := 5 + na) hb hZ hg (Or.inr ⟨by omega, by omega, by omega⟩) f8 ff8 f83 (by omega) (fun i x y => by rw [j3.1 (g + 1) (by omega), j3.1 (g + 2) (by omega)]; exact d5 i x (by omega))
  have hb2 : H 2 1 = b := by rw [v3 2 (by omega) (by omega)]; exact e82
  have hb11 : H b 11 = na := by rw [v3 b (by omega) (by omega), ff8 b (by omega) (by omega) (by omega) (by omega)]; exact cn.2.2.1
  have gH : pd_Ly (pd_up H (b + 4) na cents) := v2.up (pl_rc0 s4 (by decide))
  have gf : pd_Ly (pd_up (pd_up H (b + 4) na cents) b 11 (na + 1)) := gH.up (pl_rc4 s0 (by decide))
  obtain ⟨F9, hF9⟩ : ∃ F9, pd_up (pd_up H (b + 4) na cents) b 11 (na + 1) = F9 := ⟨_, rfl⟩
  rw [hF9] at gf
  have ff9 : ∀ a, a ≠ 3 → a ≠ b → a ≠ b + 4 → (a < g ∨ g + 3 < a) → F9 a = F a := fun a x w y q => by rw [← hF9, pu_a w, pu_a y, v3 a (by omega) (by omega), ff8 a x (by omega) (by omega) (by omega)]
  have f9b : ∀ j, j ≠ 11 → F9 b j = F b j := fun j y => by rw [← hF9, pu_r, if_neg y, pu_a (by omega), v3 b (by omega) (by omega), ff8 b (by omega) (by omega) (by omega) (by omega)]
  have f94 : ∀ j, F9 (b + 4) j = if j = na then cents else F (b + 4) j := fun j => by rw [← hF9, pu_a (by omega), pu_r, v3 (b + 4) (by omega) (by omega), ff8 (b + 4) (by omega) (by omega) (by omega) (by omega)]
  have f9H : ∀ a, a ≠ b → a ≠ b + 4 → F9 a = H a := fun a x y => by rw [← hF9, pu_a x, pu_a y]
  have f9g4 : F9 g 4 = 24929 + na := by rw [f9H g (by omega) (by omega), v4 4 (by decide) (by decide) (by decide), f8g 4 (by decide)]; exact p4
  obtain ⟨B2, hB2⟩ : ∃ B2, pd_up (pd_up B' 371 0 (na + 1)) 380 na cents = B2 := ⟨_, rfl⟩
  have Rb : ∀ a, a ≠ 371 → a ≠ 380 → a ≠ 381 → a ≠ 382 → a ≠ 383 → B2 a = B a := fun a x y z w v => by rw [← hB2, pu_a y, pu_a x]; exact v7 a z w v
  have q381 : B2 381 = B' 381 := by rw [← hB2, pu_a (by decide), pu_a (by decide)]
  have q382 : B2 382 = B' 382 := by rw [← hB2, pu_a (by decide), pu_a (by decide)]
  have q383 : B2 383 = B' 383 := by rw [← hB2, pu_a (by decide), pu_a (by decide)]
  have B371 : B2 371 0 = na + 1 := by rw [← hB2, pu_a (by decide), pu_r, if_pos rfl]
  have B380 : ∀ j, B2 380 j = if j = na then cents else B 380 j := fun j => by rw [← hB2, pu_r, pu_a (by decide), v7 380 (by decide) (by decide) (by decide)]
  obtain ⟨e1, e2⟩ := v8 F9 B2 ff9 q381 q382 q383
  have g2' : F1 3 8 = 24929 + na := by rw [g2]; omega
  have Xf1 : F1 2 0 = 3 := lx_2_0 f1
  have XP : P 2 0 = 3 := lx_2_0 fP
  refine ⟨F9, B2, ?_, j2.up gf (by rw [f9H 3 (by omega) (by omega), v3 3 (by omega) (by omega)]) (by rw [f9H 4 (by omega) (by omega), v3 4 (by omega) (by omega)]), ⟨fun a x y => ff9 a x (by omega) (by omega) (by omega), fun j x => by rw [f9H 3 (by omega) (by omega), v3 3 (by omega) (by omega), j3.2 j x, d3.2.2 j x, jj.2 j x, pa 3 (by omega), a3.2 j x]⟩, fun x => by rw [ff9 _ (by omega) (by omega) (by omega) (by omega)], ?_⟩
  · unfold pfX6_readAccount
    simp only [pl_l, pl_b, pl_iT, pl_t, pl_f, gx_1, gx_2, gx_3, gx_4, gx_113, gx_114, gx_115, gx_116, gx_212, gx_213, gx_224, gn_4, gn_114, gn_115, gn_116, gn_213, gn_224, lx_1_0 h1, lx_1_1 h1, lx_1_2 h1, lx_1_3 h1, lx_1_4 h1, lx_1_5 h1, lx_1_6 h1, lx_1_7 h1, lx_2_0 h1, lx_3_0 h1, lx_113_0 h1, lx_113_1 h1, lx_113_2 h1, lx_212_0 h1, lx_212_1 h1, h21, pl_ob s0, (l1 h1).2.1]
    rw [if_pos (by rw [cn.2.2.1]; exact cc)]
    simp only [cn.2.2.1, pl_ib s3, lt]
    rw [pl_i (by omega), pl_i (by omega)]
    simp only [pl_l, pl_b, pl_iT, pl_t, pl_f, a1, new]
    rw [if_pos (show (1 : Int) ≠ 0 by decide)]
    simp only [Xf1, gx_1, gx_2, gx_3, gx_4, gx_113, gx_114, gx_115, gx_116, gx_212, gx_213, gx_224, gn_4, gn_114, gn_115, gn_116, gn_213, gn_224, pl_l, pl_b, pl_iT, pl_t, pl_f, pl_ob sg, g2', eB, XP, b1, y1]
    rw [if_pos (show (1 : Int) ≠ 0 by decide)]
    simp only [pl_l, pl_b, pl_iT, pl_t, pl_f, y4]
    rw [if_neg (show ¬ cents = -1 by omega)]
    simp only [pl_l, pl_b, pl_iT, pl_t, pl_f, eM]
    rw [if_pos (show (1 : Int) ≠ 0 by decide), f53, if_pos (by omega)]
    simp only [pl_l, pl_b, pl_iT, pl_t, pl_f, j1]
    rw [if_pos (show (1 : Int) ≠ 0 by decide)]
    have hb2' : pd_up H (b + 4) na cents 2 1 = b := by rw [pu_a (by omega)]; exact hb2
    have hb11' : pd_up H (b + 4) na cents b 11 = na := by rw [pu_a (by omega)]; exact hb11
    simp only [gx_1, gx_2, gx_3, gx_4, gx_113, gx_114, gx_115, gx_116, gx_212, gx_213, gx_224, gn_4, gn_114, gn_115, gn_116, gn_213, gn_224, pl_l, pl_b, pl_iT, pl_t, pl_f, e82, pl_ob s0, (l1 f8).1, v1, hb2, (l1 v2).2.2, hb11, pl_ib s4, hb2', hb11']
    rw [pl_i (by omega), pl_w (by omega), hF9]
  · obtain ⟨⟨m1, m2, m3, m4, m5⟩, kP, ⟨⟨k10, kn⟩, ⟨k11, kna⟩, kT, kA⟩, kH, kO, kS, kM, kk⟩ := id hZ
    have r369 := Rb 369 (by decide) (by decide) (by decide) (by decide) (by decide)
    have r370 := Rb 370 (by decide) (by decide) (by decide) (by decide) (by decide)
    refine ⟨⟨by rw [r369]; exact m1, by rw [r370]; exact m2, B371, by rw [Rb 372 (by decide) (by decide) (by decide) (by decide) (by decide)]; exact m4, by rw [Rb 373 (by decide) (by decide) (by decide) (by decide) (by decide)]; exact m5⟩,
      kP.fr (f9b 9 (by decide)) (f9b 14 (by decide)) (fun a y z => ff9 a (by omega) (by omega) (by omega) (by omega)) (by rw [r369]) (Rb 374 (by decide) (by decide) (by decide) (by decide) (by decide)) (Rb 375 (by decide) (by decide) (by decide) (by decide) (by decide)) (Rb 376 (by decide) (by decide) (by decide) (by decide) (by decide)) (Rb 377 (by decide) (by decide) (by decide) (by decide) (by decide)),
      ⟨⟨by rw [f9b 10 (by decide), r370]; exact k10, by rw [r370]; exact kn⟩, ⟨by rw [B371, ← hF9, pu_r, if_pos rfl], by rw [B371]; omega⟩, fun t x y => ?_, fun a x y => ?_⟩,
      kH.fr (f9b 12 (by decide)) (fun a y z => ff9 a (by omega) (by omega) (by omega) (by omega)) (by rw [B371, m3]; omega) (by rw [Rb 372 (by decide) (by decide) (by decide) (by decide) (by decide)]) (Rb 384 (by decide) (by decide) (by decide) (by decide) (by decide)) (Rb 385 (by decide) (by decide) (by decide) (by decide) (by decide)) (Rb 386 (by decide) (by decide) (by decide) (by decide) (by decide)) (Rb 387 (by decide) (by decide) (by decide) (by decide) (by decide)),
      kO.fr (f9b 13 (by decide)) (fun a y z => ff9 a (by omega) (by omega) (by omega) (by omega)) (by rw [r369]; exact Int.le_refl _) (by rw [Rb 373 (by decide) (by decide) (by decide) (by decide) (by decide)]) (Rb 388 (by decide) (by decide) (by decide) (by decide) (by decide)) (Rb 389 (by decide) (by decide) (by decide) (by decide) (by decide)) (Rb 390 (by decide) (by decide) (by decide) (by decide) (by decide)),
      kS.fr (ff9 _ (by omega) (by omega) (by omega) (by omega)) (Rb 391 (by decide) (by decide) (by decide) (by decide) (by decide)) (Rb 392 (by decide) (by decide) (by decide) (by decide) (by decide)), ⟨fun i x y => by rw [ff9 _ (by omega) (by omega) (by omega) (by omega)]; exact kM.1 i x y, fun i x y => by rw [ff9 _ (by omega) (by omega) (by omega) (by omega)]; exact kM.2.1 i x y, fun i x y => ?_⟩, fun i x y => by rw [Rb 375 (by decide) (by decide) (by decide) (by decide) (by decide)]; exact kk i x y⟩
    · rw [r370, m2] at y
      rw [r369, m1]
      exact e1 t x y
    · rw [B371] at y
      rw [r369, m1, r370, m2, f94, B380]
      by_cases ee : a = na
      · rw [ee, if_pos rfl, if_pos rfl]
        exact ⟨v5.fr (fun a x y => f9H a (by omega) (by omega)) q381 q382 q383, by rw [q381, q382, q383]; exact v6, rfl, hce.1, by omega⟩
      · rw [if_neg ee, if_neg ee]
        obtain ⟨o1, o2⟩ := e2 a x (by omega)
        exact ⟨o1, o2, (kA a x (by rw [m3]; omega)).2.2⟩
    · by_cases ee : i = na
      · rw [ee, hg]; exact f9g4
      · rw [ff9 _ (by omega) (by omega) (by omega) (by omega)]; exact kM.2.2 i x (by omega)
end GR

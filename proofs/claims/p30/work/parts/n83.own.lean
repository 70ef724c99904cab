/-! the class reads: a person's line -/
section PL3
variable {sT : pd_S} {b c : Int} {F F' B : pd_F} {T : Int → Int} {N p q np nt na nh nl : Int} {u : List Int}
theorem z_personEnd {F7 : pd_F} {t e : Int} (hb : aB b) (h21 : F 2 1 = b) (hZ : ZK b F B np nt na nh nl) (hnp : np < 12) (hc : b + 10 + 2 * np = c) (h : ad F7 T N e) (he : e < N) (h59 : T e = 59) (ff7 : ∀ a, a ≠ 3 → a ≠ c → a ≠ c + 1 → F7 a = F a) (fr3 : ∀ j, (j < 3 ∨ 8 < j) → F7 3 j = F 3 j) (p2 : F7 c 2 = 28769 + np) (p3 : F7 c 3 = 15) (p4 : F7 c 4 = t) (ht : t = 0 ∨ t = 1) (hk : 1 ≤ F7 c 1 ∧ F7 c 1 ≤ 3) :
    ∃ F' B', pfX6_readPerson_b113 (pd_SH sT) 5000 F7 2 = some (1, F') ∧ ad F' T N (e + 1) ∧ wF b F F' ∧ (∀ x, F' (b + 7) x = F (b + 7) x) ∧ ZK b F' B' (np + 1) nt na nh nl := by
  have b5 := aB_5 hb
  have cb := hZ.bd
  have cn := hZ.cn
  obtain ⟨s0, s1, -⟩ := sh_b (sT := sT) hb
  obtain ⟨⟨m1, m2, m3, m4, m5⟩, ⟨k9, kn, kps, kkm, k14⟩, k2, k3, k4, k5, k6, k7⟩ := id hZ
  rw [m1] at k9 kn kps k14
  obtain ⟨k10, k11⟩ := h.semi he h59
  obtain ⟨F8, j1, j2, j3⟩ := h.passEnd (sT := sT) (q := e + 1) k10 k11 (by have := h.2.2.2.1; have := he; unfold ad at h; omega)
  have f8 := j2.1
  have ff8 : ∀ a, a ≠ 3 → a ≠ c → a ≠ c + 1 → F8 a = F a := fun a y z w => (j3.1 a y).trans (ff7 a y z w)
  have e82 : F8 2 1 = b := by rw [ff8 2 (by omega) (by omega) (by omega)]; exact h21
  have f8c : F8 c = F7 c := j3.1 c (by omega)
  have f8c1 : F8 (c + 1) = F7 (c + 1) := j3.1 _ (by omega)
  have f8b : F8 b = F b := ff8 b (by omega) (by omega) (by omega)
  have X8 : kX F8 b (fun q m => (0 ≤ q ∧ q < B 369 0) ∧ Hk (B 375) (B 376) q m) := kX_fr (kM_kX kkm) (by rw [f8b]) (ff8 _ (by omega) (by omega) (by omega)) (ff8 _ (by omega) (by omega) (by omega))
  obtain ⟨F9, n1', n2, n3, n4, n5, n6, n7⟩ := c_addPerson (sT := sT) f8 hb X8 (np := np) (c := c) (by rw [f8b]; exact k9) ⟨kn.1, hnp⟩ hc (by rw [f8c]; omega) (by rw [f8b]; exact k14)
  obtain ⟨B0, hB0⟩ : ∃ B0 : pd_F, (fun a j => if a = 376 ∧ 3 * np ≤ j ∧ j < 3 * np + 3 then F7 (c + 1) (j - 3 * np) else B a j) = B0 := ⟨_, rfl⟩
  obtain ⟨B', hB'⟩ : ∃ B', pd_up (pd_up (pd_up (pd_up B0 374 np (513 + np)) 375 np (F7 c 1)) 377 np t) 369 0 (np + 1) = B' := ⟨_, rfl⟩
  have r0 : ∀ a, a ≠ 376 → B0 a = B a := fun a x => by rw [← hB0]; funext j; show (if _ then _ else _) = _; rw [if_neg (fun z => x z.1)]
  have R374 : ∀ j, B' 374 j = if j = np then 513 + np else B 374 j := fun j => by rw [← hB', pu_a (by decide), pu_a (by decide), pu_a (by decide), pu_r, r0 374 (by decide)]
  have R375 : ∀ j, B' 375 j = if j = np then F7 c 1 else B 375 j := fun j => by rw [← hB', pu_a (by decide), pu_a (by decide), pu_r, pu_a (by decide), r0 375 (by decide)]
  have R376 : ∀ j, B' 376 j = if 3 * np ≤ j ∧ j < 3 * np + 3 then F7 (c + 1) (j - 3 * np) else B 376 j := fun j => by
    rw [← hB', pu_a (by decide), pu_a (by decide), pu_a (by decide), pu_a (by decide), ← hB0]
    show (if (376 : Int) = 376 ∧ _ then _ else _) = _
    by_cases z : 3 * np ≤ j ∧ j < 3 * np + 3
    · rw [if_pos ⟨rfl, z⟩, if_pos z]
    · rw [if_neg (fun y => z y.2), if_neg z]
  have R377 : ∀ j, B' 377 j = if j = np then t else B 377 j := fun j => by rw [← hB', pu_a (by decide), pu_r, pu_a (by decide), pu_a (by decide), r0 377 (by decide)]
  have R369 : B' 369 0 = np + 1 := by rw [← hB', pu_r, if_pos rfl]
  have Rb : ∀ a, (370 ≤ a ∧ a ≤ 373) ∨ 378 ≤ a → B' a = B a := fun a y => by rw [← hB', pu_a (by omega), pu_a (by omega), pu_a (by omega), pu_a (by omega), r0 a (by omega)]
  have ff9 : ∀ a, a ≠ 3 → a ≠ c → a ≠ c + 1 → a ≠ b → a ≠ b + 8 → a ≠ b + 9 → F9 a = F a := fun a q2 q3 q4 q5 q6 q7 => (n3 a q5 q6 q7).trans (ff8 a q2 q3 q4)
  have f9b : ∀ j, j ≠ 9 → j ≠ 14 → F9 b j = F b j := fun j y z => by rw [n4 j y z, f8b]
  have f9c : F9 c = F7 c := (n3 c (by omega) (by omega) (by omega)).trans f8c
  have f9c1 : F9 (c + 1) = F7 (c + 1) := (n3 (c + 1) (by omega) (by omega) (by omega)).trans f8c1
  have hkold : ∀ q m, 0 ≤ q → q < np → (Hk (B' 375) (B' 376) q m ↔ Hk (B 375) (B 376) q m) := fun q m q0 q1 => by
    have e5 : B' 375 q = B 375 q := by rw [R375, if_neg (by omega)]
    have bd := (kps q q0 q1).2.1
    unfold Hk
    rw [e5]
    constructor
    · rintro ⟨i, u, v, w⟩
      rw [R376, if_neg (by omega)] at w
      exact ⟨i, u, v, w⟩
    · rintro ⟨i, u, v, w⟩
      refine ⟨i, u, v, ?_⟩
      rw [R376, if_neg (by omega)]
      exact w
  have hknew : ∀ m, (∃ i, 0 ≤ i ∧ i < F8 c 1 ∧ F8 (c + 1) i = m) ↔ Hk (B' 375) (B' 376) np m := fun m => by
    unfold Hk
    rw [R375, if_pos rfl, f8c, f8c1]
    constructor
    · rintro ⟨i, u, v, w⟩
      refine ⟨i, u, v, ?_⟩
      rw [R376, if_pos (by omega), show 3 * np + i - 3 * np = i by omega]
      exact w
    · rintro ⟨i, u, v, w⟩
      refine ⟨i, u, v, ?_⟩
      rw [R376, if_pos (by omega), show 3 * np + i - 3 * np = i by omega] at w
      exact w
  have KM : kM B' F9 b := by
    refine kX_kM (by rw [R369]; omega) (kX_c n7 fun q m => ?_)
    rw [R369, m1]
    constructor
    · rintro (⟨z, w⟩ | ⟨z, w⟩)
      · exact ⟨by omega, (hkold q m z.1 z.2).mpr w⟩
      · subst z; exact ⟨by omega, (hknew m).mp w⟩
    · rintro ⟨z, w⟩
      by_cases e : q = np
      · subst e; exact Or.inr ⟨rfl, (hknew m).mpr w⟩
      · exact Or.inl ⟨by omega, (hkold q m z.1 (by omega)).mp w⟩
  have hpc : ∀ p, 0 ≤ p → p < np → F9 (b + 10 + 2 * p) = F (b + 10 + 2 * p) ∧ F9 (b + 10 + 2 * p + 1) = F (b + 10 + 2 * p + 1) := fun p y z => ⟨ff9 _ (by omega) (by omega) (by omega) (by omega) (by omega) (by omega), ff9 _ (by omega) (by omega) (by omega) (by omega) (by omega) (by omega)⟩
  have hKp : Kp b F9 B' := by
    refine ⟨by rw [n5, R369], by rw [R369]; omega, fun p y z => ?_, KM, by rw [R369]; exact n6⟩
    rw [R369] at z
    by_cases e : p = np
    · subst e
      refine ⟨⟨?_, fun k u w => ?_, ?_, ?_⟩, ?_, ?_⟩
      · rw [hc, f9c, R375, if_pos rfl]
      · rw [R375, if_pos rfl] at w
        rw [hc, f9c1, R376, if_pos (by omega), show 3 * p + k - 3 * p = k by omega]
      · rw [hc, f9c, R377, if_pos rfl]; exact p4
      · rw [hc, f9c, p2, p3, R374, if_pos rfl]
        exact nm_p (by omega)
      · rw [R375, if_pos rfl]; omega
      · rw [R377, if_pos rfl]; exact ht
    · have zz : p < np := by omega
      obtain ⟨⟨o1, o2, o3, o4⟩, o5, o6⟩ := kps p y zz
      have e5 : B' 375 p = B 375 p := by rw [R375, if_neg e]
      have e7 : B' 377 p = B 377 p := by rw [R377, if_neg e]
      obtain ⟨c1, c2⟩ := hpc p y zz
      refine ⟨⟨?_, fun k u w => ?_, ?_, ?_⟩, by rw [e5]; exact o5, by rw [e7]; exact o6⟩
      · rw [c1, e5]; exact o1
      · rw [e5] at w
        rw [c2, R376, if_neg (by omega)]
        exact o2 k u w
      · rw [c1, e7]; exact o3
      · rw [c1, R374, if_neg e]; exact o4
  refine ⟨F9, B', ?_, j2.up n2 (n3 3 (by omega) (by omega) (by omega)) (n3 4 (by omega) (by omega) (by omega)), ⟨fun a x y => ff9 a x (by omega) (by omega) (by omega) (by omega) (by omega), fun j x => by rw [n3 3 (by omega) (by omega) (by omega), j3.2 j x]; exact fr3 j x⟩, fun x => by rw [ff9 _ (by omega) (by omega) (by omega) (by omega) (by omega) (by omega)], ⟨R369, by rw [Rb 370 (by decide)]; exact m2, by rw [Rb 371 (by decide)]; exact m3, by rw [Rb 372 (by decide)]; exact m4, by rw [Rb 373 (by decide)]; exact m5⟩, hKp,
    k2.fr (f9b 10 (by decide) (by decide)) (f9b 11 (by decide) (by decide)) (ff9 _ (by omega) (by omega) (by omega) (by omega) (by omega) (by omega)) (fun a y z => ff9 a (by omega) (by omega) (by omega) (by omega) (by omega) (by omega)) (by rw [R369]; omega) (by rw [Rb 370 (by decide)]) (by rw [Rb 371 (by decide)]) (Rb 380 (by decide)) (Rb 381 (by decide)) (Rb 382 (by decide)) (Rb 383 (by decide)),
    k3.fr (f9b 12 (by decide) (by decide)) (fun a y z => ff9 a (by omega) (by omega) (by omega) (by omega) (by omega) (by omega)) (by rw [Rb 371 (by decide)]; exact Int.le_refl _) (by rw [Rb 372 (by decide)]) (Rb 384 (by decide)) (Rb 385 (by decide)) (Rb 386 (by decide)) (Rb 387 (by decide)),
    k4.fr (f9b 13 (by decide) (by decide)) (fun a y z => ff9 a (by omega) (by omega) (by omega) (by omega) (by omega) (by omega)) (by rw [R369]; omega) (by rw [Rb 373 (by decide)]) (Rb 388 (by decide)) (Rb 389 (by decide)) (Rb 390 (by decide)),
    k5.fr (ff9 _ (by omega) (by omega) (by omega) (by omega) (by omega) (by omega)) (Rb 391 (by decide)) (Rb 392 (by decide)), ⟨fun i x y => ?_, fun i x y => ?_, fun i x y => ?_⟩, fun i x y => ?_⟩
  · unfold pfX6_readPerson_b113
    simp only [pl_l, pl_b, pl_iT, pl_t, pl_f, gx_1, gx_2, gx_3, gx_4, gx_113, gx_114, gx_115, gx_116, gx_212, gx_213, gx_224, gn_4, gn_114, gn_115, gn_116, gn_213, gn_224, j1, lx_1_0 f8, lx_1_1 f8, lx_1_2 f8, lx_1_3 f8, lx_1_4 f8, lx_1_5 f8, lx_1_6 f8, lx_1_7 f8, lx_2_0 f8, lx_3_0 f8, lx_113_0 f8, lx_113_1 f8, lx_113_2 f8, lx_212_0 f8, lx_212_1 f8, e82, pl_ob s0, n1']
    rw [if_pos (show (1 : Int) ≠ 0 by decide)]
  · by_cases e : i = np
    · subst e
      rw [hc, f9c]; exact ⟨p2, p3⟩
    · rw [(hpc i x (by omega)).1]; exact k6.1 i x (by omega)
  · rw [ff9 _ (by omega) (by omega) (by omega) (by omega) (by omega) (by omega)]; exact k6.2.1 i x y
  · rw [ff9 _ (by omega) (by omega) (by omega) (by omega) (by omega) (by omega)]; exact k6.2.2 i x y
  · rw [R375]
    by_cases e : i = np
    · rw [if_pos e]; exact hk.1
    · rw [if_neg e]; exact k7 i x (by omega)
theorem z_person (h : ad F T N p) (hb : aB b) (h21 : F 2 1 = b) (hZ : ZK b F B np 0 0 0 0) (hnp : np < 12) {m : Int} {m2 ins : List Int} (h3 : F 3 3 = q) (q0 : 0 ≤ q) (hm : 1 ≤ m ∧ m < 6) (hm2 : m2 = [] ∨ m2 = [32, 57]) (hins : ins = [] ∨ ins = [32, 105, 110, 115, 105, 100, 101, 114]) (ht : atl T q ([32] ++ [112, 97 + np] ++ [32] ++ dg m ++ m2 ++ (ins ++ [59]))) {e : Int} (he : e = q + 1 + 2 + 1 + (dg m).length + m2.length + ins.length + 1) (hN : e ≤ N) :
    ∃ F' B', pfX6_readPerson (pd_SH sT) 5000 F 2 = some (1, F') ∧ ad F' T N e ∧ wF b F F' ∧ (∀ x, F' (b + 7) x = F (b + 7) x) ∧ ZK b F' B' (np + 1) 0 0 0 0 := by
  have b5 := aB_5 hb
  have cb := hZ.bd
  have cn := hZ.cn
  have h1 := h.1
  obtain ⟨s0, s1, -⟩ := sh_b (sT := sT) hb
  have l0 : F b 0 = b + 1 := (ly_b h1 hb).1
  have x1 : T q = 32 := atl_1 ht.l.l.l.l.l
  have x2 : atl T (q + 1) [112, 97 + np] := ht.l.l.l.l.r rfl
  have x3 : T (q + 1 + 2) = 32 := atl_1 (ht.l.l.l.r (n := q + 1 + 2) (by simp only [List.length_append, List.length_cons, List.length_nil]; omega))
  have x3' : atl T (q + 1 + 2) ([32] ++ dg m ++ m2 ++ (ins ++ [59])) := by
    rw [List.append_assoc, List.append_assoc, List.append_assoc, List.append_assoc] at ht
    have := (show atl T q (([32] ++ [112, 97 + np]) ++ ([32] ++ (dg m ++ (m2 ++ (ins ++ [59]))))) by rw [List.append_assoc]; exact ht).r (n := q + 1 + 2) (by simp only [List.length_append, List.length_cons, List.length_nil]; omega)
    rw [List.append_assoc, List.append_assoc]
    exact this
  have x6 : atl T (q + 1 + 2 + 1 + (dg m).length + m2.length) (ins ++ [59]) := ht.r (by simp only [List.length_append, List.length_cons, List.length_nil]; omega)
  obtain ⟨c, hc⟩ : ∃ c, b + 10 + 2 * np = c := ⟨_, rfl⟩
  have lc : F (b + 1) np = c := by rw [← hc]; exact (fy_p (sT := sT) h1 hb cb.1.1 hnp).1
  have sc : pd_sh (pd_SH sT) c = some (4, 5, 5) := by rw [← hc]; exact (fy_p h1 hb cb.1.1 hnp).2.2.1
  have sc1 : pd_sh (pd_SH sT) (c + 1) = some (0, 0, 3) := by rw [← hc]; exact (fy_p h1 hb cb.1.1 hnp).2.2.2
  have hcl : ∀ H : pd_F, pd_Ly H → H c 0 = c + 1 := fun H hH => by rw [← hc]; exact (fy_p (sT := sT) hH hb cb.1.1 hnp).2.1
  obtain ⟨F1, a1, a2, a3⟩ := h.adv (sT := sT) h3 (by omega)
  have f1 := a2.1
  have Z1 := hZ.j hb a3
  have lenN : q + 1 + 2 + 1 + (dg m).length + m2.length < N := by omega
  obtain ⟨g1, g2, g3, g4⟩ := a2.nm (by decide) (by omega) x1 x2 (m := q + 1 + 2) (by omega) ⟨by omega, Or.inl x3⟩
  have new := z_new (sT := sT) a2 (by rw [a3.1 2 (by decide)]; exact h21) hb ⟨g1, g2⟩ (by omega) ((z_find a2.1 hb Z1).2.2.2 (by omega) (by omega) (by omega))
  obtain ⟨P, hP⟩ : ∃ P, pd_up (pd_up (pd_up F1 c 2 (28769 + np)) c 3 15) c 1 0 = P := ⟨_, rfl⟩
  have fP : pd_Ly P := by rw [← hP]; exact ((f1.up (pl_rc4 sc (by decide))).up (pl_rc4 sc (by decide))).up (pl_rc4 sc (by decide))
  have p1 : P c 1 = 0 := by rw [← hP, pu_r, if_pos rfl]
  have p2 : P c 2 = 28769 + np := by rw [← hP, pu_r, if_neg (by decide), pu_r, if_neg (by decide), pu_r, if_pos rfl]
  have p3 : P c 3 = 15 := by rw [← hP, pu_r, if_neg (by decide), pu_r, if_pos rfl]
  have pa : ∀ a, a ≠ c → P a = F1 a := fun a y => by rw [← hP, pu_a y, pu_a y, pu_a y]
  have eB : pfX5_begin (pd_SH sT) 5000 F1 c (28769 + np) 15 = some P := by
    unfold pfX5_begin
    simp only [pl_l, pl_b, pl_iT, pl_t, pl_f, pl_ob sc]
    rw [hP]
  have aP : ad P T N q := a2.up fP (pa 3 (by omega)) (pa 4 (by omega))
  obtain ⟨F3, b1, b2, b3⟩ := aP.adv (sT := sT) (q := q + 1 + 2) (by rw [pa 3 (by omega)]; exact g3) (by omega)
  obtain ⟨F5, d1, d2, d3, d4, d5⟩ := z_marks (sT := sT) (rest := ins ++ [59]) b2 sc sc1 hcl (by omega) (by omega) hm hm2 (by simp only [List.length_append, List.length_cons, List.length_nil]; omega) (by rcases hins with rfl | rfl <;> decide) (by rw [b3.1 c (by omega)]; exact p1) x3' (e := q + 1 + 2 + 1 + (dg m).length + m2.length) rfl (by simp only [List.length_append, List.length_cons, List.length_nil]; omega)
  have f5 := d2.1
  have ff5 : ∀ a, a ≠ 3 → a ≠ c → a ≠ c + 1 → F5 a = F a := fun a x y z => by rw [d3.1 a x y z, b3.1 a x, pa a y, a3.1 a x]
  have fr5 : ∀ j, (j < 3 ∨ 8 < j) → F5 3 j = F 3 j := fun j x => by rw [d3.2.2 j x, b3.2 j x, pa 3 (by omega), a3.2 j x]
  have f5c : ∀ j, j ≠ 1 → F5 c j = P c j := fun j x => by rw [d3.2.1 j x, b3.1 c (by omega)]
  have g2' : F1 3 8 = 28769 + np := by rw [g2]; omega
  have Xf1 : F1 2 0 = 3 := lx_2_0 f1
  have XP : P 2 0 = 3 := lx_2_0 fP
  have Xf5 : F5 2 0 = 3 := lx_2_0 f5
  have w15 : pd_w (112 - 97) = 15 := pl_w (by decide)
  have up : ∀ r, pd_up F5 c 4 r c 4 = r := fun r => by rw [pu_r, if_pos rfl]
  have main : ∀ r F7, pfX6_at (pd_SH sT) 5000 F5 2 29676314523100530 = some (r, F5) → (r = 0 ∧ F7 = pd_up F5 c 4 0 ∨ r = 1 ∧ pfX9_advance (pd_SH sT) 5000 (pd_up F5 c 4 1) 3 = some F7) → pfX6_readPerson (pd_SH sT) 5000 F 2 = pfX6_readPerson_b113 (pd_SH sT) 5000 F7 2 := by
    intro r F7 hr h7
    unfold pfX6_readPerson
    simp only [pl_l, pl_b, pl_iT, pl_t, pl_f, gx_1, gx_2, gx_3, gx_4, gx_113, gx_114, gx_115, gx_116, gx_212, gx_213, gx_224, gn_4, gn_114, gn_115, gn_116, gn_213, gn_224, lx_1_0 h1, lx_1_1 h1, lx_1_2 h1, lx_1_3 h1, lx_1_4 h1, lx_1_5 h1, lx_1_6 h1, lx_1_7 h1, lx_2_0 h1, lx_3_0 h1, lx_113_0 h1, lx_113_1 h1, lx_113_2 h1, lx_212_0 h1, lx_212_1 h1, h21, pl_ob s0, l0]
    rw [if_pos (by rw [cn.1]; exact hnp)]
    simp only [cn.1, pl_ib s1, lc]
    rw [pl_i (by omega), pl_i (by omega)]
    simp only [pl_l, pl_b, pl_iT, pl_t, pl_f, a1, new]
    rw [if_pos (show (1 : Int) ≠ 0 by decide)]
    simp only [Xf1, gx_1, gx_2, gx_3, gx_4, gx_113, gx_114, gx_115, gx_116, gx_212, gx_213, gx_224, gn_4, gn_114, gn_115, gn_116, gn_213, gn_224, pl_l, pl_b, pl_iT, pl_t, pl_f, pl_ob sc, g2', g4, w15, eB, XP, b1, d1]
    rw [if_pos (show (1 : Int) ≠ 0 by decide), hr]
    simp only [pl_l, pl_b, pl_iT, pl_t, pl_f, up]
    rcases h7 with ⟨rfl, rfl⟩ | ⟨rfl, h7⟩
    · rw [pl_i (by decide), if_pos rfl]
    · rw [pl_i (by decide), if_neg (by decide)]
      have X2 : pd_up F5 c 4 1 2 0 = 3 := by rw [pu_a (by omega)]; exact Xf5
      simp only [X2, gx_1, gx_2, gx_3, gx_4, gx_113, gx_114, gx_115, gx_116, gx_212, gx_213, gx_224, gn_4, gn_114, gn_115, gn_116, gn_213, gn_224, pl_l, pl_b, pl_iT, pl_t, pl_f, h7]
  rcases hins with rfl | rfl
  · have e59 : T (q + 1 + 2 + 1 + (dg m).length + m2.length) = 59 := atl_1 x6
    have eN : q + 1 + 2 + 1 + ((dg m).length : Int) + m2.length < N := lenN
    have k3 := (d2.semi eN e59).1
    have u7 : pd_Ly (pd_up F5 c 4 0) := f5.up (pl_rc4 sc (by decide))
    have e1 := main 0 (pd_up F5 c 4 0) (c_at0 f5 (fun z => by omega)) (Or.inl ⟨rfl, rfl⟩)
    obtain ⟨F', B', y1, y2, y3⟩ := z_personEnd (sT := sT) (F7 := pd_up F5 c 4 0) (t := 0) (e := q + 1 + 2 + 1 + (dg m).length + m2.length) hb h21 hZ hnp hc (d2.up u7 (pu_a (by omega)) (pu_a (by omega))) eN e59 (fun a x y z => by rw [pu_a y]; exact ff5 a x y z) (fun j x => by rw [pu_a (by omega)]; exact fr5 j x) (by rw [pu_r, if_neg (by decide), f5c 2 (by decide)]; exact p2) (by rw [pu_r, if_neg (by decide), f5c 3 (by decide)]; exact p3) (up 0) (Or.inl rfl) (by rw [pu_r, if_neg (by decide)]; omega)
    have he' : e = q + 1 + 2 + 1 + (dg m).length + m2.length + 1 := by rw [he]; simp
    refine ⟨F', B', e1.trans y1, ?_, y3⟩
    rw [he']
    exact y2
  · have y0 : T (q + 1 + 2 + 1 + (dg m).length + m2.length) = 32 := by have := x6 0 (by decide); rw [show q + 1 + 2 + 1 + ((dg m).length : Int) + m2.length + ((0 : Nat) : Int) = q + 1 + 2 + 1 + (dg m).length + m2.length by omega] at this; exact this
    have x7 : atl T (q + 1 + 2 + 1 + (dg m).length + m2.length + 1) ([105, 110, 115, 105, 100, 101, 114] ++ [59]) := (show atl T _ ([32] ++ ([105, 110, 115, 105, 100, 101, 114] ++ [59])) from x6).r rfl
    have x8 : T (q + 1 + 2 + 1 + (dg m).length + m2.length + 1 + 7) = 59 := atl_1 (x7.r rfl)
    have he' : e = q + 1 + 2 + 1 + (dg m).length + m2.length + 8 + 1 := he
    obtain ⟨k4, k5, k6, -⟩ := d2.word (q := q + 1 + 2 + 1 + (dg m).length + m2.length + 1) (Or.inr ⟨rfl, y0⟩) x7.l (by unfold lets; decide) (by decide) ⟨by show _ + (7 : Int) < N; omega, Or.inr x8⟩
    have u7 : pd_Ly (pd_up F5 c 4 1) := f5.up (pl_rc4 sc (by decide))
    obtain ⟨F7, i1, i2, i3⟩ := (d2.up u7 (pu_a (by omega)) (pu_a (by omega))).adv (sT := sT) (q := q + 1 + 2 + 1 + (dg m).length + m2.length + 1 + 7) (by rw [pu_a (by omega)]; exact k6) (by omega)
    have e1 := main 1 F7 (c_at1 f5 ⟨k4, k5⟩) (Or.inr ⟨rfl, i1⟩)
    have f7c : F7 c = pd_up F5 c 4 1 c := i3.1 c (by omega)
    obtain ⟨F', B', y1, y2, y3⟩ := z_personEnd (sT := sT) (F7 := F7) (t := 1) (e := q + 1 + 2 + 1 + (dg m).length + m2.length + 1 + 7) hb h21 hZ hnp hc i2 (by omega) x8 (fun a x y z => by rw [i3.1 a x, pu_a y]; exact ff5 a x y z) (fun j x => by rw [i3.2 j x, pu_a (by omega)]; exact fr5 j x) (by rw [f7c, pu_r, if_neg (by decide), f5c 2 (by decide)]; exact p2) (by rw [f7c, pu_r, if_neg (by decide), f5c 3 (by decide)]; exact p3) (by rw [f7c]; exact up 1) (Or.inr rfl) (by rw [f7c, pu_r, if_neg (by decide)]; omega)
    refine ⟨F', B', e1.trans y1, ?_, y3⟩
    rw [he', show q + 1 + 2 + 1 + ((dg m).length : Int) + m2.length + 8 + 1 = q + 1 + 2 + 1 + (dg m).length + m2.length + 1 + 7 + 1 by omega]
    exact y2
end PL3

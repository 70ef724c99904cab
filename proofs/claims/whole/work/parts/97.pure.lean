/-! both side by side: undo, keep, feed -/
section IU
variable {D : pd_F} {s s' : Int → Int} {F : pd_F}
/-- a state taken back: the reference's rows but 367 and 393 as they were -/
theorem i_back {H G : pd_F} {u : Int} (h : Iv D s F) (c : cS D s' H) (z : zF F H) (hh : cH D H u (fun j i => F 394 (111 * j + i)) (F 396) (fun k i => F 395 (111 * k + i))) (hG : pd_Ly G) (g2 : ∀ b, b ≠ 367 → b ≠ 393 → G b = H b) (g3 : ∀ j, j ≠ 0 → j ≠ 41 → G 367 j = H 367 j) (g4 : G 367 41 = u) (g5 : ∀ i, 0 ≤ i → i < 111 → G 393 i = s' i) : Iv D (G 393) G := by
  obtain ⟨h1, h2, h3, h4, h5, h6⟩ := h
  have zz : ∀ a, 259 ≤ a → H a = F a := fun a x => z a (by omega) (by omega) (by omega) (by omega)
  have y : ∀ a, a < 367 → G a = H a := fun a x => g2 a (by omega) (by omega)
  have c' : cS D (G 393) H := c.row (fun j a b => g5 j a b)
  have z3 : H 3 = F 3 := z 3 (by omega) (by omega) (by omega) (by omega)
  have z4 : H 4 = F 4 := z 4 (by omega) (by omega) (by omega) (by omega)
  have z1 : H 1 = F 1 := z 1 (by omega) (by omega) (by omega) (by omega)
  refine ⟨⟨hG, fun b x w => (g2 b (by omega) (by omega)).trans ((zz b (by omega)).trans (h1.2.1 b x w)), rfl, h1.2.2.2.1, c'.2.2.2.2.1.1⟩, c'.lo hG y, h3, ?_, ?_, ?_⟩
  · rw [g4, g2 394 (by decide) (by decide), g2 396 (by decide) (by decide), g2 395 (by decide) (by decide), zz 394 (by decide), zz 396 (by decide), zz 395 (by decide)]
    exact hh.lo c.2.1 y
  · rw [g3 2 (by decide) (by decide), z.u, y 3 (by decide), y 4 (by decide), z3, z4, g2 368 (by decide) (by decide), zz 368 (by decide)]
    exact h5
  · exact h6.fr ((y 1 (by decide)).trans z1) ((y 2 (by decide)).trans (z 2 (by omega) (by omega) (by omega) (by omega))) ((g2 377 (by decide) (by decide)).trans (zz 377 (by decide))) ((g2 368 (by decide) (by decide)).trans (zz 368 (by decide))) (by rw [g3 12 (by decide) (by decide), z.u]) (by rw [g3 2 (by decide) (by decide), z.u])
theorem i_undo (h : Iv D s F) : Bx D (fun F => pfX11_undo pd_SH 5000 F 1) (fun F => pfX12_undo pd_SH 5000 F 367) F := by
  rcases p_undo h.2.1 h.2.2.2.1 with ⟨k, a1⟩ | ⟨k, H, a1, a2, a3, a4⟩
  · rcases q_undo h.1.1 h.u with ⟨_, G, b1, b2, b3⟩ | ⟨k2, _⟩
    · exact ⟨-1, F, G, s, a1, b1, h.q b2 b3⟩
    · exact absurd k k2
  · rcases q_undo a2.1 (by rw [a3.u]; exact h.u) with ⟨k2, _⟩ | ⟨_, G, b1, b2, b3, b4, b5, b6⟩
    · rw [a3.u] at k2; exact absurd k2 k
    · rw [a3.u] at b1 b5 b6
      refine ⟨_, H, G, _, a1, b1, i_back h a2 a3 a4 b2 b3 b4 b5 (fun i x y => ?_)⟩
      rw [b6 i x y, a3 394 (by omega) (by omega) (by omega) (by omega)]
theorem i_keep (h : Iv D s F) {k back : Int} : Bx D (fun F => pfX11_keep pd_SH 5000 F 1 k back) (fun F => pfX12_keep pd_SH 5000 F 367 k back) F := by
  have e12 := h.2.2.2.2.2.1
  rcases p_keep h.2.1 h.2.2.2.1 (k := k) (back := back) with ⟨n, a1⟩ | ⟨n, H, a1, a2, a3, a4⟩ | ⟨n, H, a1, a2, a3, a4⟩
  · rw [e12] at n
    rcases q_keep h.1.1 (k := k) (back := back) with ⟨_, G, b1, b2, b3⟩ | ⟨n2, _⟩ | ⟨n2, _⟩
    · exact ⟨0, F, G, s, a1, b1, h.q b2 b3⟩
    · exact absurd ⟨n2.1, n2.2.1, fun w => absurd n2.2.2 w⟩ n
    · exact absurd ⟨n2.1, n2.2.1, fun _ => n2.2.2.2⟩ n
  · have e396 : H 396 = F 396 := a3 396 (by omega) (by omega) (by omega) (by omega)
    have e395 : H 395 = F 395 := a3 395 (by omega) (by omega) (by omega) (by omega)
    have e394 : H 394 = F 394 := a3 394 (by omega) (by omega) (by omega) (by omega)
    have e393 : H 393 = s := (a3 393 (by omega) (by omega) (by omega) (by omega)).trans h.1.2.2.1
    rw [e12] at n
    rcases q_keep a2.1 (k := k) (back := back) with ⟨n2, _⟩ | ⟨_, G, b1, b2, b3, b4, b5, b6⟩ | ⟨n2, _⟩
    · rw [a3.u] at n2
      exact absurd ⟨n.1, n.2.1, fun w => absurd n.2.2 w⟩ n2
    · have y : ∀ a, a < 367 → G a = H a := fun a x => b3 a (by omega) (by omega) (by omega)
      have zz : ∀ a, 259 ≤ a → H a = F a := fun a x => a3 a (by omega) (by omega) (by omega) (by omega)
      have z3 : H 3 = F 3 := a3 3 (by omega) (by omega) (by omega) (by omega)
      have z4 : H 4 = F 4 := a3 4 (by omega) (by omega) (by omega) (by omega)
      have z1 : H 1 = F 1 := a3 1 (by omega) (by omega) (by omega) (by omega)
      refine ⟨1, H, G, s, a1, b1, ⟨b2, fun b x w => (b3 b (by omega) (by omega) (by omega)).trans ((zz b (by omega)).trans (h.1.2.1 b x w)), (b3 393 (by decide) (by decide) (by decide)).trans e393, h.1.2.2.2⟩, a2.lo b2 y, h.2.2.1, ?_, ?_, ?_⟩
      · rw [b4 41 (by decide), b3 394 (by decide) (by decide) (by decide), b5, e396, e394, a3.u]
        refine (a4.lo a2.2.1 y).rows h.1.2.2.2.1 (fun _ _ _ _ _ _ => rfl) (fun j i x0 x1 y0 y1 => ?_)
        rw [b6 j i x0 (by omega) y0 y1, e393, e395]
        by_cases q : j = k
        · rw [if_pos q, if_pos q]
        · rw [if_neg q, if_neg q]
      · rw [b4 2 (by decide), a3.u, y 3 (by decide), y 4 (by decide), z3, z4, b3 368 (by decide) (by decide) (by decide), zz 368 (by decide)]
        exact h.2.2.2.2.1
      · exact h.2.2.2.2.2.fr ((y 1 (by decide)).trans z1) ((y 2 (by decide)).trans (a3 2 (by omega) (by omega) (by omega) (by omega))) ((b3 377 (by decide) (by decide) (by decide)).trans (zz 377 (by decide))) ((b3 368 (by decide) (by decide) (by decide)).trans (zz 368 (by decide))) (by rw [b4 12 (by decide), a3.u]) (by rw [b4 2 (by decide), a3.u])
    · exact absurd n.2.2 n2.2.2.1
  · rw [e12] at n
    have e396 : H 396 = F 396 := a3 396 (by omega) (by omega) (by omega) (by omega)
    rcases q_keep a2.1 (k := k) (back := back) with ⟨n2, _⟩ | ⟨n2, _⟩ | ⟨_, G, b1, b2, b3, b4, b5, b6⟩
    · rw [a3.u, e396] at n2
      exact absurd ⟨n.1, n.2.1, fun _ => n.2.2.2⟩ n2
    · exact absurd n2.2.2 n.2.2.1
    · refine ⟨1, H, G, _, a1, b1, i_back h a2 a3 a4 b2 b3 b4 b5 (fun i x y => ?_)⟩
      rw [b6 i x y, a3 395 (by omega) (by omega) (by omega) (by omega)]
theorem byR_eq {g g' : Int → Int} {l v : Int} (h : ∀ j, 0 ≤ j → j < l → g j = g' j) : ∀ j, 0 ≤ j → j < l + 4 → byR g l v j = byR g' l v j := fun j a b => by
  unfold byR
  by_cases c : l ≤ j ∧ j < l + 4
  · rw [if_pos c, if_pos c]
  · rw [if_neg c, if_neg c]; exact h j a (by omega)
theorem cS.gn {G : pd_F} (h : cS D s F) (hG : pd_Ly G) (y : ∀ a, (5 ≤ a ∧ a ≤ 112) ∨ (214 ≤ a ∧ a ≤ 366) → G a = F a) (y1 : G 1 = F 1) : cS D s G := by
  obtain ⟨h1, h2, h3, h4, h5, h6, h7, h8, h9, h10⟩ := h
  have hb := aB_out h2
  have n5 := h3.1.2.2.2.2.2.1
  have n7 := h3.2.2.1.2
  have kk : kV D s 236 G := by
    unfold kV
    rw [y 236 (by omega), y (236 + 1) (by omega), y (236 + 5) (by omega), y (236 + 6) (by omega), y (236 + 7) (by omega), y (236 + 8) (by omega)]
    exact h7
  unfold cS rD
  rw [y1, y 239 (by omega), y 240 (by omega), y 238 (by omega)]
  exact ⟨hG, h2, h3, h4.fr h2 h3 (fun a x z => y a (by omega)), sR_fr h5 ⟨y _ (by omega), y _ (by omega)⟩ (fun a x z => y a (by omega)), ⟨fun a p x z u w => by rw [y _ (by omega)]; exact h6.1 a p x z u w, fun a p x z u w => by rw [y _ (by omega)]; exact h6.2 a p x z u w⟩, kk, h8, h9, h10⟩
theorem cH.gn {u : Int} {R : Int → Int → Int} {K : Int → Int} {KR : Int → Int → Int} {G : pd_F} (h : cH D F u R K KR) (hb : aB (F 1 8)) (y : ∀ a, 5 ≤ a ∧ a ≤ 366 → G a = F a) (y1 : G 1 = F 1) : cH D G u R K KR := by
  have hb' := aB_out hb
  unfold cH
  rw [y 113 (by omega), y 116 (by omega), y1]
  obtain ⟨h1, h2, h3, h4, h5⟩ := h
  have eb : G (F 1 8) = F (F 1 8) ∧ G (F 1 8 + 8) = F (F 1 8 + 8) := ⟨y _ (by omega), y _ (by omega)⟩
  refine ⟨h1, h2, h3, fun j x z => sR_fr (h4 j x z) eb (fun a v w => y a ?_), fun k x z => ⟨(h5 k x z).1, fun q => sR_fr ((h5 k x z).2 q) eb (fun a v w => y a (by omega))⟩⟩
  unfold slt at v w
  omega
theorem byR_bd {g : Int → Int} {l v : Int} (h : ∀ j, 0 ≤ j → j < l → -128 ≤ g j ∧ g j ≤ 127) : ∀ j, 0 ≤ j → j < l + 4 → -128 ≤ byR g l v j ∧ byR g l v j ≤ 127 := fun j a b => by
  unfold byR
  by_cases c : l ≤ j ∧ j < l + 4
  · rw [if_pos c]; unfold pd_b; omega
  · rw [if_neg c]; exact h j a (by omega)
theorem i_feed (h : Iv D s F) {a b c d e : Int} : Bx D (fun F => pfX11_feed pd_SH 5000 F 1 a b c d e) (fun F => pfX12_feed pd_SH 5000 F 367 a b c d e) F := by
  obtain ⟨h1, h2, h3, h4, ⟨t1, t2, t3⟩, h6⟩ := id h
  rcases p_feed h1.1 t2 t1 (a := a) (b := b) (c := c) (d := d) (e := e) with ⟨k, a1⟩ | ⟨k, H, a1, a2, a3, a4, a5, a6⟩
  · rcases q_feed h1.1 rfl t1 (a := a) (b := b) (c := c) (d := d) (e := e) with ⟨_, G, b1, b2, b3⟩ | ⟨k2, _⟩
    · exact ⟨-1, F, G, s, a1, b1, h.q b2 b3⟩
    · omega
  · have e367 : H 367 = F 367 := a3 367 (by decide) (by decide)
    rcases q_feed a2 (l := F 367 2) (by rw [e367]) t1 (a := a) (b := b) (c := c) (d := d) (e := e) with ⟨k2, _⟩ | ⟨_, G, b1, b2, b3, b4, b5, b6⟩
    · omega
    have y : ∀ x, 5 ≤ x ∧ x ≤ 366 → G x = F x := fun x w => (b3 x (by omega) (by omega)).trans (a3 x (by omega) (by omega))
    have y1 : G 1 = F 1 := (b3 1 (by decide) (by decide)).trans (a3 1 (by decide) (by decide))
    have zz : ∀ x, 369 ≤ x → G x = F x := fun x w => (b3 x (by omega) (by omega)).trans (a3 x (by omega) (by omega))
    refine ⟨_, H, G, s, a1, b1, ⟨b2, fun x u w => (zz x u).trans (h1.2.1 x u w), (zz 393 (by decide)).trans h1.2.2.1, h1.2.2.2⟩, h2.gn b2 (fun x w => y x (by omega)) y1, h3, ?_, ?_, ?_⟩
    · rw [b4 41 (by decide) (by decide), e367, zz 394 (by decide), zz 395 (by decide), zz 396 (by decide)]
      exact h4.gn h2.2.1 y y1
    · have g4 : G 4 = H 4 := b3 4 (by decide) (by decide)
      have g3 : G 3 = H 3 := b3 3 (by decide) (by decide)
      have e368 : H 368 = F 368 := a3 368 (by decide) (by decide)
      refine ⟨by rw [b5]; omega, by rw [g3, a5, b5], fun j x w => ?_⟩
      rw [b5] at w
      rw [g4, a6, b6, e368]
      have r1 := byR_eq (v := a) t3
      have r2 := byR_eq (l := F 367 2 + 4) (v := b) r1
      have r3 := byR_eq (l := F 367 2 + 8) (v := c) (fun j x w => r2 j x (by omega))
      have r4 := byR_eq (l := F 367 2 + 12) (v := d) (fun j x w => r3 j x (by omega))
      have r5 := byR_eq (l := F 367 2 + 16) (v := e) (fun j x w => r4 j x (by omega))
      exact r5 j x (by omega)
    · obtain ⟨x1, x2, x3, x4⟩ := h6
      have y2 : G 2 = F 2 := (b3 2 (by decide) (by decide)).trans (a3 2 (by decide) (by decide))
      have e368 : H 368 = F 368 := a3 368 (by decide) (by decide)
      refine ⟨by rw [b4 12 (by decide) (by decide), e367, y1]; exact x1, by rw [y1, y2]; exact x2, by rw [zz 377 (by decide)]; exact x3, fun j x w => ?_⟩
      rw [b5] at w
      rw [b6, e368]
      have r1 := byR_bd (v := a) x4
      have r2 := byR_bd (l := F 367 2 + 4) (v := b) r1
      have r3 := byR_bd (l := F 367 2 + 8) (v := c) (fun j x w => r2 j x (by omega))
      have r4 := byR_bd (l := F 367 2 + 12) (v := d) (fun j x w => r3 j x (by omega))
      have r5 := byR_bd (l := F 367 2 + 16) (v := e) (fun j x w => r4 j x (by omega))
      exact r5 j x (by omega)
end IU
/-! both side by side: the calls that throw -/
section IT
variable {D : pd_F} {s s' : Int → Int} {F : pd_F}
/-- both throw or both answer the same -/
def Bt (D : pd_F) (c r : pd_F → Option (Int × pd_F)) (F : pd_F) : Prop := ∃ t v F1 F2 s', c F = some (t, F1) ∧ r F1 = some (v, F2) ∧ Iv D s' F2 ∧ F2 367 0 = t ∧ (t = 0 → F2 404 0 = v)
theorem Iv.o {v : Int} (h : Iv D s F) : Iv D s (pd_up F 404 0 v) := by
  have hG : pd_Ly (pd_up F 404 0 v) := h.1.1.up (pl_rc0 sx_404 (by decide))
  have y : ∀ a, a ≠ 404 → pd_up F 404 0 v a = F a := fun a x => pu_a x
  obtain ⟨h1, h2, h3, h4, h5, h6⟩ := h
  unfold Iv
  rw [y 367 (by decide), y 394 (by decide), y 395 (by decide), y 396 (by decide), y 368 (by decide), y 3 (by decide), y 4 (by decide)]
  exact ⟨⟨hG, fun b x z => (y b (by omega)).trans (h1.2.1 b x z), (y 393 (by decide)).trans h1.2.2.1, h1.2.2.2⟩, h2.lo hG (fun a x => y a (by omega)), h3, h4.lo h2.2.1 (fun a x => y a (by omega)), h5, h6.fr (y 1 (by decide)) (y 2 (by decide)) (y 377 (by decide)) (y 368 (by decide)) (by rw [y 367 (by decide)]) (by rw [y 367 (by decide)])⟩
theorem i_share (h : Iv D s F) {a p : Int} : Bt D (fun F => pfL_share pd_SH 5000 F 1 a p 404) (fun F => pfX12_share pd_SH 5000 F 367 a p) F := by
  have hp := p_share h.2.1 (a := a) (p := p)
  by_cases k : (0 ≤ a ∧ a < D 371 0) ∧ 0 ≤ p ∧ p < D 369 0
  · rw [if_pos k] at hp
    have ho := h.o (v := gA D s a p)
    obtain ⟨F2, v, b1, b2, b3, b4⟩ := q_share ho.1 (a := a) (p := p)
    rcases b4 with ⟨_, t0, ev⟩ | ⟨k2, _⟩
    · refine ⟨0, v, _, F2, s, ?_, b1, ho.q b2 b3, t0, fun _ => ?_⟩
      · unfold pfL_share
        simp (disch := omega) only [pl_l, pl_b, pl_iT, pl_t, pl_f, gx_1, hp, gx_404, pl_i]
      · rw [b3.1 404 (by decide) (by decide), pu_r, if_pos rfl, ev]
    · exact absurd k k2
  · rw [if_neg k] at hp
    obtain ⟨F2, v, b1, b2, b3, b4⟩ := q_share h.1 (a := a) (p := p)
    rcases b4 with ⟨k2, _⟩ | ⟨_, t0⟩
    · exact absurd k2 k
    · refine ⟨1, v, F, F2, s, ?_, b1, h.q b2 b3, t0, fun w => absurd w (by decide)⟩
      unfold pfL_share
      simp only [pl_l, pl_b, pl_iT, pl_t, pl_f, gx_1, hp]
theorem i_joining (h : Iv D s F) {p o : Int} : Bt D (fun F => pfL_joining pd_SH 5000 F 1 p o 404) (fun F => pfX12_joining pd_SH 5000 F 367 p o) F := by
  have hj : jOk D s := h.2.1.2.2.2.2.1.2.1
  have hD := h.1.2.2.2.1
  rcases p_joining h.2.1 (p := p) (o := o) with ⟨k, a1⟩ | ⟨k, a1⟩
  · obtain ⟨F2, v, b1, b2, b3, b4⟩ := q_joining h.1 hj (p := p) (o := o)
    rcases b4 with ⟨_, t0⟩ | ⟨k2, _⟩
    · refine ⟨1, v, F, F2, s, ?_, b1, h.q b2 b3, t0, fun w => absurd w (by decide)⟩
      unfold pfL_joining
      simp only [pl_l, pl_b, pl_iT, pl_t, pl_f, gx_1, a1]
    · exact absurd k2 k
  · -- any gain the reference may tell is the class's
    have go : ∀ s', aOk D s' → (∀ j, (j < 10 ∨ 70 < j) → s' j = s j) → (∀ x y, 0 ≤ x → x < D 369 0 → 0 ≤ y → y < D 369 0 → (sC D s' x y ↔ Cn (D 369 0) (Ax (Bs (D 375) (D 376) s) p o) x y)) → ∃ H, pfL_joining pd_SH 5000 F 1 p o 404 = some (0, pd_up H 404 0 (cPU D s' (s 72) - cPU D s (s 72))) ∧ Iv D s (pd_up H 404 0 (cPU D s' (s 72) - cPU D s (s 72))) := fun s' u1 u2 u3 => by
      obtain ⟨H, c1, c2, c3⟩ := a1 s' u1 u2 u3
      refine ⟨H, ?_, (h.y c2 c3).o⟩
      unfold pfL_joining
      simp (disch := omega) only [pl_l, pl_b, pl_iT, pl_t, pl_f, gx_1, c1, gx_404, pl_i]
    -- the reference's gain is of such a row
    have ref : ∀ F0, Iv D s F0 → ∃ F2 v s', pfX12_joining pd_SH 5000 F0 367 p o = some (v, F2) ∧ Iv D s F2 ∧ F2 367 0 = 0 ∧ F2 404 = F0 404 ∧ (aOk D s' ∧ (∀ j, (j < 10 ∨ 70 < j) → s' j = s j) ∧ (∀ x y, 0 ≤ x → x < D 369 0 → 0 ≤ y → y < D 369 0 → (sC D s' x y ↔ Cn (D 369 0) (Ax (Bs (D 375) (D 376) s) p o) x y))) ∧ v = cPU D s' (s 72) - cPU D s (s 72) := fun F0 h0 => by
      obtain ⟨F2, v, b1, b2, b3, b4⟩ := q_joining h0.1 hj (p := p) (o := o)
      have e404 : F2 404 = F0 404 := b3.1 404 (by decide) (by decide)
      rcases b4 with ⟨k2, _⟩ | ⟨_, t0, ⟨c, ev⟩ | ⟨c, s', u1, u2, u3, ev⟩⟩
      · exact absurd k k2
      · refine ⟨F2, v, s, b1, h0.q b2 b3, t0, e404, ⟨h.2.1.2.2.2.2.1.1, fun _ _ => rfl, fun x y x0 x1 _ _ => ?_⟩, by rw [ev]; omega⟩
        exact Ax_in hD.1.2.1 (fun x y => Bs_sy x y) k.1 k.2.1 c ⟨x0, x1⟩
      · exact ⟨F2, v, s', b1, h0.q b2 b3, t0, e404, ⟨u1, u2, u3⟩, ev⟩
    obtain ⟨_, _, s0, _, _, _, _, ⟨u1, u2, u3⟩, _⟩ := ref F h
    obtain ⟨H, c1, c2⟩ := go s0 u1 u2 u3
    obtain ⟨F2, v, s1, r1, r2, r3, r4, ⟨w1, w2, w3⟩, ev⟩ := ref _ c2
    obtain ⟨H', d1, d2⟩ := go s1 w1 w2 w3
    rw [c1] at d1
    have e := congrArg Prod.snd (Option.some.inj d1)
    dsimp only at e
    refine ⟨0, v, _, F2, s, c1, r1, r2, r3, fun _ => ?_⟩
    rw [r4, e, pu_r, if_pos rfl, ev]
/-- a mark turned over and back -/
theorem mR_back {s1 s2 : Int → Int} {m : Int} (h1 : mR s s1 m (1 - ci (Ou s m) 1 0)) (h2 : mR s1 s2 m (ci (Ou s m) 1 0)) : (∀ j, (j < 74 ∨ 110 < j) → s2 j = s j) ∧ (∀ x, Ou s2 x ↔ Ou s x) ∧ s2 110 = s 110 ∧ dst s2 := by
  obtain ⟨a1, a2, a3, a4, a5⟩ := h1
  obtain ⟨b1, b2, b3, b4, b5⟩ := h2
  have eO : ∀ x, Ou s2 x ↔ Ou s x := fun x => by
    have u := a4 x
    have w := b4 x
    rcases ci_o (Ou s m) (1 : Int) 0 with ⟨z, e⟩ | ⟨z, e⟩
    · rw [e, if_neg (by decide)] at u
      rw [e, if_pos (by decide), u] at w
      rw [w]
      constructor
      · rintro (q | q)
        · exact q.1
        · rw [q]; exact z
      · intro q
        by_cases c : x = m
        · exact Or.inr c
        · exact Or.inl ⟨q, c⟩
    · rw [e, if_pos (by decide)] at u
      rw [e, if_neg (by decide), u] at w
      rw [w]
      constructor
      · rintro ⟨q | q, c⟩
        · exact q
        · exact absurd q c
      · intro q
        exact ⟨Or.inl q, fun c => z (by rw [← c]; exact q)⟩
  refine ⟨fun j x => (b1 j x).trans (a1 j x), eO, ?_, b3⟩
  have e : ci (Ou s2 m) (1 : Int) 0 = ci (Ou s m) 1 0 := ci_c (eO m)
  rw [b5, a5, e]; omega
theorem cS.back {s1 s2 : Int → Int} {m : Int} (h : cS D s F) (h1 : mR s s1 m (1 - ci (Ou s m) 1 0)) (h2 : mR s1 s2 m (ci (Ou s m) 1 0)) : cS D s2 F := by
  obtain ⟨e, eO, e110, hd⟩ := mR_back h1 h2
  have n5 := h.2.2.1.1.2.2.2.2.2.1
  obtain ⟨k1, k2, k3, k4, k5, k6, k7, k8, k9, k10, k11, k12⟩ := h.2.2.2.2.1
  have n70 := k1.2.1
  refine h.eqv (fun j a b => e j (by omega)) eO ⟨(k1.mR h.2.2.1 h1).mR h.2.2.1 h2, fun k x y => ?_, hd, by rw [e 71 (by omega)]; exact k4, fun x w => k5 x ((eO x).mp w), fun a x y => by rw [e a (by omega)]; exact k6 a x y, by rw [e 71 (by omega), e 72 (by omega), e 73 (by omega)]; exact k7, by rw [e 70 (by omega)]; exact k8, fun k x y => ?_, k10, fun i x y => by rw [eO]; exact k11 i x y, by rw [e110]; exact k12⟩
  · rw [e 70 (by omega)] at y
    rw [e (10 + 2 * k) (by omega), e (11 + 2 * k) (by omega)]; exact k2 k x y
  · rw [e 70 (by omega)] at y
    rw [e (10 + 2 * k) (by omega), e (11 + 2 * k) (by omega)]; exact k9 k x y
theorem Iv.t {s1 s2 : Int → Int} {m : Int} {G : pd_F} (h : Iv D s F) (hG : pd_Ly G) (t : tF F G) (h1 : mR s s1 m (1 - ci (Ou s m) 1 0)) (h2 : mR s1 s2 m (ci (Ou s m) 1 0)) (e2 : G 393 = s2) : Iv D s2 G := by
  have c := h.2.1.back h1 h2
  obtain ⟨g1, g2, g3, g4, g5, g6⟩ := h
  have y : ∀ a, a < 367 → G a = F a := fun a x => t.1 a (by omega) (by omega) (by omega)
  unfold Iv
  rw [t.2 41 (by decide) (by decide), t.2 2 (by decide) (by decide), t.1 394 (by decide) (by decide) (by decide), t.1 395 (by decide) (by decide) (by decide), t.1 396 (by decide) (by decide) (by decide), t.1 368 (by decide) (by decide) (by decide), y 3 (by decide), y 4 (by decide)]
  exact ⟨⟨hG, fun b x z => (t.1 b (by omega) (by omega) (by omega)).trans (g1.2.1 b x z), e2, g1.2.2.2.1, c.2.2.2.2.1.1⟩, c.lo hG y, g3, g4.lo g2.2.1 y, g5, g6.fr (y 1 (by decide)) (y 2 (by decide)) (t.1 377 (by decide) (by decide) (by decide)) (t.1 368 (by decide) (by decide) (by decide)) (t.2 12 (by decide) (by decide)) (t.2 2 (by decide) (by decide))⟩
theorem i_markless (h : Iv D s F) {m : Int} : Bt D (fun F => pfL_markless pd_SH 5000 F 1 m 404) (fun F => pfX12_markless pd_SH 5000 F 367 m) F := by
  have hd : dst s := h.2.1.2.2.2.2.1.2.2.1
  rcases p_markless h.2.1 (m := m) with ⟨k, a1⟩ | ⟨k, a1⟩
  · obtain ⟨F2, v, b1, b2⟩ := q_markless h.1 hd (m := m) (fun x y => h.room x y)
    rcases b2 with ⟨_, t0, b3, b4⟩ | ⟨k2, _⟩
    · refine ⟨1, v, F, F2, s, ?_, b1, h.q b3 b4, t0, fun w => absurd w (by decide)⟩
      unfold pfL_markless
      simp only [pl_l, pl_b, pl_iT, pl_t, pl_f, gx_1, a1]
    · exact absurd k2 k
  · have go : ∀ s1, mR s s1 m (1 - ci (Ou s m) 1 0) → ∃ H, pfL_markless pd_SH 5000 F 1 m 404 = some (0, pd_up H 404 0 (cPU D s1 (s 72) - cPU D s (s 72))) ∧ Iv D s (pd_up H 404 0 (cPU D s1 (s 72) - cPU D s (s 72))) := fun s1 u1 => by
      obtain ⟨H, c1, c2, c3⟩ := a1 s1 u1
      refine ⟨H, ?_, (h.y c2 c3).o⟩
      unfold pfL_markless
      simp (disch := omega) only [pl_l, pl_b, pl_iT, pl_t, pl_f, gx_1, c1, gx_404, pl_i]
    obtain ⟨_, _, _, b2⟩ := q_markless h.1 hd (m := m) (fun x y => h.room x y)
    rcases b2 with ⟨k2, _⟩ | ⟨_, _, _, _, s0, _, u1, _⟩
    · exact absurd k k2
    obtain ⟨H, c1, c2⟩ := go s0 u1
    obtain ⟨F2, v, r1, r2⟩ := q_markless c2.1 hd (m := m) (fun x y => h.room x y)
    rcases r2 with ⟨k2, _⟩ | ⟨_, t0, r3, r4, s1, s2, w1, w2, w3, ev⟩
    · exact absurd k k2
    obtain ⟨H', d1, d2⟩ := go s1 w1
    rw [c1] at d1
    have e := congrArg Prod.snd (Option.some.inj d1)
    dsimp only at e
    refine ⟨0, v, _, F2, s2, c1, r1, c2.t r3 r4 w1 w2 w3, t0, fun _ => ?_⟩
    rw [r4.1 404 (by decide) (by decide) (by decide), e, pu_r, if_pos rfl, ev]
end IT
/-! the law's loop, but for the book -/
section LL
theorem law_loop {Ls : Int} {xs : Int → Int} (hL : 0 ≤ Ls ∧ Ls ≤ 3072) (hbook : ∀ D s F n, Iv D s F → ∃ D' v F1 F2 s', pfX11_book pd_SH 5000 F 1 n = some (v, F1) ∧ pfX12_book pd_SH 5000 F1 367 n = some (v, F2) ∧ Iv D' s' F2) :
    ∀ (k : Nat) (F : pd_F) (x4 : Int) (D : pd_F) (s : Int → Int), Iv D s F → 0 ≤ x4 → x4 ≤ Ls → Ls - x4 < 6 * (k : Int) → pfL_law_b23 Ls xs pd_SH 5000 k F 1 367 404 x4 = some 1
  | 0, F, x4, D, s, h, h0, h1, h2 => by omega
  | k + 1, F, x4, D, s, h, h0, h1, h2 => by
    rw [pfL_law_b23, pl_w (x := Ls - 6) (by omega)]
    by_cases z : x4 > Ls - 6
    · rw [if_pos z]
    rw [if_neg z, pl_i (by omega)]
    have go : ∀ (D : pd_F) (s : Int → Int) (G : pd_F), Iv D s G → pfL_law_b1196 Ls xs pd_SH 5000 (pfL_law_b23 Ls xs pd_SH 5000 k) G 1 367 404 x4 = some 1 := fun D s G g => by
      unfold pfL_law_b1196
      rw [pl_l, pl_w (by omega)]
      exact law_loop hL hbook k G (x4 + 6) D s g (by omega) (by omega) (by omega)
    by_cases c0 : pd_and (xs x4) 31 = 0
    · rw [if_pos c0]
      obtain ⟨v, F1, F2, s', e1, e2, g⟩ := i_feed h (a := xs (x4 + 1)) (b := xs (x4 + 2)) (c := xs (x4 + 3)) (d := xs (x4 + 4)) (e := xs (x4 + 5))
      dsimp only at e1 e2
      simp (disch := omega) only [pl_l, pl_b, pl_iT, pl_t, pl_f, pl_w, pl_i, gx_1, gx_367, e1, e2, if_pos]
      exact go _ _ F2 g
    rw [if_neg c0]
    by_cases c1 : pd_and (xs x4) 31 = 1
    · rw [if_pos c1]
      obtain ⟨D', v, F1, F2, s', e1, e2, g⟩ := hbook D s F (xs (x4 + 1)) h
      simp (disch := omega) only [pl_l, pl_b, pl_iT, pl_t, pl_f, pl_w, pl_i, gx_1, gx_367, e1, e2, if_pos]
      exact go _ _ F2 g
    rw [if_neg c1]
    by_cases c2 : pd_and (xs x4) 31 = 2
    · rw [if_pos c2]
      obtain ⟨v, F1, F2, e1, e2, g⟩ := i_person h (p := xs (x4 + 1)) (w := xs (x4 + 2))
      dsimp only at e1 e2
      simp (disch := omega) only [pl_l, pl_b, pl_iT, pl_t, pl_f, pl_w, pl_i, gx_1, gx_367, e1, e2, if_pos]
      exact go _ _ F2 g
    rw [if_neg c2]
    by_cases c3 : pd_and (xs x4) 31 = 3
    · rw [if_pos c3]
      obtain ⟨v, F1, F2, e1, e2, g⟩ := i_trust h (p := xs (x4 + 1)) (w := xs (x4 + 2))
      dsimp only at e1 e2
      simp (disch := omega) only [pl_l, pl_b, pl_iT, pl_t, pl_f, pl_w, pl_i, gx_1, gx_367, e1, e2, if_pos]
      exact go _ _ F2 g
    rw [if_neg c3]
    by_cases c4 : pd_and (xs x4) 31 = 4
    · rw [if_pos c4]
      obtain ⟨v, F1, F2, e1, e2, g⟩ := i_account h (p := xs (x4 + 1)) (w := xs (x4 + 2))
      dsimp only at e1 e2
      simp (disch := omega) only [pl_l, pl_b, pl_iT, pl_t, pl_f, pl_w, pl_i, gx_1, gx_367, e1, e2, if_pos]
      exact go _ _ F2 g
    rw [if_neg c4]
    by_cases c5 : pd_and (xs x4) 31 = 5
    · rw [if_pos c5]
      obtain ⟨t, v, F1, F2, s', e1, e2, g, t0, t1⟩ := i_share h (a := xs (x4 + 1)) (p := xs (x4 + 2))
      dsimp only at e1 e2
      simp (disch := omega) only [pl_l, pl_b, pl_iT, pl_t, pl_f, pl_w, pl_i, gx_1, gx_367, gx_404, pfX12_thrown, e1, e2, t0, if_pos, pfL_law_b438, pfL_law_b772, pfL_law_b839]
      by_cases q : t = 0
      · rw [if_neg (fun w => w q)]; exact go _ _ F2 g
      · rw [if_pos q]; exact go _ _ F2 g
    rw [if_neg c5]
    by_cases c6 : pd_and (xs x4) 31 = 6
    · rw [if_pos c6]
      obtain ⟨v, F1, F2, e1, e2, g⟩ := i_who h (d := xs (x4 + 1))
      dsimp only at e1 e2
      simp (disch := omega) only [pl_l, pl_b, pl_iT, pl_t, pl_f, pl_w, pl_i, gx_1, gx_367, e1, e2, if_pos]
      exact go _ _ F2 g
    rw [if_neg c6]
    by_cases c7 : pd_and (xs x4) 31 = 7
    · rw [if_pos c7]
      obtain ⟨v, F1, F2, e1, e2, g⟩ := i_view h (p := xs (x4 + 1)) (w := xs (x4 + 2))
      dsimp only at e1 e2
      simp (disch := omega) only [pl_l, pl_b, pl_iT, pl_t, pl_f, pl_w, pl_i, gx_1, gx_367, e1, e2, if_pos]
      exact go _ _ F2 g
    rw [if_neg c7]
    by_cases c8 : pd_and (xs x4) 31 = 8
    · rw [if_pos c8]
      obtain ⟨v, F1, F2, e1, e2, g⟩ := i_all h (w := xs (x4 + 1))
      dsimp only at e1 e2
      simp (disch := omega) only [pl_l, pl_b, pl_iT, pl_t, pl_f, pl_w, pl_i, gx_1, gx_367, e1, e2, if_pos]
      exact go _ _ F2 g
    rw [if_neg c8]
    by_cases c9 : pd_and (xs x4) 31 = 9
    · rw [if_pos c9]
      obtain ⟨v, F1, F2, e1, e2, g⟩ := i_ranked h (k := xs (x4 + 1))
      dsimp only at e1 e2
      simp (disch := omega) only [pl_l, pl_b, pl_iT, pl_t, pl_f, pl_w, pl_i, gx_1, gx_367, e1, e2, if_pos]
      exact go _ _ F2 g
    rw [if_neg c9]
    by_cases c10 : pd_and (xs x4) 31 = 10
    · rw [if_pos c10]
      obtain ⟨v, F1, F2, e1, e2, g⟩ := i_estate h (m := xs (x4 + 1)) (d := xs (x4 + 2))
      dsimp only at e1 e2
      simp (disch := omega) only [pl_l, pl_b, pl_iT, pl_t, pl_f, pl_w, pl_i, gx_1, gx_367, e1, e2, if_pos]
      exact go _ _ F2 g
    rw [if_neg c10]
    by_cases c11 : pd_and (xs x4) 31 = 11
    · rw [if_pos c11]
      obtain ⟨v, F1, F2, e1, e2, g⟩ := i_enough h (r := xs (x4 + 1))
      dsimp only at e1 e2
      simp (disch := omega) only [pl_l, pl_b, pl_iT, pl_t, pl_f, pl_w, pl_i, gx_1, gx_367, e1, e2, if_pos]
      exact go _ _ F2 g
    rw [if_neg c11]
    by_cases c12 : pd_and (xs x4) 31 = 12
    · rw [if_pos c12]
      obtain ⟨v, F1, F2, e1, e2, g⟩ := i_onDay h (d := xs (x4 + 1))
      dsimp only at e1 e2
      simp (disch := omega) only [pl_l, pl_b, pl_iT, pl_t, pl_f, pl_w, pl_i, gx_1, gx_367, e1, e2, if_pos]
      exact go _ _ F2 g
    rw [if_neg c12]
    by_cases c13 : pd_and (xs x4) 31 = 13
    · rw [if_pos c13]
      obtain ⟨v, F1, F2, e1, e2, g⟩ := i_bestDay h (a := xs (x4 + 1)) (b := xs (x4 + 2)) (w := xs (x4 + 3))
      dsimp only at e1 e2
      simp (disch := omega) only [pl_l, pl_b, pl_iT, pl_t, pl_f, pl_w, pl_i, gx_1, gx_367, e1, e2, if_pos]
      exact go _ _ F2 g
    rw [if_neg c13]
    by_cases c14 : pd_and (xs x4) 31 = 14
    · rw [if_pos c14]
      obtain ⟨v, F1, F2, e1, e2, g⟩ := i_coverFor h (k := xs (x4 + 1))
      dsimp only at e1 e2
      simp (disch := omega) only [pl_l, pl_b, pl_iT, pl_t, pl_f, pl_w, pl_i, gx_1, gx_367, e1, e2, if_pos]
      exact go _ _ F2 g
    rw [if_neg c14]
    by_cases c15 : pd_and (xs x4) 31 = 15
    · rw [if_pos c15]
      obtain ⟨t, v, F1, F2, s', e1, e2, g, t0, t1⟩ := i_markless h (m := xs (x4 + 1))
      dsimp only at e1 e2
      simp (disch := omega) only [pl_l, pl_b, pl_iT, pl_t, pl_f, pl_w, pl_i, gx_1, gx_367, gx_404, pfX12_thrown, e1, e2, t0, if_pos, pfL_law_b438, pfL_law_b772, pfL_law_b839]
      by_cases q : t = 0
      · rw [if_neg (fun w => w q)]; exact go _ _ F2 g
      · rw [if_pos q]; exact go _ _ F2 g
    rw [if_neg c15]
    by_cases c16 : pd_and (xs x4) 31 = 16
    · rw [if_pos c16]
      obtain ⟨t, v, F1, F2, s', e1, e2, g, t0, t1⟩ := i_joining h (p := xs (x4 + 1)) (o := xs (x4 + 2))
      dsimp only at e1 e2
      simp (disch := omega) only [pl_l, pl_b, pl_iT, pl_t, pl_f, pl_w, pl_i, gx_1, gx_367, gx_404, pfX12_thrown, e1, e2, t0, if_pos, pfL_law_b438, pfL_law_b772, pfL_law_b839]
      by_cases q : t = 0
      · rw [if_neg (fun w => w q)]; exact go _ _ F2 g
      · rw [if_pos q]; exact go _ _ F2 g
    rw [if_neg c16]
    by_cases c17 : pd_and (xs x4) 31 = 17
    · rw [if_pos c17]
      obtain ⟨v, F1, F2, e1, e2, g⟩ := i_apart h (p := xs (x4 + 1)) (o := xs (x4 + 2))
      dsimp only at e1 e2
      simp (disch := omega) only [pl_l, pl_b, pl_iT, pl_t, pl_f, pl_w, pl_i, gx_1, gx_367, e1, e2, if_pos]
      exact go _ _ F2 g
    rw [if_neg c17]
    by_cases c18 : pd_and (xs x4) 31 = 18
    · rw [if_pos c18]
      obtain ⟨v, F1, F2, e1, e2, g⟩ := i_ways h (p := xs (x4 + 1)) (w := xs (x4 + 2))
      dsimp only at e1 e2
      simp (disch := omega) only [pl_l, pl_b, pl_iT, pl_t, pl_f, pl_w, pl_i, gx_1, gx_367, e1, e2, if_pos]
      exact go _ _ F2 g
    rw [if_neg c18]
    by_cases c19 : pd_and (xs x4) 31 = 19
    · rw [if_pos c19]
      obtain ⟨v, F1, F2, s', e1, e2, g⟩ := i_balance h (a := xs (x4 + 1)) (v := xs (x4 + 2))
      dsimp only at e1 e2
      simp (disch := omega) only [pl_l, pl_b, pl_iT, pl_t, pl_f, pl_w, pl_i, gx_1, gx_367, e1, e2, if_pos]
      exact go _ _ F2 g
    rw [if_neg c19]
    by_cases c20 : pd_and (xs x4) 31 = 20
    · rw [if_pos c20]
      obtain ⟨v, F1, F2, s', e1, e2, g⟩ := i_join h (p := xs (x4 + 1)) (o := xs (x4 + 2))
      dsimp only at e1 e2
      simp (disch := omega) only [pl_l, pl_b, pl_iT, pl_t, pl_f, pl_w, pl_i, gx_1, gx_367, e1, e2, if_pos]
      exact go _ _ F2 g
    rw [if_neg c20]
    by_cases c21 : pd_and (xs x4) 31 = 21
    · rw [if_pos c21]
      obtain ⟨v, F1, F2, s', e1, e2, g⟩ := i_split h (p := xs (x4 + 1))
      dsimp only at e1 e2
      simp (disch := omega) only [pl_l, pl_b, pl_iT, pl_t, pl_f, pl_w, pl_i, gx_1, gx_367, e1, e2, if_pos]
      exact go _ _ F2 g
    rw [if_neg c21]
    by_cases c22 : pd_and (xs x4) 31 = 22
    · rw [if_pos c22]
      obtain ⟨v, F1, F2, s', e1, e2, g⟩ := i_tell h (w := xs (x4 + 1)) (v := xs (x4 + 2))
      dsimp only at e1 e2
      simp (disch := omega) only [pl_l, pl_b, pl_iT, pl_t, pl_f, pl_w, pl_i, gx_1, gx_367, e1, e2, if_pos]
      exact go _ _ F2 g
    rw [if_neg c22]
    by_cases c23 : pd_and (xs x4) 31 = 23
    · rw [if_pos c23]
      by_cases q : xs (x4 + 2) = 0
      · obtain ⟨v, F1, F2, s', e1, e2, g⟩ := i_mark h (m := xs (x4 + 1)) (out := 0) (by omega)
        dsimp only at e1 e2
        simp (disch := omega) only [pl_l, pl_b, pl_iT, pl_t, pl_f, pl_w, pl_i, gx_1, gx_367, q, e1, e2, if_pos, if_neg, pfL_law_b1073, pfL_law_b1097]
        exact go _ _ F2 g
      · obtain ⟨v, F1, F2, s', e1, e2, g⟩ := i_mark h (m := xs (x4 + 1)) (out := 1) (by omega)
        dsimp only at e1 e2
        simp (disch := omega) only [pl_l, pl_b, pl_iT, pl_t, pl_f, pl_w, pl_i, gx_1, gx_367, q, e1, e2, if_pos, if_neg, pfL_law_b1073, pfL_law_b1097]
        exact go _ _ F2 g
    rw [if_neg c23]
    by_cases c24 : pd_and (xs x4) 31 = 24
    · rw [if_pos c24]
      obtain ⟨v, F1, F2, s', e1, e2, g⟩ := i_undo h 
      dsimp only at e1 e2
      simp (disch := omega) only [pl_l, pl_b, pl_iT, pl_t, pl_f, pl_w, pl_i, gx_1, gx_367, e1, e2, if_pos]
      exact go _ _ F2 g
    rw [if_neg c24]
    by_cases c25 : pd_and (xs x4) 31 = 25
    · rw [if_pos c25]
      by_cases q : xs (x4 + 2) = 0
      · obtain ⟨v, F1, F2, s', e1, e2, g⟩ := i_keep h (k := xs (x4 + 1)) (back := 0)
        dsimp only at e1 e2
        simp (disch := omega) only [pl_l, pl_b, pl_iT, pl_t, pl_f, pl_w, pl_i, gx_1, gx_367, q, e1, e2, if_pos, if_neg, pfL_law_b1139, pfL_law_b1163]
        exact go _ _ F2 g
      · obtain ⟨v, F1, F2, s', e1, e2, g⟩ := i_keep h (k := xs (x4 + 1)) (back := 1)
        dsimp only at e1 e2
        simp (disch := omega) only [pl_l, pl_b, pl_iT, pl_t, pl_f, pl_w, pl_i, gx_1, gx_367, q, e1, e2, if_pos, if_neg, pfL_law_b1139, pfL_law_b1163]
        exact go _ _ F2 g
    rw [if_neg c25]
    by_cases c26 : pd_and (xs x4) 31 = 26
    · rw [if_pos c26]
      obtain ⟨v, F1, F2, e1, e2, g⟩ := i_count h (w := xs (x4 + 1))
      dsimp only at e1 e2
      simp (disch := omega) only [pl_l, pl_b, pl_iT, pl_t, pl_f, pl_w, pl_i, gx_1, gx_367, e1, e2, if_pos]
      exact go _ _ F2 g
    rw [if_neg c26]
    exact go _ _ F h
end LL

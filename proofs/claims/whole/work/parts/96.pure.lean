/-! both side by side: acts -/
section IA
variable {D : pd_F} {s s' : Int → Int} {F : pd_F}
theorem Bs_eqv {mm mk : Int → Int} (hs : 0 ≤ s 70 ∧ s 70 ≤ 30) (e : ∀ j, 0 ≤ j → j < 74 → s' j = s j) (eO : ∀ m, Ou s' m ↔ Ou s m) : Bs mm mk s' = Bs mm mk s := by
  funext x y
  refine propext (and_congr Iff.rfl (or_congr ?_ ?_))
  · unfold Hm
    simp only [eO]
  · unfold Jn
    rw [e 70 (by decide) (by decide)]
    constructor
    · rintro ⟨k, a, c, d⟩
      rw [e (10 + 2 * k) (by omega) (by omega), e (11 + 2 * k) (by omega) (by omega)] at d
      exact ⟨k, a, c, d⟩
    · rintro ⟨k, a, c, d⟩
      refine ⟨k, a, c, ?_⟩
      rw [e (10 + 2 * k) (by omega) (by omega), e (11 + 2 * k) (by omega) (by omega)]
      exact d
/-- rows that say the same -/
theorem cS.eqv (h : cS D s F) (e : ∀ j, 0 ≤ j → j < 74 → s' j = s j) (eO : ∀ m, Ou s' m ↔ Ou s m) (hr : sR D F (F 1 8) 231 s') : cS D s' F := by
  obtain ⟨h1, h2, h3, h4, h5, h6, h7, h8, h9, h10⟩ := h
  have n5 := h3.1.2.2.2.2.2.1
  have eB := Bs_eqv (mm := D 375) (mk := D 376) h5.1.2.1 e eO
  have eN : ∀ p, sN D s' p = sN D s p := fun p => by unfold sN sC; rw [eB]
  have eD : sD D s' = sD D s := by unfold sD sC; rw [eB]
  have eHas : ∀ d, sHas D s' d = sHas D s d := fun d => by
    unfold sHas sG
    refine Sm_congr fun p _ _ => ?_
    rw [eN, Sm_congr (f := fun a => gA D s' a p) (g := fun a => gA D s a p) (fun a u v => gA_row (e a u (by omega)))]
  have eOw : ∀ d, sOw D s' d = sOw D s d := fun d => by
    unfold sOw
    refine Sm_congr fun l _ _ => ?_
    unfold oT
    rw [eN, e 71 (by decide) (by decide)]
  have eHi : ∀ d, sHi D s' d = sHi D s d := fun d => by
    unfold sHi sHg
    refine Sm_congr fun p _ _ => ?_
    rw [eN, Sm_congr (f := fun h => gT D s' h p) (g := fun h => gT D s h p) (fun h u v => ?_)]
    have o := (h3.2.2.2.2.1 h u v).1
    have eg : gH D s' h p = gH D s h p := by unfold gH; rw [e _ o.1 (by omega)]
    unfold gT
    rw [eg, e 71 (by decide) (by decide)]
  have eI : ∀ d, cI D s' d = cI D s d := fun d => by unfold cI sIn; simp only [eN]
  refine ⟨h1, h2, h3, h4, hr, hP_row h3 h6 (fun j a b => e j a (by omega)), ?_, fun p a b => by rw [eN]; exact h8 p a b, fun d a b => ?_, by rw [eB]; exact h10⟩
  · obtain ⟨k1, k2, k3⟩ := h7
    refine ⟨by rw [eD, e 72 (by decide) (by decide), e 73 (by decide) (by decide)]; exact k1, by rw [eD]; exact k2, fun d a b => ?_⟩
    rw [eD] at b
    rw [eHas, eOw, eHi, eI]
    exact k3 d a b
  · rw [eD] at b
    simp only [eN]
    exact h9 d a b
theorem cS.row (h : cS D s F) (e : ∀ j, 0 ≤ j → j < 111 → s' j = s j) : cS D s' F :=
  h.eqv (fun j a b => e j a (by omega)) (Ou_row h.2.2.2.2.1.1.2.2.1 (fun j a b => e j (by omega) (by omega))) (sR_row h.2.2.1 h.2.2.2.2.1 e)
theorem cH.rows {u : Int} {R R' : Int → Int → Int} {K : Int → Int} {KR KR' : Int → Int → Int} (h : cH D F u R K KR) (hD : bOk D) (e : ∀ j i, 0 ≤ j → j < u → 0 ≤ i → i < 111 → R' j i = R j i) (eK : ∀ k i, 0 ≤ k → k < 3 → 0 ≤ i → i < 111 → KR' k i = KR k i) : cH D F u R' K KR' := by
  obtain ⟨h1, h2, h3, h4, h5⟩ := h
  exact ⟨h1, h2, h3, fun j a b => sR_row hD (h4 j a b) (fun i x y => e j i a b x y), fun k a b => ⟨(h5 k a b).1, fun z => sR_row hD ((h5 k a b).2 z) (fun i x y => eK k i a b x y)⟩⟩
theorem rS.z {G : pd_F} (h : rS D s F) (hG : pd_Ly G) (z : zF F G) : rS D s G :=
  ⟨hG, fun b x y => (z b (by omega) (by omega) (by omega) (by omega)).trans (h.2.1 b x y), (z 393 (by omega) (by omega) (by omega) (by omega)).trans h.2.2.1, h.2.2.2⟩
/-- what a pair of acts leaves -/
theorem i_act {H G : pd_F} (h : Iv D s F) (c : cS D s' H) (z : zF F H) (hh : cH D H (if F 367 41 = 16 then 16 else F 367 41 + 1) (Rp (F 367 41) (fun j i => F 394 (111 * j + i)) s) (F 396) (fun k i => F 395 (111 * k + i))) (hG : pd_Ly G) (r : cF H s' G) : Iv D s' G := by
  obtain ⟨h1, h2, h3, h4, h5, h6⟩ := h
  obtain ⟨r1, r2, r3, r4, r5⟩ := r
  have zz : ∀ a, 259 ≤ a → H a = F a := fun a x => z a (by omega) (by omega) (by omega) (by omega)
  have y : ∀ a, a < 367 → G a = H a := fun a x => r2 a (by omega) (by omega) (by omega) (by omega)
  have e367 : H 367 = F 367 := zz 367 (by omega)
  rw [e367] at r4 r5
  have z3 : H 3 = F 3 := z 3 (by omega) (by omega) (by omega) (by omega)
  have z4 : H 4 = F 4 := z 4 (by omega) (by omega) (by omega) (by omega)
  have z1 : H 1 = F 1 := z 1 (by omega) (by omega) (by omega) (by omega)
  have e393 : F 393 = s := h1.2.2.1
  refine ⟨⟨hG, fun b x w => (r2 b (by omega) (by omega) (by omega) (by omega)).trans ((zz b (by omega)).trans (h1.2.1 b x w)), r1, h1.2.2.2.1, c.2.2.2.2.1.1⟩, c.lo hG y, h3, ?_, ?_, ?_⟩
  · rw [r2 396 (by decide) (by decide) (by decide) (by decide), r2 395 (by decide) (by decide) (by decide) (by decide), zz 396 (by decide), zz 395 (by decide), r4]
    refine (hh.lo c.2.1 y).rows h1.2.2.2.1 (fun j i a b x w => ?_) (fun k i _ _ _ _ => rfl)
    rw [r5 j i a (by rw [r4]; exact b) x w, r4, zz 393 (by decide), zz 394 (by decide), e393]
    unfold Rp
    by_cases q : j = (if F 367 41 = 16 then 16 else F 367 41 + 1) - 1
    · rw [if_pos q, if_pos q]
    · rw [if_neg q, if_neg q]
  · rw [r3 2 (by decide) (by decide) (by decide), e367, y 3 (by decide), y 4 (by decide), z3, z4, r2 368 (by decide) (by decide) (by decide) (by decide), zz 368 (by decide)]
    exact h5
  · exact h6.fr ((y 1 (by decide)).trans z1) ((y 2 (by decide)).trans (z 2 (by omega) (by omega) (by omega) (by omega))) ((r2 377 (by decide) (by decide) (by decide) (by decide)).trans (zz 377 (by decide))) ((r2 368 (by decide) (by decide) (by decide) (by decide)).trans (zz 368 (by decide))) (by rw [r3 12 (by decide) (by decide) (by decide), e367]) (by rw [r3 2 (by decide) (by decide) (by decide), e367])
/-- the state after: some row -/
def Bx (D : pd_F) (c r : pd_F → Option (Int × pd_F)) (F : pd_F) : Prop := ∃ v F1 F2 s', c F = some (v, F1) ∧ r F1 = some (v, F2) ∧ Iv D s' F2
theorem Iv.u (h : Iv D s F) : 0 ≤ F 367 41 ∧ F 367 41 ≤ 16 := h.2.2.2.1.2.2.1
theorem zF.u {H : pd_F} (z : zF F H) : H 367 = F 367 := z 367 (by omega) (by omega) (by omega) (by omega)
theorem i_balance (h : Iv D s F) {a v : Int} : Bx D (fun F => pfX11_balance pd_SH 5000 F 1 a v) (fun F => pfX12_balance pd_SH 5000 F 367 a v) F := by
  rcases p_balance h.2.1 h.2.2.2.1 (a := a) (v := v) with ⟨k, a1⟩ | ⟨k, H, a1, a2, a3, a4⟩
  · rcases q_balance h.1 h.u (a := a) (v := v) with ⟨_, G, b1, b2, b3⟩ | ⟨k2, _⟩
    · exact ⟨-1, F, G, s, a1, b1, h.q b2 b3⟩
    · exact absurd k2 k
  · have hH := h.1.z a2.1 a3
    rcases q_balance hH (by rw [a3.u]; exact h.u) (a := a) (v := v) with ⟨k2, _⟩ | ⟨_, G, b1, b2, b3⟩
    · exact absurd k k2
    · exact ⟨s a, H, G, _, a1, b1, i_act h a2 a3 a4 b2 b3⟩
theorem i_tell (h : Iv D s F) {w v : Int} : Bx D (fun F => pfX11_tell pd_SH 5000 F 1 w v) (fun F => pfX12_tell pd_SH 5000 F 367 w v) F := by
  have e12 := h.2.2.2.2.2.1
  rcases p_tell h.2.1 h.2.2.2.1 (w := w) (v := v) with ⟨k, a1⟩ | ⟨k, H, a1, a2, a3, a4⟩
  · rcases q_tell h.1 h.u (w := w) (v := v) with ⟨_, G, b1, b2, b3⟩ | ⟨k2, _⟩
    · exact ⟨-1, F, G, s, a1, b1, h.q b2 b3⟩
    · rw [← e12] at k2; exact absurd k2 k
  · have hH := h.1.z a2.1 a3
    rcases q_tell hH (by rw [a3.u]; exact h.u) (w := w) (v := v) with ⟨k2, _⟩ | ⟨_, G, b1, b2, b3⟩
    · rw [a3.u, ← e12] at k2; exact absurd k k2
    · exact ⟨s (71 + w), H, G, _, a1, b1, i_act h a2 a3 a4 b2 b3⟩
theorem i_join (h : Iv D s F) {p o : Int} : Bx D (fun F => pfX11_join pd_SH 5000 F 1 p o) (fun F => pfX12_join pd_SH 5000 F 367 p o) F := by
  rcases p_join h.2.1 h.2.2.2.1 (p := p) (o := o) with ⟨k, a1⟩ | ⟨k, H, a1, a2, a3, a4⟩
  · rcases q_join h.1 h.u (p := p) (o := o) with ⟨_, G, b1, b2, b3⟩ | ⟨k2, _⟩
    · exact ⟨-1, F, G, s, a1, b1, h.q b2 b3⟩
    · exact absurd k2 k
  · have hH := h.1.z a2.1 a3
    rcases q_join hH (by rw [a3.u]; exact h.u) (p := p) (o := o) with ⟨k2, _⟩ | ⟨_, G, b1, b2, b3⟩
    · exact absurd k k2
    · exact ⟨_, H, G, _, a1, b1, i_act h a2 a3 a4 b2 b3⟩
theorem laR_un {p k k' : Int} (h : laR s p k) (h' : laR s p k') : k = k' := by
  rcases Int.lt_trichotomy k k' with z | z | z
  · exact absurd h'.2.2.1 (h.2.2.2 k' z h'.2.1)
  · exact z
  · exact absurd h.2.2.1 (h'.2.2.2 k z h.2.1)
theorem i_split (h : Iv D s F) {p : Int} : Bx D (fun F => pfX11_split pd_SH 5000 F 1 p) (fun F => pfX12_split pd_SH 5000 F 367 p) F := by
  rcases p_split h.2.1 h.2.2.2.1 (p := p) with ⟨k, a1⟩ | ⟨k, j, l1, a1⟩
  · rcases q_split h.1 h.u (p := p) with ⟨_, G, b1, b2, b3⟩ | ⟨k2, j, s2, G, l2, _⟩
    · exact ⟨-1, F, G, s, a1, b1, h.q b2 b3⟩
    · exact absurd ⟨k2, j, l2⟩ k
  · rcases q_split h.1 h.u (p := p) with ⟨k2, _⟩ | ⟨_, j0, s0, G0, l0, _, _, _, sp0⟩
    · exact absurd ⟨k, j, l1⟩ k2
    rw [← laR_un l1 l0] at sp0
    obtain ⟨H, c1, c2, c3, c4⟩ := a1 s0 sp0
    have hH := h.1.z c2.1 c3
    rcases q_split hH (by rw [c3.u]; exact h.u) (p := p) with ⟨k2, _⟩ | ⟨_, j2, s2, G, l2, b1, b2, b3, sp2⟩
    · exact absurd ⟨k, j, l1⟩ k2
    rw [← laR_un l1 l2] at sp2 b1
    obtain ⟨H', d1, d2, d3, d4⟩ := a1 s2 sp2
    have e : H' = H := by rw [c1] at d1; exact (congrArg Prod.snd (Option.some.inj d1)).symm
    subst e
    exact ⟨_, H', G, s2, d1, b1, i_act h d2 d3 d4 b2 b3⟩
/-- a mark not left out finds room -/
theorem Iv.room (h : Iv D s F) {m : Int} (hm : isMk D m) (ho : ¬ Ou s m) : s 110 < 36 := by
  obtain ⟨k0, k1, k2, k3, -⟩ := h.2.1.2.2.2.1.2.2.2.2.2.2.2.2.2.2
  obtain ⟨-, -, -, -, -, -, -, -, -, h10, h11, h12⟩ := h.2.1.2.2.2.2.1
  obtain ⟨i, i0, i1, i2⟩ := k3 m hm
  have z : ¬ tb (F 231 5) i := fun w => ho (by rw [← i2]; exact ((h11 i i0 (by omega)).mp w).2)
  have eu := Sm_up (f := fun j => ci (tb (F 231 5) j) 1 0) (n := 36) (j := i) (v := 1) i0 (by omega)
  have bd := Sm_bd (f := fun j => if j = i then ci (tb (F 231 5) j) 1 0 + 1 else ci (tb (F 231 5) j) (1 : Int) 0) (lo := 0) (hi := 1) (n := 36) (by omega) (fun j _ _ => by
    by_cases q : j = i
    · rw [if_pos q, q, ci_f z]; omega
    · rw [if_neg q]
      rcases ci_o (tb (F 231 5) j) (1 : Int) 0 with w | w <;> rw [w.2] <;> omega)
  rw [eu, ← h12] at bd
  omega
theorem i_mark (h : Iv D s F) {m out : Int} (ho : out = 0 ∨ out = 1) : Bx D (fun F => pfX11_mark pd_SH 5000 F 1 m out) (fun F => pfX12_mark pd_SH 5000 F 367 m out) F := by
  have hd : dst s := h.2.1.2.2.2.2.1.2.2.1
  rcases p_mark h.2.1 h.2.2.2.1 (m := m) (out := out) with ⟨k, a1⟩ | ⟨k, a1⟩
  · rcases q_mark h.1 h.u hd ho (m := m) (fun x y => h.room x y) with ⟨_, G, b1, b2, b3⟩ | ⟨k2, _⟩
    · exact ⟨0, F, G, s, a1, b1, h.q b2 b3⟩
    · exact absurd k2 k
  · rcases q_mark h.1 h.u hd ho (m := m) (fun x y => h.room x y) with ⟨k2, _⟩ | ⟨_, G0, s0, _, _, _, m0⟩
    · exact absurd k k2
    obtain ⟨H, c1, c2, c3, c4⟩ := a1 s0 m0
    have hH := h.1.z c2.1 c3
    rcases q_mark hH (by rw [c3.u]; exact h.u) hd ho (m := m) (fun x y => h.room x y) with ⟨k2, _⟩ | ⟨_, G, s2, b1, b2, b3, m2⟩
    · exact absurd k k2
    obtain ⟨H', d1, d2, d3, d4⟩ := a1 s2 m2
    have e : H' = H := by rw [c1] at d1; exact (congrArg Prod.snd (Option.some.inj d1)).symm
    subst e
    exact ⟨1, H', G, s2, d1, b1, i_act h d2 d3 d4 b2 b3⟩
end IA

variable {sT : pd_S}
/-! persons told: marks and who has them -/
/-- the marks told of the class's book b, and who has them: Q -/
def kX (F : pd_F) (b : Int) (Q : Int → Int → Prop) : Prop := (0 ≤ F b 14 ∧ F b 14 ≤ 36) ∧ (∀ i j, 0 ≤ i → i < F b 14 → 0 ≤ j → j < F b 14 → F (b + 8) i = F (b + 8) j → i = j) ∧ (∀ i, 0 ≤ i → i < F b 14 → ∃ q, Q q (F (b + 8) i)) ∧ (∀ q m, Q q m → ∃ i, 0 ≤ i ∧ i < F b 14 ∧ F (b + 8) i = m) ∧
  ∀ i, 0 ≤ i → i < F b 14 → bR (F (b + 9) i) (fun q => Q q (F (b + 8) i))
theorem kX_c {F : pd_F} {b : Int} {Q R : Int → Int → Prop} (h : kX F b Q) (e : ∀ q m, Q q m ↔ R q m) : kX F b R := by
  have : Q = R := funext fun q => funext fun m => propext (e q m)
  rw [← this]
  exact h
theorem kX_fr {F F' : pd_F} {b : Int} {Q : Int → Int → Prop} (h : kX F b Q) (e : F' b 14 = F b 14) (e8 : F' (b + 8) = F (b + 8)) (e9 : F' (b + 9) = F (b + 9)) : kX F' b Q := by
  unfold kX
  rw [e, e8, e9]
  exact h
section AH
variable {F : pd_F} {b : Int}
theorem c_markAt (hL : pd_Ly F) (hb : aB b) (hn : 0 ≤ F b 14 ∧ F b 14 ≤ 36) {m r : Int} (hr : fI (fun i => F (b + 8) i = m) (F b 14) r) : pfX0_indexOfMark (pd_SH sT) 5000 F b m = some (r, F) := by
  obtain ⟨s0, -, -, -, -, -, -, -, s8, -⟩ := sh_b (sT := sT) hb
  have l7 : F b 7 = b + 8 := (ly_b hL hb).2.2.2.2.2.2.2.1
  have e : pfX0_indexOfMark (pd_SH sT) 5000 F b m = if 0 ≤ r then some (r, F) else some (-1, F) := by
    unfold pfX0_indexOfMark
    refine pl_fi (f := fun j i => pfX0_indexOfMark_b2 (pd_SH sT) 5000 j F b m i) (hit := fun i => some (i, F)) (miss := some (-1, F)) hn.1 (fun k i x y q => ?_) (fun k i x y q => ?_) (fun k => ?_) 5000 (by omega) hr
    · show pfX0_indexOfMark_b2 (pd_SH sT) 5000 (k + 1) F b m i = _
      simp only [pfX0_indexOfMark_b2, pl_l, pl_b, pl_iT, pl_t, pl_f, pl_ob s0, l7, pl_ib s8]
      rw [if_neg (by omega), pl_i (by omega), if_neg (fun z => z q)]
    · show pfX0_indexOfMark_b2 (pd_SH sT) 5000 (k + 1) F b m i = _
      simp only [pfX0_indexOfMark_b2, pl_l, pl_b, pl_iT, pl_t, pl_f, pl_ob s0, l7, pl_ib s8]
      rw [if_neg (by omega), pl_i (by omega), if_pos q, pl_w (by omega)]
    · show pfX0_indexOfMark_b2 (pd_SH sT) 5000 (k + 1) F b m _ = _
      simp only [pfX0_indexOfMark_b2, pl_l, pl_b, pl_iT, pl_t, pl_f, pl_ob s0]
      rw [if_pos (by omega)]
  rw [e]
  rcases fI_bd hr with k | k
  · rw [if_pos k.1]
  · rw [if_neg (by omega), k]
theorem c_addHolder (hL : pd_Ly F) (hb : aB b) {Q : Int → Int → Prop} (hX : kX F b Q) {m p : Int} (hp : 0 ≤ p ∧ p < 12) (hr : F b 14 < 36) : ∃ F', pfX0_addHolder (pd_SH sT) 5000 F b m p = some F' ∧ pd_Ly F' ∧ (∀ a, a ≠ b → a ≠ b + 8 → a ≠ b + 9 → F' a = F a) ∧ (∀ j, j ≠ 14 → F' b j = F b j) ∧ F' b 14 ≤ F b 14 + 1 ∧ kX F' b (fun q x => Q q x ∨ (q = p ∧ x = m)) := by
  obtain ⟨s0, -, -, -, -, -, -, -, s8, s9⟩ := sh_b (sT := sT) hb
  obtain ⟨x1, x2, x3, x4, x5⟩ := id hX
  obtain ⟨r, hri⟩ := fI_ex (fun i => F (b + 8) i = m) x1.1
  obtain ⟨o1, o2⟩ := tb_one hp
  have l7 : ∀ {H : pd_F}, pd_Ly H → H b 7 = b + 8 := fun hH => (ly_b hH hb).2.2.2.2.2.2.2.1
  have l8 : ∀ {H : pd_F}, pd_Ly H → H b 8 = b + 9 := fun hH => (ly_b hH hb).2.2.2.2.2.2.2.2
  unfold pfX0_addHolder
  simp only [pl_l, pl_b, pl_iT, pl_t, pl_f, pl_ob s0, c_markAt (sT := sT) hL hb x1 hri]
  rcases hri with ⟨r0, r1, r2, r3⟩ | ⟨r0, r1⟩
  · rw [if_pos (by omega)]
    unfold pfX0_addHolder_b52
    have hx := x5 r r0 r1
    obtain ⟨t1, t2⟩ := tb_or hx.1 o1
    simp only [pl_l, pl_b, pl_iT, pl_t, pl_f, pl_ob s0, l8 hL, pl_ib s9]
    rw [if_neg (by omega), pl_i (by omega)]
    refine ⟨_, rfl, hL.up (pl_rc0 s9 (by decide)), fun a _ _ z => pu_a z, fun j _ => by rw [pu_a (by omega)], by rw [pu_a (by omega)]; omega, ?_⟩
    unfold kX
    rw [pu_a (show b ≠ b + 9 by omega), pu_a (show b + 8 ≠ b + 9 by omega)]
    refine ⟨x1, x2, fun i a c => ?_, fun q x hq => ?_, fun i a c => ?_⟩
    · obtain ⟨q, hq⟩ := x3 i a c
      exact ⟨q, Or.inl hq⟩
    · rcases hq with hq | ⟨_, rfl⟩
      · exact x4 q x hq
      · exact ⟨r, r0, r1, r2⟩
    · rw [pu_r]
      by_cases e : i = r
      · subst e
        rw [if_pos rfl]
        refine ⟨t1, fun q c0 c1 => ?_⟩
        rw [t2 q, o2 q c0, hx.2 q c0 c1]
        exact or_congr Iff.rfl ⟨fun z => ⟨z, r2⟩, fun z => z.1⟩
      · rw [if_neg e]
        refine bR_c (x5 i a c) fun q c0 c1 => ⟨Or.inl, fun z => z.elim id fun z => absurd (x2 i r a c r0 r1 (z.2.trans r2.symm)) e⟩
  · subst r0
    obtain ⟨mc, hmc⟩ : ∃ mc, F b 14 = mc := ⟨_, rfl⟩
    rw [hmc] at x1 x2 x3 x4 x5 r1 hr
    rw [if_neg (fun z => z rfl)]
    have g1 : pd_Ly (pd_up F (b + 8) mc m) := hL.up (pl_rc0 s8 (by decide))
    have g2 : pd_Ly (pd_up (pd_up F (b + 8) mc m) (b + 9) mc 0) := g1.up (pl_rc0 s9 (by decide))
    have g3 : pd_Ly (pd_up (pd_up (pd_up F (b + 8) mc m) (b + 9) mc 0) b 14 (mc + 1)) := g2.up (pl_rc4 s0 (by decide))
    have e14 : pd_up (pd_up F (b + 8) mc m) (b + 9) mc 0 b 14 = mc := by rw [pu_a (by omega), pu_a (by omega)]; exact hmc
    have e9 : pd_up (pd_up (pd_up F (b + 8) mc m) (b + 9) mc 0) b 14 (mc + 1) (b + 9) mc = 0 := by rw [pu_a (by omega), pu_r, if_pos rfl]
    simp only [pl_l, pl_b, pl_iT, pl_t, pl_f, pl_ln s8, l7 hL, hmc, pl_ib s8, l8 g1, pl_ib s9, e14]
    rw [pl_i (by decide), if_neg (by omega), pl_i (by omega), pl_i (by omega), pl_w (by omega)]
    unfold pfX0_addHolder_b52
    simp only [pl_l, pl_b, pl_iT, pl_t, pl_f, pl_ob s0, l8 g3, pl_ib s9, e9]
    rw [if_neg (by omega), pl_i (by omega)]
    obtain ⟨t1, t2⟩ := tb_or (x := 0) (by decide) o1
    have R8 : pd_up (pd_up (pd_up (pd_up F (b + 8) mc m) (b + 9) mc 0) b 14 (mc + 1)) (b + 9) mc (pd_or 0 (pd_shl 1 p)) (b + 8) = ru (F (b + 8)) mc m := by rw [pu_a (by omega), pu_a (by omega), pu_a (by omega), pu_row]
    have R9 : ∀ j, pd_up (pd_up (pd_up (pd_up F (b + 8) mc m) (b + 9) mc 0) b 14 (mc + 1)) (b + 9) mc (pd_or 0 (pd_shl 1 p)) (b + 9) j = if j = mc then pd_or 0 (pd_shl 1 p) else F (b + 9) j := fun j => by
      rw [pu_r]
      by_cases e : j = mc
      · rw [if_pos e, if_pos e]
      · rw [if_neg e, if_neg e, pu_a (by omega), pu_r, if_neg e, pu_a (by omega)]
    have R14 : pd_up (pd_up (pd_up (pd_up F (b + 8) mc m) (b + 9) mc 0) b 14 (mc + 1)) (b + 9) mc (pd_or 0 (pd_shl 1 p)) b 14 = mc + 1 := by rw [pu_a (by omega), pu_r, if_pos rfl]
    refine ⟨_, rfl, g3.up (pl_rc0 s9 (by decide)), fun a x y z => by rw [pu_a z, pu_a x, pu_a z, pu_a y], fun j x => by rw [pu_a (by omega), pu_r, if_neg x, pu_a (by omega), pu_a (by omega)], by rw [R14]; omega, ?_⟩
    unfold kX
    rw [R14, R8]
    have old : ∀ i, i ≠ mc → ru (F (b + 8)) mc m i = F (b + 8) i := fun i e => ru_n e
    have new : ru (F (b + 8)) mc m mc = m := ru_e
    refine ⟨by omega, fun i j a c d e f => ?_, fun i a c => ?_, fun q x hq => ?_, fun i a c => ?_⟩
    · by_cases y : i = mc
      · by_cases z : j = mc
        · omega
        · rw [y, new, old j z] at f
          exact absurd f.symm (r1 j d (by omega))
      · by_cases z : j = mc
        · rw [z, new, old i y] at f
          exact absurd f (r1 i a (by omega))
        · rw [old i y, old j z] at f
          exact x2 i j a (by omega) d (by omega) f
    · by_cases y : i = mc
      · rw [y, new]; exact ⟨p, Or.inr ⟨rfl, rfl⟩⟩
      · rw [old i y]
        obtain ⟨q, hq⟩ := x3 i a (by omega)
        exact ⟨q, Or.inl hq⟩
    · rcases hq with hq | ⟨_, rfl⟩
      · obtain ⟨i, a, c, d⟩ := x4 q x hq
        exact ⟨i, a, by omega, by rw [old i (by omega)]; exact d⟩
      · exact ⟨mc, by omega, by omega, new⟩
    · rw [R9]
      by_cases y : i = mc
      · rw [if_pos y, y, new]
        refine ⟨t1, fun q c0 c1 => ?_⟩
        rw [t2 q, o2 q c0]
        refine ⟨fun z => z.elim (fun w => absurd w (tb_0 q)) fun w => Or.inr ⟨w, rfl⟩, fun z => z.elim (fun w => ?_) fun w => Or.inr w.1⟩
        obtain ⟨i', a', c', d'⟩ := x4 q m w
        exact absurd d' (r1 i' a' c')
      · rw [if_neg y, old i y]
        refine bR_c (x5 i a (by omega)) fun q c0 c1 => ⟨Or.inl, fun z => z.elim id fun w => absurd w.2 (r1 i a (by omega))⟩
theorem c_addPerson (hL : pd_Ly F) (hb : aB b) {Q : Int → Int → Prop} (hX : kX F b Q) {np c : Int} (h9 : F b 9 = np) (hn : 0 ≤ np ∧ np < 12) (hc : b + 10 + 2 * np = c) (hm : 0 ≤ F c 1 ∧ F c 1 ≤ 3) (hr : F b 14 ≤ 3 * np) :
    ∃ F', pfX0_addPerson (pd_SH sT) 5000 F b = some F' ∧ pd_Ly F' ∧ (∀ a, a ≠ b → a ≠ b + 8 → a ≠ b + 9 → F' a = F a) ∧ (∀ j, j ≠ 9 → j ≠ 14 → F' b j = F b j) ∧ F' b 9 = np + 1 ∧ F' b 14 ≤ 3 * (np + 1) ∧ kX F' b (fun q x => Q q x ∨ (q = np ∧ ∃ i, 0 ≤ i ∧ i < F c 1 ∧ F (c + 1) i = x)) := by
  obtain ⟨s0, s1, -⟩ := sh_b (sT := sT) hb
  have b5 := aB_5 hb
  have l0 : ∀ {H : pd_F}, pd_Ly H → H b 0 = b + 1 := fun hH => (ly_b hH hb).1
  obtain ⟨lc, -, sc, sc1⟩ := fy_p (sT := sT) hL hb hn.1 hn.2
  have lc0 : ∀ {H : pd_F}, pd_Ly H → H c 0 = c + 1 := fun hH => by rw [← hc]; exact (fy_p (sT := sT) hH hb hn.1 hn.2).2.1
  rw [hc] at lc sc sc1
  unfold pfX0_addPerson
  simp only [pl_l, pl_b, pl_iT, pl_t, pl_f, pl_ob s0, pl_ln s1, l0 hL, h9, pl_ib s1, lc]
  rw [pl_i (by decide), if_pos (by omega), pl_i (by omega), pl_i (by omega)]
  refine pl_for (f := fun j (q : pd_F) i => pfX0_addPerson_b25 (pd_SH sT) 5000 j q b c i) (P := fun i q => pd_Ly q ∧ (∀ a, a ≠ b → a ≠ b + 8 → a ≠ b + 9 → q a = F a) ∧ (∀ j, j ≠ 14 → q b j = F b j) ∧ q b 14 ≤ 3 * np + i ∧ kX q b (fun z x => Q z x ∨ (z = np ∧ ∃ j, 0 ≤ j ∧ j < i ∧ F (c + 1) j = x))) (N := F c 1)
    (res := fun o => ∃ F', o = some F' ∧ pd_Ly F' ∧ (∀ a, a ≠ b → a ≠ b + 8 → a ≠ b + 9 → F' a = F a) ∧ (∀ j, j ≠ 9 → j ≠ 14 → F' b j = F b j) ∧ F' b 9 = np + 1 ∧ F' b 14 ≤ 3 * (np + 1) ∧ kX F' b (fun q x => Q q x ∨ (q = np ∧ ∃ i, 0 ≤ i ∧ i < F c 1 ∧ F (c + 1) i = x))) ?_ ?_ 5000 F 0 (by omega) hm.1 (by omega)
    ⟨hL, fun _ _ _ _ => rfl, fun _ _ => rfl, by omega, kX_c hX fun q x => ⟨Or.inl, fun z => z.elim id fun ⟨_, j, a, d, _⟩ => by omega⟩⟩
  · intro k q i a0 b0 ⟨q1, q2, q3, q4, q5⟩
    left
    have qc : q c = F c := q2 c (by omega) (by omega) (by omega)
    have qc1 : q (c + 1) = F (c + 1) := q2 (c + 1) (by omega) (by omega) (by omega)
    have q9 : q b 9 = np := (q3 9 (by decide)).trans h9
    obtain ⟨H, f1, f2, f3, f4, f5, f6⟩ := c_addHolder (sT := sT) q1 hb q5 (m := F (c + 1) i) (p := np) hn (by omega)
    refine ⟨H, ⟨f2, fun a x y z => (f3 a x y z).trans (q2 a x y z), fun j x => (f4 j x).trans (q3 j x), by omega, kX_c f6 fun z x => ?_⟩, ?_⟩
    · constructor
      · rintro ((w | ⟨e, j, u, v, w⟩) | ⟨e, w⟩)
        · exact Or.inl w
        · exact Or.inr ⟨e, j, u, by omega, w⟩
        · exact Or.inr ⟨e, i, a0, by omega, w.symm⟩
      · rintro (w | ⟨e, j, u, v, w⟩)
        · exact Or.inl (Or.inl w)
        · by_cases z : j = i
          · exact Or.inr ⟨e, by rw [← w, z]⟩
          · exact Or.inl (Or.inr ⟨e, j, u, by omega, w⟩)
    · show pfX0_addPerson_b25 (pd_SH sT) 5000 (k + 1) q b c i = _
      simp only [pfX0_addPerson_b25, pl_l, pl_b, pl_iT, pl_t, pl_f, pl_ob sc, qc, lc0 hL, pl_ib sc1, pl_ob s0, qc1, q9, f1]
      rw [if_neg (by omega), pl_i (by omega), pl_w (by omega)]
  · intro k q ⟨q1, q2, q3, q4, q5⟩
    have qc : q c = F c := q2 c (by omega) (by omega) (by omega)
    have q9 : q b 9 = np := (q3 9 (by decide)).trans h9
    refine ⟨pd_up q b 9 (np + 1), ?_, q1.up (pl_rc4 s0 (by decide)), fun a x y z => by rw [pu_a x]; exact q2 a x y z, fun j x y => by rw [pu_r, if_neg x]; exact q3 j y, by rw [pu_r, if_pos rfl], by rw [pu_r, if_neg (by decide)]; omega, kX_fr q5 (by rw [pu_r, if_neg (by decide)]) (pu_a (by omega)) (pu_a (by omega))⟩
    show pfX0_addPerson_b25 (pd_SH sT) 5000 (k + 1) q b c _ = _
    simp only [pfX0_addPerson_b25, pl_l, pl_b, pl_iT, pl_t, pl_f, pl_ob sc, qc]
    rw [if_pos (by omega)]
    unfold pfX0_addPerson_b53
    simp only [pl_l, pl_b, pl_iT, pl_t, pl_f, pl_ob s0, q9]
    rw [pl_w (by omega)]
end AH

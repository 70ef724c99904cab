/-! the class: its acts, on -/
section CH2
variable {D : pd_F} {s : Int → Int} {F : pd_F} {u : Int} {R : Int → Int → Int} {K : Int → Int} {KR : Int → Int → Int}
theorem p_join (h : cS D s F) (hh : cH D F u R K KR) {p o : Int} : (¬ (((0 ≤ p ∧ p < D 369 0) ∧ (0 ≤ o ∧ o < D 369 0) ∧ p ≠ o) ∧ s 70 ≠ 30) ∧ pfX11_join pd_SH 5000 F 1 p o = some (-1, F)) ∨
    ((((0 ≤ p ∧ p < D 369 0) ∧ (0 ≤ o ∧ o < D 369 0) ∧ p ≠ o) ∧ s 70 ≠ 30) ∧ ∃ H, pfX11_join pd_SH 5000 F 1 p o = some (sD D (ru (ru (ru s (10 + 2 * s 70) p) (11 + 2 * s 70) o) 70 (s 70 + 1)), H) ∧ cS D (ru (ru (ru s (10 + 2 * s 70) p) (11 + 2 * s 70) o) 70 (s 70 + 1)) H ∧ zF F H ∧ cH D H (if u = 16 then 16 else u + 1) (Rp u R s) K KR) := by
  have n5 := h.2.2.1.1.2.2.2.2.2.1
  have hb := aB_out h.2.1
  have n70 := h.2.2.2.2.1.1.2.1
  have e4 : F 231 4 = s 70 := h.2.2.2.2.1.2.2.2.2.2.2.2.1
  unfold pfX11_join
  simp only [pl_l, pl_b, pl_iT, pl_t, pl_f, gx_1, gx_2, gx_3, gx_4, gx_113, gx_114, gx_115, gx_116, gx_212, gx_213, gx_224, gn_4, gn_114, gn_115, gn_116, gn_213, gn_224, lx_1_0 h.1, lx_1_1 h.1, lx_1_2 h.1, lx_1_3 h.1, lx_1_4 h.1, lx_1_5 h.1, lx_1_6 h.1, lx_1_7 h.1, lx_2_0 h.1, lx_3_0 h.1, lx_113_0 h.1, lx_113_1 h.1, lx_113_2 h.1, lx_212_0 h.1, lx_212_1 h.1, p_areTwo h, ox_231, e4]
  by_cases k : (0 ≤ p ∧ p < D 369 0) ∧ (0 ≤ o ∧ o < D 369 0) ∧ p ≠ o
  · by_cases z : s 70 = 30
    · refine Or.inl ⟨fun w => w.2 z, ?_⟩
      rw [if_pos k, if_neg (by decide), if_neg (by omega)]
    · refine Or.inr ⟨⟨k, z⟩, ?_⟩
      obtain ⟨F1, f1, f2, f3, f4⟩ := c_push h hh
      have e41 : F1 231 4 = s 70 := f2.2.2.2.2.1.2.2.2.2.2.2.2.1
      obtain ⟨F2, u1, u2, u3, u4, u5, u6⟩ := c_addJoin f2.1 (st := 231) (p := p) (o := o) aS_now (by omega)
      obtain ⟨H, p1, p2, p3, p4⟩ := c_act h hh f1 u2 (fun c x => u3 c (by omega) (by omega) (by omega)) (s' := ru (ru (ru s (10 + 2 * s 70) p) (11 + 2 * s 70) o) 70 (s 70 + 1)) (fun q => sR_joined q (by omega) k.1 k.2.1 n5 (by omega) u3 u4 u5 u6)
      have nt := p2.w.nt
      rw [show (236 : Int) + 1 = 237 from rfl] at nt
      refine ⟨H, ?_, p2, p3, p4⟩
      rw [if_pos k, if_neg (by decide), if_pos (by omega), f1]
      simp only [gx_1, gx_2, gx_3, gx_4, gx_113, gx_114, gx_115, gx_116, gx_212, gx_213, gx_224, gn_4, gn_114, gn_115, gn_116, gn_213, gn_224, lx_1_0 f2.1, lx_1_1 f2.1, lx_1_2 f2.1, lx_1_3 f2.1, lx_1_4 f2.1, lx_1_5 f2.1, lx_1_6 f2.1, lx_1_7 f2.1, lx_2_0 f2.1, lx_3_0 f2.1, lx_113_0 f2.1, lx_113_1 f2.1, lx_113_2 f2.1, lx_212_0 f2.1, lx_212_1 f2.1, ox_231, u1, pl_l, pl_b, pl_iT, pl_t, pl_f, p1]
      simp only [gx_1, gx_2, gx_3, gx_4, gx_113, gx_114, gx_115, gx_116, gx_212, gx_213, gx_224, gn_4, gn_114, gn_115, gn_116, gn_213, gn_224, lx_1_0 p2.1, lx_1_1 p2.1, lx_1_2 p2.1, lx_1_3 p2.1, lx_1_4 p2.1, lx_1_5 p2.1, lx_1_6 p2.1, lx_1_7 p2.1, lx_2_0 p2.1, lx_3_0 p2.1, lx_113_0 p2.1, lx_113_1 p2.1, lx_113_2 p2.1, lx_212_0 p2.1, lx_212_1 p2.1, ox_236, ox_237, e_236 p2.1, nt, pl_l, pl_b, pl_iT, pl_t, pl_f]
  · refine Or.inl ⟨fun w => k w.1, ?_⟩
    rw [if_neg k, if_pos rfl]
theorem p_split (h : cS D s F) (hh : cH D F u R K KR) {p : Int} : (¬ ((0 ≤ p ∧ p < D 369 0) ∧ ∃ k, laR s p k) ∧ pfX11_split pd_SH 5000 F 1 p = some (-1, F)) ∨
    ((0 ≤ p ∧ p < D 369 0) ∧ ∃ k, laR s p k ∧ ∀ s', spR s s' k → ∃ H, pfX11_split pd_SH 5000 F 1 p = some (if s (10 + 2 * k) = p then s (11 + 2 * k) else s (10 + 2 * k), H) ∧ cS D s' H ∧ zF F H ∧ cH D H (if u = 16 then 16 else u + 1) (Rp u R s) K KR) := by
  have n5 := h.2.2.1.1.2.2.2.2.2.1
  have hb := aB_out h.2.1
  have n70 := h.2.2.2.2.1.1.2.1
  have e4 : F 231 4 = s 70 := h.2.2.2.2.1.2.2.2.2.2.2.2.1
  have ej := h.2.2.2.2.1.2.2.2.2.2.2.2.2.1
  obtain ⟨k, c1, c2⟩ := c_latestJoin h.1 (st := 231) (p := p) aS_now (by omega)
  rw [e4] at c2
  by_cases k0 : 0 ≤ p ∧ p < D 369 0
  · rcases c2 with ⟨q1, q2, q3, q4⟩ | ⟨q1, q2⟩
    · have ek := ej k q1 q2
      have la : laR s p k := ⟨q1, q2, by rw [ek.1, ek.2] at q3; exact q3, fun j x y => by have := q4 j x y; rw [(ej j (by omega) y).1, (ej j (by omega) y).2] at this; exact this⟩
      refine Or.inr ⟨k0, k, la, fun s' hs' => ?_⟩
      have pr := c_partner h.1 (st := 231) (k := k) (p := p) aS_now (by omega) (by omega)
      rw [ek.1, ek.2] at pr
      obtain ⟨F1, f1, f2, f3, f4⟩ := c_push h hh
      have e41 : F1 231 4 = s 70 := f2.2.2.2.2.1.2.2.2.2.2.2.2.1
      obtain ⟨F2, u1, u2, u3, u4, u5, u6⟩ := c_removeJoin f2.1 (st := 231) (k := k) aS_now (by omega) (by omega)
      obtain ⟨H, p1, p2, p3, p4⟩ := c_act h hh f1 u2 (fun c x => u3 c (by omega) (by omega) (by omega)) (s' := s') (fun q => sR_split q ⟨q1, q2⟩ hs' n5 (by omega) u3 u4 u5 u6)
      refine ⟨H, ?_, p2, p3, p4⟩
      unfold pfX11_split
      simp only [pl_l, pl_b, pl_iT, pl_t, pl_f, gx_1, gx_2, gx_3, gx_4, gx_113, gx_114, gx_115, gx_116, gx_212, gx_213, gx_224, gn_4, gn_114, gn_115, gn_116, gn_213, gn_224, lx_1_0 h.1, lx_1_1 h.1, lx_1_2 h.1, lx_1_3 h.1, lx_1_4 h.1, lx_1_5 h.1, lx_1_6 h.1, lx_1_7 h.1, lx_2_0 h.1, lx_3_0 h.1, lx_113_0 h.1, lx_113_1 h.1, lx_113_2 h.1, lx_212_0 h.1, lx_212_1 h.1, p_isPerson h, ox_231, c1]
      rw [if_pos k0, if_pos (by decide), if_pos (by omega), pr]
      simp only [gx_1, gx_2, gx_3, gx_4, gx_113, gx_114, gx_115, gx_116, gx_212, gx_213, gx_224, gn_4, gn_114, gn_115, gn_116, gn_213, gn_224, lx_1_0 h.1, lx_1_1 h.1, lx_1_2 h.1, lx_1_3 h.1, lx_1_4 h.1, lx_1_5 h.1, lx_1_6 h.1, lx_1_7 h.1, lx_2_0 h.1, lx_3_0 h.1, lx_113_0 h.1, lx_113_1 h.1, lx_113_2 h.1, lx_212_0 h.1, lx_212_1 h.1, f1, pl_l, pl_b, pl_iT, pl_t, pl_f]
      simp only [gx_1, gx_2, gx_3, gx_4, gx_113, gx_114, gx_115, gx_116, gx_212, gx_213, gx_224, gn_4, gn_114, gn_115, gn_116, gn_213, gn_224, lx_1_0 f2.1, lx_1_1 f2.1, lx_1_2 f2.1, lx_1_3 f2.1, lx_1_4 f2.1, lx_1_5 f2.1, lx_1_6 f2.1, lx_1_7 f2.1, lx_2_0 f2.1, lx_3_0 f2.1, lx_113_0 f2.1, lx_113_1 f2.1, lx_113_2 f2.1, lx_212_0 f2.1, lx_212_1 f2.1, ox_231, u1, pl_l, pl_b, pl_iT, pl_t, pl_f, p1]
    · refine Or.inl ⟨fun ⟨_, j, w1, w2, w3, _⟩ => q2 j w1 w2 (by rw [(ej j w1 w2).1, (ej j w1 w2).2]; exact w3), ?_⟩
      unfold pfX11_split
      simp only [pl_l, pl_b, pl_iT, pl_t, pl_f, gx_1, gx_2, gx_3, gx_4, gx_113, gx_114, gx_115, gx_116, gx_212, gx_213, gx_224, gn_4, gn_114, gn_115, gn_116, gn_213, gn_224, lx_1_0 h.1, lx_1_1 h.1, lx_1_2 h.1, lx_1_3 h.1, lx_1_4 h.1, lx_1_5 h.1, lx_1_6 h.1, lx_1_7 h.1, lx_2_0 h.1, lx_3_0 h.1, lx_113_0 h.1, lx_113_1 h.1, lx_113_2 h.1, lx_212_0 h.1, lx_212_1 h.1, p_isPerson h, ox_231, c1]
      rw [if_pos k0, if_pos (by decide), if_neg (by omega)]
  · refine Or.inl ⟨fun w => k0 w.1, ?_⟩
    unfold pfX11_split
    simp only [pl_l, pl_b, pl_iT, pl_t, pl_f, gx_1, gx_2, gx_3, gx_4, gx_113, gx_114, gx_115, gx_116, gx_212, gx_213, gx_224, gn_4, gn_114, gn_115, gn_116, gn_213, gn_224, lx_1_0 h.1, lx_1_1 h.1, lx_1_2 h.1, lx_1_3 h.1, lx_1_4 h.1, lx_1_5 h.1, lx_1_6 h.1, lx_1_7 h.1, lx_2_0 h.1, lx_3_0 h.1, lx_113_0 h.1, lx_113_1 h.1, lx_113_2 h.1, lx_212_0 h.1, lx_212_1 h.1, p_isPerson h]
    rw [if_neg k0, if_neg (by decide)]
theorem p_mark (h : cS D s F) (hh : cH D F u R K KR) {m out : Int} : (¬ isMk D m ∧ pfX11_mark pd_SH 5000 F 1 m out = some (0, F)) ∨
    (isMk D m ∧ ∀ s', mR s s' m out → ∃ H, pfX11_mark pd_SH 5000 F 1 m out = some (1, H) ∧ cS D s' H ∧ zF F H ∧ cH D H (if u = 16 then 16 else u + 1) (Rp u R s) K KR) := by
  obtain ⟨r, f1, f2⟩ := p_indexOfMark h (m := m)
  have hb := aB_out h.2.1
  rcases f2 with ⟨q1, q2, q3, q4⟩ | ⟨q1, q2⟩
  · refine Or.inr ⟨q1, fun s' hm => ?_⟩
    obtain ⟨F1, g1, g2, g3, g4⟩ := c_push h hh
    have eb : F1 (F 1 8) = F (F 1 8) := g3 _ (by omega) (by omega)
    have eb8 : F1 (F 1 8 + 8) = F (F 1 8 + 8) := g3 _ (by omega) (by omega)
    have e8 : F1 1 8 = F 1 8 := by rw [g3 1 (by omega) (by omega)]
    have km := g2.2.2.2.1.2.2.2.2.2.2.2.2.2.2
    rw [e8] at km
    obtain ⟨F2, u1, u2, u3, u4⟩ := c_leaveOut g2.1 (st := 231) (i := r) (out := out) aS_now
    obtain ⟨H, p1, p2, p3, p4⟩ := c_act h hh g1 u2 (fun c x => u3 c (by omega)) (s' := s') (fun q => sR_mark h.2.2.1 km q hm (i := r) (by rw [eb]; omega) (by rw [eb8]; exact q4) u3 (by omega) u4)
    refine ⟨H, ?_, p2, p3, p4⟩
    unfold pfX11_mark
    simp only [pl_l, pl_b, pl_iT, pl_t, pl_f, gx_1, gx_2, gx_3, gx_4, gx_113, gx_114, gx_115, gx_116, gx_212, gx_213, gx_224, gn_4, gn_114, gn_115, gn_116, gn_213, gn_224, h.ob, f1]
    rw [if_pos (by omega)]
    simp only [gx_1, gx_2, gx_3, gx_4, gx_113, gx_114, gx_115, gx_116, gx_212, gx_213, gx_224, gn_4, gn_114, gn_115, gn_116, gn_213, gn_224, lx_1_0 h.1, lx_1_1 h.1, lx_1_2 h.1, lx_1_3 h.1, lx_1_4 h.1, lx_1_5 h.1, lx_1_6 h.1, lx_1_7 h.1, lx_2_0 h.1, lx_3_0 h.1, lx_113_0 h.1, lx_113_1 h.1, lx_113_2 h.1, lx_212_0 h.1, lx_212_1 h.1, g1, pl_l, pl_b, pl_iT, pl_t, pl_f]
    simp only [gx_1, gx_2, gx_3, gx_4, gx_113, gx_114, gx_115, gx_116, gx_212, gx_213, gx_224, gn_4, gn_114, gn_115, gn_116, gn_213, gn_224, lx_1_0 g2.1, lx_1_1 g2.1, lx_1_2 g2.1, lx_1_3 g2.1, lx_1_4 g2.1, lx_1_5 g2.1, lx_1_6 g2.1, lx_1_7 g2.1, lx_2_0 g2.1, lx_3_0 g2.1, lx_113_0 g2.1, lx_113_1 g2.1, lx_113_2 g2.1, lx_212_0 g2.1, lx_212_1 g2.1, ox_231, u1, pl_l, pl_b, pl_iT, pl_t, pl_f, p1]
  · refine Or.inl ⟨q1, ?_⟩
    unfold pfX11_mark
    simp only [pl_l, pl_b, pl_iT, pl_t, pl_f, gx_1, gx_2, gx_3, gx_4, gx_113, gx_114, gx_115, gx_116, gx_212, gx_213, gx_224, gn_4, gn_114, gn_115, gn_116, gn_213, gn_224, h.ob, f1]
    rw [if_neg (by omega)]
theorem p_undo (h : cS D s F) (hh : cH D F u R K KR) : (u = 0 ∧ pfX11_undo pd_SH 5000 F 1 = some (-1, F)) ∨
    (u ≠ 0 ∧ ∃ H, pfX11_undo pd_SH 5000 F 1 = some (u - 1, H) ∧ cS D (R (u - 1)) H ∧ zF F H ∧ cH D H (u - 1) R K KR) := by
  obtain ⟨h1, h2, h3, h4, h5⟩ := id hh
  have hb := aB_out h.2.1
  unfold pfX11_undo
  simp only [pl_l, pl_b, pl_iT, pl_t, pl_f, gx_1, gx_2, gx_3, gx_4, gx_113, gx_114, gx_115, gx_116, gx_212, gx_213, gx_224, gn_4, gn_114, gn_115, gn_116, gn_213, gn_224, lx_1_0 h.1, lx_1_1 h.1, lx_1_2 h.1, lx_1_3 h.1, lx_1_4 h.1, lx_1_5 h.1, lx_1_6 h.1, lx_1_7 h.1, lx_2_0 h.1, lx_3_0 h.1, lx_113_0 h.1, lx_113_1 h.1, lx_113_2 h.1, lx_212_0 h.1, lx_212_1 h.1]
  obtain ⟨p, ep⟩ : ∃ p : Int, p = (if F 113 3 = 0 then 16 else F 113 3) - 1 := ⟨_, rfl⟩
  have pb : (0 ≤ p ∧ p < 16) ∧ (p + 1 = F 113 3 ∨ (p = 15 ∧ F 113 3 = 0)) := by rw [ep]; split <;> omega
  rcases c_takeBack h.1 h2 (by omega) ep with ⟨q1, q2⟩ | ⟨q1, G, g1, g2, g3, g4, g5, g6⟩
  · refine Or.inl ⟨by omega, ?_⟩
    rw [q2]
    simp only [pl_l, pl_b, pl_iT, pl_t, pl_f]
    rw [if_neg (by decide)]
  · refine Or.inr ⟨by omega, ?_⟩
    have es : slt (F 113 3) u (u - 1) = 117 + 5 * p := by
      unfold slt
      omega
    have e1 : G 1 8 = F 1 8 := by rw [g3 1 (by omega) (by omega)]
    have eb : G (F 1 8) = F (F 1 8) ∧ G (F 1 8 + 8) = F (F 1 8 + 8) := ⟨g3 _ (by omega) (by omega), g3 _ (by omega) (by omega)⟩
    have sr := h4 (u - 1) (by omega) (by omega)
    rw [es] at sr
    have sr2 : sR D G (F 1 8) 231 (R (u - 1)) := sR_st h.2.2.1 sr eb g6
    obtain ⟨H, f1, f2, f3, f4⟩ := c_refresh h.2.2.1 h.2.1 g2 e1 (h.2.2.2.1.fr h.2.1 h.2.2.1 (fun a x y => g3 a (by omega) (by omega))) sr2
    have e2 : H 1 8 = F 1 8 := by rw [f3 1 (by omega), e1]
    have e113 : H 113 = G 113 := f3 113 (by omega)
    have cs : cS D (R (u - 1)) H := ⟨f2, by rw [e2]; exact h.2.1, h.2.2.1, by
      rw [e2]; exact h.2.2.2.1.fr h.2.1 h.2.2.1 (fun a x y => (f3 a (by omega)).trans (g3 a (by omega) (by omega))), by
      rw [e2]; exact sR_fr sr2 ⟨f3 _ (by omega), f3 _ (by omega)⟩ (fun a x y => f3 a (by omega)), f4⟩
    refine ⟨H, ?_, cs, fun a x _ _ y => (f3 a (by omega)).trans (g3 a x (by omega)), ?_⟩
    · rw [g1]
      simp only [pl_l, pl_b, pl_iT, pl_t, pl_f]
      rw [if_pos (by decide), f1]
      simp only [pl_l, pl_b, pl_iT, pl_t, pl_f, gx_1, gx_2, gx_3, gx_4, gx_113, gx_114, gx_115, gx_116, gx_212, gx_213, gx_224, gn_4, gn_114, gn_115, gn_116, gn_213, gn_224, lx_1_0 f2, lx_1_1 f2, lx_1_2 f2, lx_1_3 f2, lx_1_4 f2, lx_1_5 f2, lx_1_6 f2, lx_1_7 f2, lx_2_0 f2, lx_3_0 f2, lx_113_0 f2, lx_113_1 f2, lx_113_2 f2, lx_212_0 f2, lx_212_1 f2, e113, g5, h1]
    · have fr : ∀ a, a ≠ 113 → (a < 214 ∨ 259 ≤ a) → H a = F a := fun a x y => (f3 a (by omega)).trans (g3 a x (by omega))
      have ebH : H (F 1 8) = F (F 1 8) ∧ H (F 1 8 + 8) = F (F 1 8 + 8) := ⟨fr _ (by omega) (by omega), fr _ (by omega) (by omega)⟩
      refine ⟨by rw [e113, g5, h1], by rw [e113, g4]; omega, by omega, fun j x y => ?_, fun k x y => ?_⟩
      · have ej : slt (H 113 3) (u - 1) j = slt (F 113 3) u j := by
          unfold slt
          rw [e113, g4]
          omega
        rw [ej, e2]
        refine sR_fr (h4 j x (by omega)) ebH (fun a z w => ?_)
        unfold slt at z w
        exact fr a (by omega) (by omega)
      · rw [fr 116 (by omega) (by omega), e2]
        exact ⟨(h5 k x y).1, fun z => sR_fr ((h5 k x y).2 z) ebH (fun a v w => fr a (by omega) (by omega))⟩
theorem p_keep (h : cS D s F) (hh : cH D F u R K KR) {k back : Int} : (¬ (F 1 9 ≠ 0 ∧ (0 ≤ k ∧ k ≤ 2) ∧ (back ≠ 0 → K k ≠ 0)) ∧ pfX11_keep pd_SH 5000 F 1 k back = some (0, F)) ∨
    ((F 1 9 ≠ 0 ∧ (0 ≤ k ∧ k ≤ 2) ∧ back = 0) ∧ ∃ H, pfX11_keep pd_SH 5000 F 1 k back = some (1, H) ∧ cS D s H ∧ zF F H ∧ cH D H u R (ru K k 1) (fun j => if j = k then s else KR j)) ∨
    ((F 1 9 ≠ 0 ∧ (0 ≤ k ∧ k ≤ 2) ∧ back ≠ 0 ∧ K k ≠ 0) ∧ ∃ H, pfX11_keep pd_SH 5000 F 1 k back = some (1, H) ∧ cS D (KR k) H ∧ zF F H ∧ cH D H 0 R K KR) := by
  obtain ⟨h1, h2, h3, h4, h5⟩ := id hh
  have hb := aB_out h.2.1
  unfold pfX11_keep
  simp only [pl_l, pl_b, pl_iT, pl_t, pl_f, gx_1, gx_2, gx_3, gx_4, gx_113, gx_114, gx_115, gx_116, gx_212, gx_213, gx_224, gn_4, gn_114, gn_115, gn_116, gn_213, gn_224, lx_1_0 h.1, lx_1_1 h.1, lx_1_2 h.1, lx_1_3 h.1, lx_1_4 h.1, lx_1_5 h.1, lx_1_6 h.1, lx_1_7 h.1, lx_2_0 h.1, lx_3_0 h.1, lx_113_0 h.1, lx_113_1 h.1, lx_113_2 h.1, lx_212_0 h.1, lx_212_1 h.1]
  by_cases k0 : F 1 9 = 0
  · exact Or.inl ⟨fun z => z.1 k0, by rw [if_pos k0]⟩
  by_cases k1 : k < 0
  · exact Or.inl ⟨fun z => by have := z.2.1; omega, by rw [if_neg k0, if_pos k1]⟩
  by_cases k2 : k < 3
  · by_cases k3 : back = 0
    · refine Or.inr (Or.inl ⟨⟨k0, by omega, k3⟩, ?_⟩)
      obtain ⟨G, g1, g2, g3, g4, g5⟩ := c_layKeep h.1 (k := k) (by omega) k2
      have fr : ∀ a, a ≠ 116 → (a < 197 ∨ 211 < a) → G a = F a := fun a x y => g3 a x (by omega)
      have e1 : G 1 8 = F 1 8 := by rw [fr 1 (by omega) (by omega)]
      have eb : G (F 1 8) = F (F 1 8) ∧ G (F 1 8 + 8) = F (F 1 8 + 8) := ⟨fr _ (by omega) (by omega), fr _ (by omega) (by omega)⟩
      refine ⟨G, ?_, h.fr g2 (fun a _ x y => fr a x (by omega)), fun a _ x y _ => fr a x (by omega), ?_⟩
      · rw [if_neg k0, if_neg k1, if_pos k2, if_neg (fun z => z k3), g1]
        rfl
      · refine ⟨by rw [fr 113 (by omega) (by omega)]; exact h1, by rw [fr 113 (by omega) (by omega)]; exact h2, h3, fun j x y => ?_, fun j x y => ?_⟩
        · rw [fr 113 (by omega) (by omega), e1]
          refine sR_fr (h4 j x y) eb (fun a z w => ?_)
          unfold slt at z w
          exact fr a (by omega) (by omega)
        · rw [g4, e1]
          by_cases z : j = k
          · subst z
            dsimp only
            rw [ru_e, ru_e, if_pos rfl]
            exact ⟨rfl, fun _ => sR_st h.2.2.1 h.2.2.2.2.1 eb g5⟩
          · dsimp only
            rw [ru_n z, ru_n z, if_neg z]
            exact ⟨(h5 j x y).1, fun q => sR_fr ((h5 j x y).2 q) eb (fun a v w => g3 a (by omega) (by omega))⟩
    · have hk := (h5 k (by omega) k2)
      rcases c_goBackTo h.1 (k := k) (by omega) k2 with ⟨q1, q2⟩ | ⟨q1, G, g1, g2, g3, g4, g5⟩
      · refine Or.inl ⟨fun z => z.2.2 k3 (by rw [← hk.1]; exact q1), ?_⟩
        rw [if_neg k0, if_neg k1, if_pos k2, if_pos k3, q2]
        simp only [pl_l, pl_b, pl_iT, pl_t, pl_f]
        rw [if_neg (by decide)]
      · refine Or.inr (Or.inr ⟨⟨k0, by omega, k3, by rw [← hk.1]; exact q1⟩, ?_⟩)
        have e1 : G 1 8 = F 1 8 := by rw [g3 1 (by omega) (by omega)]
        have eb : G (F 1 8) = F (F 1 8) ∧ G (F 1 8 + 8) = F (F 1 8 + 8) := ⟨g3 _ (by omega) (by omega), g3 _ (by omega) (by omega)⟩
        have sr2 : sR D G (F 1 8) 231 (KR k) := sR_st h.2.2.1 (hk.2 (by rw [← hk.1]; exact q1)) eb g5
        obtain ⟨H, f1, f2, f3, f4⟩ := c_refresh h.2.2.1 h.2.1 g2 e1 (h.2.2.2.1.fr h.2.1 h.2.2.1 (fun a x y => g3 a (by omega) (by omega))) sr2
        have e2 : H 1 8 = F 1 8 := by rw [f3 1 (by omega), e1]
        have e113 : H 113 = ru (F 113) 4 0 := (f3 113 (by omega)).trans g4
        have fr : ∀ a, a ≠ 113 → (a < 214 ∨ 259 ≤ a) → H a = F a := fun a x y => (f3 a (by omega)).trans (g3 a x (by omega))
        have ebH : H (F 1 8) = F (F 1 8) ∧ H (F 1 8 + 8) = F (F 1 8 + 8) := ⟨fr _ (by omega) (by omega), fr _ (by omega) (by omega)⟩
        refine ⟨H, ?_, ⟨f2, by rw [e2]; exact h.2.1, h.2.2.1, by
          rw [e2]; exact h.2.2.2.1.fr h.2.1 h.2.2.1 (fun a x y => fr a (by omega) (by omega)), by
          rw [e2]; exact sR_fr sr2 ⟨f3 _ (by omega), f3 _ (by omega)⟩ (fun a x y => f3 a (by omega)), f4⟩, fun a x _ _ y => fr a x (by omega), ?_⟩
        · rw [if_neg k0, if_neg k1, if_pos k2, if_pos k3, g1]
          simp only [pl_l, pl_b, pl_iT, pl_t, pl_f]
          rw [if_pos (by decide), f1]
          rfl
        · refine ⟨by rw [e113, ru_e], by rw [e113, ru_n (by decide)]; exact h2, by omega, fun j x y => by omega, fun j x y => ?_⟩
          rw [fr 116 (by omega) (by omega), e2]
          exact ⟨(h5 j x y).1, fun z => sR_fr ((h5 j x y).2 z) ebH (fun a v w => fr a (by omega) (by omega))⟩
  · exact Or.inl ⟨fun z => by have := z.2.1; omega, by rw [if_neg k0, if_neg k1, if_neg k2]⟩
end CH2

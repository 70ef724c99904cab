variable {sT : pd_S}
/-! the class: its acts, on -/
section CH2
variable {D : pd_F} {s : Int → Int} {F : pd_F} {u : Int} {R : Int → Int → Int} {K : Int → Int} {KR : Int → Int → Int}
theorem p_join (h : cS D s F) (hh : cH D F u R K KR) {p o : Int} : (¬ (((0 ≤ p ∧ p < D 369 0) ∧ (0 ≤ o ∧ o < D 369 0) ∧ p ≠ o) ∧ s 70 ≠ 30) ∧ pfX11_join (pd_SH sT) 5000 F 1 p o = some (-1, F)) ∨
    ((((0 ≤ p ∧ p < D 369 0) ∧ (0 ≤ o ∧ o < D 369 0) ∧ p ≠ o) ∧ s 70 ≠ 30) ∧ ∃ H, pfX11_join (pd_SH sT) 5000 F 1 p o = some (sD D (ru (ru (ru s (10 + 2 * s 70) p) (11 + 2 * s 70) o) 70 (s 70 + 1)), H) ∧ cS D (ru (ru (ru s (10 + 2 * s 70) p) (11 + 2 * s 70) o) 70 (s 70 + 1)) H ∧ zF F H ∧ cH D H (if u = 16 then 16 else u + 1) (Rp u R s) K KR) := by
  have n5 := h.2.2.1.1.2.2.2.2.2.1
  have hb := aB_out h.2.1
  have n70 := h.2.2.2.2.1.1.2.1
  have e4 : F 231 4 = s 70 := h.2.2.2.2.1.2.2.2.2.2.2.2.1
  unfold pfX11_join
  simp only [pl_l, pl_b, pl_iT, pl_t, pl_f, gx_1, gx_2, gx_3, gx_4, gx_113, gx_114, gx_115, gx_116, gx_212, gx_213, gx_224, gn_4, gn_114, gn_115, gn_116, gn_213, gn_224, lx_1_0 h.1, lx_1_1 h.1, lx_1_2 h.1, lx_1_3 h.1, lx_1_4 h.1, lx_1_5 h.1, lx_1_6 h.1, lx_1_7 h.1, lx_2_0 h.1, lx_3_0 h.1, lx_113_0 h.1, lx_113_1 h.1, lx_113_2 h.1, lx_212_0 h.1, lx_212_1 h.1, p_areTwo (sT := sT) h, ox_231, e4]
  by_cases k : (0 ≤ p ∧ p < D 369 0) ∧ (0 ≤ o ∧ o < D 369 0) ∧ p ≠ o
  · by_cases z : s 70 = 30
    · refine Or.inl ⟨fun w => w.2 z, ?_⟩
      rw [if_pos k, if_neg (by decide), if_neg (by omega)]
    · refine Or.inr ⟨⟨k, z⟩, ?_⟩
      obtain ⟨F1, f1, f2, f3, f4⟩ := c_push (sT := sT) h hh
      have e41 : F1 231 4 = s 70 := f2.2.2.2.2.1.2.2.2.2.2.2.2.1
      obtain ⟨F2, u1, u2, u3, u4, u5, u6⟩ := c_addJoin (sT := sT) f2.1 (st := 231) (p := p) (o := o) aS_now (by omega)
      obtain ⟨H, p1, p2, p3, p4⟩ := c_act (sT := sT) h hh f1 u2 (fun c x => u3 c (by omega) (by omega) (by omega)) (s' := ru (ru (ru s (10 + 2 * s 70) p) (11 + 2 * s 70) o) 70 (s 70 + 1)) (fun q => sR_joined q (by omega) k.1 k.2.1 n5 (by omega) u3 u4 u5 u6)
      have nt := p2.w.nt
      rw [show (236 : Int) + 1 = 237 from rfl] at nt
      refine ⟨H, ?_, p2, p3, p4⟩
      rw [if_pos k, if_neg (by decide), if_pos (by omega), f1]
      simp only [gx_1, gx_2, gx_3, gx_4, gx_113, gx_114, gx_115, gx_116, gx_212, gx_213, gx_224, gn_4, gn_114, gn_115, gn_116, gn_213, gn_224, lx_1_0 f2.1, lx_1_1 f2.1, lx_1_2 f2.1, lx_1_3 f2.1, lx_1_4 f2.1, lx_1_5 f2.1, lx_1_6 f2.1, lx_1_7 f2.1, lx_2_0 f2.1, lx_3_0 f2.1, lx_113_0 f2.1, lx_113_1 f2.1, lx_113_2 f2.1, lx_212_0 f2.1, lx_212_1 f2.1, ox_231, u1, pl_l, pl_b, pl_iT, pl_t, pl_f, p1]
      simp only [gx_1, gx_2, gx_3, gx_4, gx_113, gx_114, gx_115, gx_116, gx_212, gx_213, gx_224, gn_4, gn_114, gn_115, gn_116, gn_213, gn_224, lx_1_0 p2.1, lx_1_1 p2.1, lx_1_2 p2.1, lx_1_3 p2.1, lx_1_4 p2.1, lx_1_5 p2.1, lx_1_6 p2.1, lx_1_7 p2.1, lx_2_0 p2.1, lx_3_0 p2.1, lx_113_0 p2.1, lx_113_1 p2.1, lx_113_2 p2.1, lx_212_0 p2.1, lx_212_1 p2.1, ox_236, ox_237, e_236 p2.1, nt, pl_l, pl_b, pl_iT, pl_t, pl_f]
  · refine Or.inl ⟨fun w => k w.1, ?_⟩
    rw [if_neg k, if_pos rfl]
theorem p_mark (h : cS D s F) (hh : cH D F u R K KR) {m out : Int} : (¬ isMk D m ∧ pfX11_mark (pd_SH sT) 5000 F 1 m out = some (0, F)) ∨
    (isMk D m ∧ ∀ s', mR s s' m out → ∃ H, pfX11_mark (pd_SH sT) 5000 F 1 m out = some (1, H) ∧ cS D s' H ∧ zF F H ∧ cH D H (if u = 16 then 16 else u + 1) (Rp u R s) K KR) := by
  obtain ⟨r, f1, f2⟩ := p_indexOfMark (sT := sT) h (m := m)
  have hb := aB_out h.2.1
  rcases f2 with ⟨q1, q2, q3, q4⟩ | ⟨q1, q2⟩
  · refine Or.inr ⟨q1, fun s' hm => ?_⟩
    obtain ⟨F1, g1, g2, g3, g4⟩ := c_push (sT := sT) h hh
    have eb : F1 (F 1 8) = F (F 1 8) := g3 _ (by omega) (by omega)
    have eb8 : F1 (F 1 8 + 8) = F (F 1 8 + 8) := g3 _ (by omega) (by omega)
    have e8 : F1 1 8 = F 1 8 := by rw [g3 1 (by omega) (by omega)]
    have km := g2.2.2.2.1.2.2.2.2.2.2.2.2.2.2
    rw [e8] at km
    obtain ⟨F2, u1, u2, u3, u4⟩ := c_leaveOut (sT := sT) g2.1 (st := 231) (i := r) (out := out) aS_now
    obtain ⟨H, p1, p2, p3, p4⟩ := c_act (sT := sT) h hh g1 u2 (fun c x => u3 c (by omega)) (s' := s') (fun q => sR_mark h.2.2.1 km q hm (i := r) (by rw [eb]; omega) (by rw [eb8]; exact q4) u3 (by omega) u4)
    refine ⟨H, ?_, p2, p3, p4⟩
    unfold pfX11_mark
    simp only [pl_l, pl_b, pl_iT, pl_t, pl_f, gx_1, gx_2, gx_3, gx_4, gx_113, gx_114, gx_115, gx_116, gx_212, gx_213, gx_224, gn_4, gn_114, gn_115, gn_116, gn_213, gn_224, h.ob, f1]
    rw [if_pos (by omega)]
    simp only [gx_1, gx_2, gx_3, gx_4, gx_113, gx_114, gx_115, gx_116, gx_212, gx_213, gx_224, gn_4, gn_114, gn_115, gn_116, gn_213, gn_224, lx_1_0 h.1, lx_1_1 h.1, lx_1_2 h.1, lx_1_3 h.1, lx_1_4 h.1, lx_1_5 h.1, lx_1_6 h.1, lx_1_7 h.1, lx_2_0 h.1, lx_3_0 h.1, lx_113_0 h.1, lx_113_1 h.1, lx_113_2 h.1, lx_212_0 h.1, lx_212_1 h.1, g1, pl_l, pl_b, pl_iT, pl_t, pl_f]
    simp only [gx_1, gx_2, gx_3, gx_4, gx_113, gx_114, gx_115, gx_116, gx_212, gx_213, gx_224, gn_4, gn_114, gn_115, gn_116, gn_213, gn_224, lx_1_0 g2.1, lx_1_1 g2.1, lx_1_2 g2.1, lx_1_3 g2.1, lx_1_4 g2.1, lx_1_5 g2.1, lx_1_6 g2.1, lx_1_7 g2.1, lx_2_0 g2.1, lx_3_0 g2.1, lx_113_0 g2.1, lx_113_1 g2.1, lx_113_2 g2.1, lx_212_0 g2.1, lx_212_1 g2.1, ox_231, u1, pl_l, pl_b, pl_iT, pl_t, pl_f, p1]
  · refine Or.inl ⟨q1, ?_⟩
    unfold pfX11_mark
    simp only [pl_l, pl_b, pl_iT, pl_t, pl_f, gx_1, gx_2, gx_3, gx_4, gx_113, gx_114, gx_115, gx_116, gx_212, gx_213, gx_224, gn_4, gn_114, gn_115, gn_116, gn_213, gn_224, h.ob, f1]
    rw [if_neg (by omega)]
end CH2

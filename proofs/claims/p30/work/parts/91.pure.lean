variable {sT : pd_S}
/-! the class: what it keeps behind -/
def slt (n u j : Int) : Int := 117 + 5 * ((n - u + j) % 16)
/-- u rows to be undone, three kept ones -/
def cH (D F : pd_F) (u : Int) (R : Int → Int → Int) (K : Int → Int) (KR : Int → Int → Int) : Prop := F 113 4 = u ∧ (0 ≤ F 113 3 ∧ F 113 3 ≤ 16) ∧ (0 ≤ u ∧ u ≤ 16) ∧ (∀ j, 0 ≤ j → j < u → sR D F (F 1 8) (slt (F 113 3) u j) (R j)) ∧ ∀ k, 0 ≤ k → k < 3 → F 116 k = K k ∧ (K k ≠ 0 → sR D F (F 1 8) (117 + 5 * (16 + k)) (KR k))
/-- the rows once s is laid behind them -/
def Rp (u : Int) (R : Int → Int → Int) (s : Int → Int) (j : Int) : Int → Int := if j = (if u = 16 then 16 else u + 1) - 1 then s else R (j + (if u = 16 then 1 else 0))
section CH
variable {D : pd_F} {s : Int → Int} {F : pd_F} {u : Int} {R : Int → Int → Int} {K : Int → Int} {KR : Int → Int → Int}
theorem cH.fr {G : pd_F} (h : cH D F u R K KR) (hb : aB (F 1 8)) (e : ∀ a, (a < 214 ∨ 259 ≤ a) → G a = F a) : cH D G u R K KR := by
  have hb' := aB_out hb
  unfold cH
  rw [e 113 (by omega), e 116 (by omega), e 1 (by omega)]
  obtain ⟨h1, h2, h3, h4, h5⟩ := h
  have eb : G (F 1 8) = F (F 1 8) ∧ G (F 1 8 + 8) = F (F 1 8 + 8) := ⟨e _ (by omega), e _ (by omega)⟩
  refine ⟨h1, h2, h3, fun j x y => sR_fr (h4 j x y) eb (fun a z w => e a ?_), fun k x y => ⟨(h5 k x y).1, fun z => sR_fr ((h5 k x y).2 z) eb (fun a z w => e a (by omega))⟩⟩
  unfold slt at z w
  omega
theorem cS.fr {G : pd_F} (h : cS D s F) (hG : pd_Ly G) (y : ∀ a, a ≠ 113 → a ≠ 116 → (a < 117 ∨ 211 < a) → G a = F a) : cS D s G := by
  obtain ⟨h1, h2, h3, h4, h5, h6, h7, h8, h9, h10⟩ := h
  have hb := aB_out h2
  have n5 := h3.1.2.2.2.2.2.1
  have n7 := h3.2.2.1.2
  have e1 : G 1 = F 1 := y 1 (by omega) (by omega) (by omega)
  have kk : kV D s 236 G := by
    unfold kV
    rw [y 236 (by omega) (by omega) (by omega), y (236 + 1) (by omega) (by omega) (by omega), y (236 + 5) (by omega) (by omega) (by omega), y (236 + 6) (by omega) (by omega) (by omega), y (236 + 7) (by omega) (by omega) (by omega), y (236 + 8) (by omega) (by omega) (by omega)]
    exact h7
  unfold cS rD
  rw [e1, y 239 (by omega) (by omega) (by omega), y 240 (by omega) (by omega) (by omega), y 238 (by omega) (by omega) (by omega)]
  exact ⟨hG, h2, h3, h4.fr h2 h3 (fun a x z => y a (by omega) (by omega) (by omega)), sR_fr h5 ⟨y _ (by omega) (by omega) (by omega), y _ (by omega) (by omega) (by omega)⟩ (fun a x z => y a (by omega) (by omega) (by omega)), ⟨fun a p x z u w => by rw [y _ (by omega) (by omega) (by omega)]; exact h6.1 a p x z u w, fun a p x z u w => by rw [y _ (by omega) (by omega) (by omega)]; exact h6.2 a p x z u w⟩, kk, h8, h9, h10⟩
/-- what acts leave -/
def zF (F G : pd_F) : Prop := ∀ a, a ≠ 113 → a ≠ 116 → (a < 117 ∨ 211 < a) → (a < 214 ∨ 258 < a) → G a = F a
theorem zF.tr {F G H : pd_F} (h : zF F G) (g : zF G H) : zF F H := fun a x y z w => (g a x y z w).trans (h a x y z w)
theorem c_push (h : cS D s F) (hh : cH D F u R K KR) : ∃ G, pfX3_remember (pd_SH sT) 5000 F 113 231 = some G ∧ cS D s G ∧ (∀ a, a ≠ 113 → (a < 117 ∨ 196 < a) → G a = F a) ∧ cH D G (if u = 16 then 16 else u + 1) (Rp u R s) K KR := by
  obtain ⟨h1, h2, h3, h4, h5⟩ := hh
  have hb := aB_out h.2.1
  obtain ⟨p, ep⟩ : ∃ p : Int, p = if F 113 3 = 16 then 0 else F 113 3 := ⟨_, rfl⟩
  have pb : (0 ≤ p ∧ p < 16) ∧ (p = F 113 3 ∨ (p = 0 ∧ F 113 3 = 16)) := by rw [ep]; split <;> omega
  obtain ⟨G, f1, f2, f3, f4, f5, f6⟩ := c_remember (sT := sT) h.1 h2 (by omega) ep
  have fr : ∀ a, a ≠ 113 → (a < 117 ∨ 196 < a) → G a = F a := fun a x y => f3 a x (by omega)
  have e1 : G 1 8 = F 1 8 := by rw [fr 1 (by omega) (by omega)]
  have eb : G (F 1 8) = F (F 1 8) ∧ G (F 1 8 + 8) = F (F 1 8 + 8) := ⟨fr _ (by omega) (by omega), fr _ (by omega) (by omega)⟩
  refine ⟨G, f1, h.fr f2 (fun a x _ y => fr a x (by omega)), fr, ?_, ?_, by split <;> omega, fun j x y => ?_, fun k x y => ?_⟩
  · rw [f5, h1]; split <;> omega
  · rw [f4]; omega
  · rw [e1]
    by_cases z : j = (if u = 16 then 16 else u + 1) - 1
    · have es : slt (G 113 3) (if u = 16 then 16 else u + 1) j = 117 + 5 * p := by
        unfold slt
        rw [z, f4]
        split <;> omega
      rw [es]
      unfold Rp
      rw [if_pos z]
      exact sR_st h.2.2.1 h.2.2.2.2.1 eb f6
    · have es : slt (G 113 3) (if u = 16 then 16 else u + 1) j = slt (F 113 3) u (j + (if u = 16 then 1 else 0)) := by
        unfold slt
        rw [f4]
        split <;> omega
      have hj : j + (if u = 16 then 1 else 0) < u ∧ 0 ≤ j + (if u = 16 then (1 : Int) else 0) ∧ (u = 16 → 1 ≤ j + (if u = 16 then (1 : Int) else 0)) := by
        split at y <;> split at z <;> split <;> omega
      rw [es]
      unfold Rp
      rw [if_neg z]
      refine sR_fr (h4 _ hj.2.1 hj.1) eb (fun a v w => ?_)
      generalize j + (if u = 16 then (1 : Int) else 0) = i at hj v w
      unfold slt at v w
      exact f3 a (by omega) (by omega)
  · rw [fr 116 (by omega) (by omega), e1]
    exact ⟨(h5 k x y).1, fun z => sR_fr ((h5 k x y).2 z) eb (fun a v w => fr a (by omega) (by omega))⟩
/-- the state changed, all reckoned anew -/
theorem c_anew (h : cS D s F) (hh : cH D F u R K KR) {s' : Int → Int} {G : pd_F} (g1 : pd_Ly G) (g2 : ∀ a, (a < 231 ∨ 235 < a) → G a = F a) (g3 : sR D G (F 1 8) 231 s') : ∃ H, pfX11_refresh (pd_SH sT) 5000 G 1 = some H ∧ cS D s' H ∧ zF F H ∧ cH D H u R K KR := by
  have hb := aB_out h.2.1
  have e1 : G 1 8 = F 1 8 := by rw [g2 1 (by omega)]
  obtain ⟨H, f1, f2, f3, f4⟩ := c_refresh (sT := sT) h.2.2.1 h.2.1 g1 e1 (h.2.2.2.1.fr h.2.1 h.2.2.1 (fun a x y => g2 a (by omega))) g3
  have e2 : H 1 8 = F 1 8 := by rw [f3 1 (by omega), e1]
  have fr : ∀ a, (a < 214 ∨ 259 ≤ a) → H a = F a := fun a x => (f3 a (by omega)).trans (g2 a (by omega))
  refine ⟨H, f1, ⟨f2, by rw [e2]; exact h.2.1, h.2.2.1, ?_, ?_, f4⟩, fun a _ _ _ y => fr a (by omega), hh.fr h.2.1 fr⟩
  · rw [e2]
    exact h.2.2.2.1.fr h.2.1 h.2.2.1 (fun a x y => fr a (by omega))
  · rw [e2]
    exact sR_fr g3 ⟨f3 _ (by omega), f3 _ (by omega)⟩ (fun a x y => f3 a (by omega))
/-- an act after the state was laid behind -/
theorem c_act (h : cS D s F) (hh : cH D F u R K KR) {s' : Int → Int} {F1 G : pd_F} (e1 : pfX3_remember (pd_SH sT) 5000 F 113 231 = some F1) (g1 : pd_Ly G) (g2 : ∀ a, (a < 231 ∨ 235 < a) → G a = F1 a) (g3 : sR D F1 (F 1 8) 231 s → sR D G (F 1 8) 231 s') :
    ∃ H, pfX11_refresh (pd_SH sT) 5000 G 1 = some H ∧ cS D s' H ∧ zF F H ∧ cH D H (if u = 16 then 16 else u + 1) (Rp u R s) K KR := by
  obtain ⟨F2, f1, f2, f3, f4⟩ := c_push (sT := sT) h hh
  have e : F2 = F1 := by rw [f1] at e1; exact Option.some.inj e1
  subst e
  have e8 : F2 1 8 = F 1 8 := by rw [f3 1 (by omega) (by omega)]
  have sr := f2.2.2.2.2.1
  rw [e8] at sr
  have sr' := g3 sr
  rw [← e8] at sr'
  obtain ⟨H, p1, p2, p3, p4⟩ := c_anew (sT := sT) f2 f4 g1 g2 sr'
  refine ⟨H, p1, p2, fun a x y z w => (p3 a x y z w).trans (f3 a x (by omega)), p4⟩
theorem p_balance (h : cS D s F) (hh : cH D F u R K KR) {a v : Int} : (¬ ((0 ≤ a ∧ a < D 371 0) ∧ 0 ≤ v ∧ v ≤ 9999999) ∧ pfX11_balance (pd_SH sT) 5000 F 1 a v = some (-1, F)) ∨
    (((0 ≤ a ∧ a < D 371 0) ∧ 0 ≤ v ∧ v ≤ 9999999) ∧ ∃ H, pfX11_balance (pd_SH sT) 5000 F 1 a v = some (s a, H) ∧ cS D (ru s a v) H ∧ zF F H ∧ cH D H (if u = 16 then 16 else u + 1) (Rp u R s) K KR) := by
  have n5 := h.2.2.1.1.2.2.2.2.2.1
  have hb := aB_out h.2.1
  unfold pfX11_balance
  simp only [pl_l, pl_b, pl_iT, pl_t, pl_f, gx_1, gx_2, gx_3, gx_4, gx_113, gx_114, gx_115, gx_116, gx_212, gx_213, gx_224, gn_4, gn_114, gn_115, gn_116, gn_213, gn_224, p_isAccount (sT := sT) h]
  by_cases a0 : 0 ≤ a ∧ a < D 371 0
  · by_cases v0 : 0 ≤ v ∧ v ≤ 9999999
    · refine Or.inr ⟨⟨a0, v0⟩, ?_⟩
      obtain ⟨F1, f1, f2, f3, f4⟩ := c_push (sT := sT) h hh
      have l1 : pd_Ly (pd_up F1 232 a v) := f2.1.up (pl_rc0 (sh_s (sT := sT) aS_now).2.1 (by decide))
      obtain ⟨H, p1, p2, p3, p4⟩ := c_act (sT := sT) h hh f1 l1 (fun c x => pu_a (by omega)) (s' := ru s a v) (fun q => sR_balance q (by omega) v0 n5 (by omega) (fun c x => pu_a x) pu_row)
      have ea := h.2.2.2.2.1.2.2.2.2.2.1 a a0.1 a0.2
      rw [show (231 : Int) + 1 = 232 from rfl] at ea
      refine ⟨H, ?_, p2, p3, p4⟩
      rw [if_pos a0, if_neg (by decide), if_neg (by omega), if_pos v0.2]
      simp (disch := omega) only [gx_1, gx_2, gx_3, gx_4, gx_113, gx_114, gx_115, gx_116, gx_212, gx_213, gx_224, gn_4, gn_114, gn_115, gn_116, gn_213, gn_224, lx_1_0 h.1, lx_1_1 h.1, lx_1_2 h.1, lx_1_3 h.1, lx_1_4 h.1, lx_1_5 h.1, lx_1_6 h.1, lx_1_7 h.1, lx_2_0 h.1, lx_3_0 h.1, lx_113_0 h.1, lx_113_1 h.1, lx_113_2 h.1, lx_212_0 h.1, lx_212_1 h.1, ox_231, e_231 h.1, ix_232, ea, pl_i, pl_l, pl_b, pl_iT, pl_t, pl_f, f1]
      simp (disch := omega) only [gx_1, gx_2, gx_3, gx_4, gx_113, gx_114, gx_115, gx_116, gx_212, gx_213, gx_224, gn_4, gn_114, gn_115, gn_116, gn_213, gn_224, lx_1_0 f2.1, lx_1_1 f2.1, lx_1_2 f2.1, lx_1_3 f2.1, lx_1_4 f2.1, lx_1_5 f2.1, lx_1_6 f2.1, lx_1_7 f2.1, lx_2_0 f2.1, lx_3_0 f2.1, lx_113_0 f2.1, lx_113_1 f2.1, lx_113_2 f2.1, lx_212_0 f2.1, lx_212_1 f2.1, ox_231, e_231 f2.1, ix_232, pl_i, pl_l, pl_b, pl_iT, pl_t, pl_f, p1]
    · refine Or.inl ⟨fun w => v0 w.2, ?_⟩
      rw [if_pos a0, if_neg (by decide)]
      by_cases z : v < 0
      · rw [if_pos z]
      · rw [if_neg z, if_neg (by omega)]
  · refine Or.inl ⟨fun w => a0 w.1, ?_⟩
    rw [if_neg a0, if_pos rfl]
theorem p_tell (h : cS D s F) (hh : cH D F u R K KR) {w v : Int} : (¬ (F 1 9 ≠ 0 ∧ (0 ≤ w ∧ w ≤ 2) ∧ 0 ≤ v ∧ v ≤ tMx w) ∧ pfX11_tell (pd_SH sT) 5000 F 1 w v = some (-1, F)) ∨
    ((F 1 9 ≠ 0 ∧ (0 ≤ w ∧ w ≤ 2) ∧ 0 ≤ v ∧ v ≤ tMx w) ∧ ∃ H, pfX11_tell (pd_SH sT) 5000 F 1 w v = some (s (71 + w), H) ∧ cS D (ru s (71 + w) v) H ∧ zF F H ∧ cH D H (if u = 16 then 16 else u + 1) (Rp u R s) K KR) := by
  have n5 := h.2.2.1.1.2.2.2.2.2.1
  have hb := aB_out h.2.1
  have eg : pfX11_greatestOf (pd_SH sT) 5000 F w = some (tMx w, F) := by
    unfold pfX11_greatestOf tMx
    by_cases z : w = 0
    · rw [if_neg (fun q => q z), if_pos z]
    · rw [if_pos z, if_neg z]
  unfold pfX11_tell
  simp only [pl_l, pl_b, pl_iT, pl_t, pl_f, gx_1, gx_2, gx_3, gx_4, gx_113, gx_114, gx_115, gx_116, gx_212, gx_213, gx_224, gn_4, gn_114, gn_115, gn_116, gn_213, gn_224, eg]
  by_cases k0 : F 1 9 = 0
  · exact Or.inl ⟨fun z => z.1 k0, by rw [if_pos k0]⟩
  by_cases k1 : w < 0
  · exact Or.inl ⟨fun z => by have := z.2.1; omega, by rw [if_neg k0, if_pos k1]⟩
  by_cases k2 : w ≥ 3
  · exact Or.inl ⟨fun z => by have := z.2.1; omega, by rw [if_neg k0, if_neg k1, if_pos k2]⟩
  by_cases k3 : v < 0
  · exact Or.inl ⟨fun z => by have := z.2.2; omega, by rw [if_neg k0, if_neg k1, if_neg k2, if_pos k3]⟩
  by_cases k4 : v ≤ tMx w
  · refine Or.inr ⟨⟨k0, by omega, by omega, k4⟩, ?_⟩
    obtain ⟨F1, f1, f2, f3, f4⟩ := c_push (sT := sT) h hh
    have l1 : pd_Ly (pd_up F1 233 w v) := f2.1.up (pl_rc0 (sh_s (sT := sT) aS_now).2.2.1 (by decide))
    obtain ⟨H, p1, p2, p3, p4⟩ := c_act (sT := sT) h hh f1 l1 (fun c x => pu_a (by omega)) (s' := ru s (71 + w) v) (fun q => sR_tell q (by omega) (by omega) n5 (by omega) (fun c x => pu_a x) pu_row)
    have ew : F 233 w = s (71 + w) := by
      have z := h.2.2.2.2.1.2.2.2.2.2.2.1
      rw [show (231 : Int) + 2 = 233 from rfl] at z
      have c : w = 0 ∨ w = 1 ∨ w = 2 := by omega
      rcases c with rfl | rfl | rfl
      · exact z.1
      · exact z.2.1
      · exact z.2.2
    refine ⟨H, ?_, p2, p3, p4⟩
    rw [if_neg k0, if_neg k1, if_neg k2, if_neg k3, if_pos k4]
    simp (disch := omega) only [gx_1, gx_2, gx_3, gx_4, gx_113, gx_114, gx_115, gx_116, gx_212, gx_213, gx_224, gn_4, gn_114, gn_115, gn_116, gn_213, gn_224, lx_1_0 h.1, lx_1_1 h.1, lx_1_2 h.1, lx_1_3 h.1, lx_1_4 h.1, lx_1_5 h.1, lx_1_6 h.1, lx_1_7 h.1, lx_2_0 h.1, lx_3_0 h.1, lx_113_0 h.1, lx_113_1 h.1, lx_113_2 h.1, lx_212_0 h.1, lx_212_1 h.1, ox_231, e_231 h.1, ix_233, ew, pl_i, pl_l, pl_b, pl_iT, pl_t, pl_f, f1]
    simp (disch := omega) only [gx_1, gx_2, gx_3, gx_4, gx_113, gx_114, gx_115, gx_116, gx_212, gx_213, gx_224, gn_4, gn_114, gn_115, gn_116, gn_213, gn_224, lx_1_0 f2.1, lx_1_1 f2.1, lx_1_2 f2.1, lx_1_3 f2.1, lx_1_4 f2.1, lx_1_5 f2.1, lx_1_6 f2.1, lx_1_7 f2.1, lx_2_0 f2.1, lx_3_0 f2.1, lx_113_0 f2.1, lx_113_1 f2.1, lx_113_2 f2.1, lx_212_0 f2.1, lx_212_1 f2.1, ox_231, e_231 f2.1, ix_233, pl_i, pl_l, pl_b, pl_iT, pl_t, pl_f, p1]
  · exact Or.inl ⟨fun z => k4 z.2.2.2, by rw [if_neg k0, if_neg k1, if_neg k2, if_neg k3, if_neg k4]⟩
end CH

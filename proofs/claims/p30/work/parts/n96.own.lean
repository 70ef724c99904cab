/-! the law looks at the accounts -/
section LA
variable {sT : pd_S} {D : pd_F} {s : Int → Int} {F : pd_F} {Ls : Int} {xs : Int → Int}
noncomputable def way (D : pd_F) (a p : Int) : Int := if lWy (D 381) (D 382) 8 (5 + a) p ≤ 0 then 0 else 1
theorem way_01 {a p : Int} : 0 ≤ way D a p ∧ way D a p ≤ 1 := by unfold way; split <;> decide
theorem cS.b9 (h : cS D s F) : (0 ≤ D 369 0 ∧ D 369 0 ≤ 12) ∧ 0 ≤ D 371 0 ∧ D 371 0 ≤ 10 := by
  obtain ⟨b0, b1, b2, b3, b4, b5, -⟩ := h.2.2.1.1
  exact ⟨⟨b0, b1⟩, b4, b5⟩
theorem cS.gA (h : cS D s F) {a p : Int} (a0 : 0 ≤ a ∧ a < D 371 0) : 0 ≤ gA D s a p ∧ gA D s a p ≤ 9999999 := gA_bd h.2.2.1 h.2.2.2.2.1.1 a0.1 a0.2
theorem cS.sa (h : cS D s F) {a : Int} (a0 : 0 ≤ a ∧ a < D 371 0) : 0 ≤ s a ∧ s a ≤ 9999999 := h.2.2.2.2.1.1.1 a a0.1 a0.2
theorem k_acct (h : cS D s F) {a x2 : Int} (a0 : 0 ≤ a ∧ a < D 371 0) (hx : 0 ≤ x2 ∧ x2 ≤ 1000000000) {c43 : pd_S → pd_F → Int → Int → Int → Option Int} : ∀ (k : Nat) (x8 : Int), 0 ≤ x8 ∧ x8 ≤ D 369 0 → D 369 0 - x8 < k → pfL_law_b62 Ls xs 5000 c43 k (pd_SH sT) F 1 x2 a (Sm (gA D s a) x8) (Sm (way D a) x8) x8 = c43 (pd_SH sT) F 1 (x2 + s a) (a + 1) := by
  have bb := h.b9
  intro k
  induction k with
  | zero => intro x8 h8 hk; omega
  | succ k ih =>
    intro x8 h8 hk
    have cnt : pfX11_count (pd_SH sT) 5000 F 1 0 = some (D 369 0, F) := p_count h
    have b5 := Sm_bd (f := gA D s a) (lo := 0) (hi := 9999999) h8.1 (fun i _ _ => h.gA a0)
    have b7 := Sm_bd (f := way D a) (lo := 0) (hi := 1) h8.1 (fun i _ _ => way_01)
    rw [pfL_law_b62]
    simp only [gx_1, pl_iT, cnt, pl_b, pl_l]
    by_cases c : x8 ≥ D 369 0
    · rw [if_pos c]
      have e8 : x8 = D 369 0 := by omega
      subst e8
      have all := gA_all h a0
      have e5 : Sm (gA D s a) (D 369 0) = ci (lFl (D 381) (D 382) (D 383) 8 (5 + a)) 0 (s a) := all
      have sa := h.sa a0
      have q : ∀ w, pfX11_account (pd_SH sT) 5000 F 1 a w = some (if w = 0 then s a else if w = 1 then D 381 (5 + a) else if w = 2 then ci (lFl (D 381) (D 382) (D 383) 8 (5 + a)) 1 0 else if w = 3 then Sm (way D a) (D 369 0) else -1, F) := fun w => by
        rw [p_account h, if_pos a0]; rfl
      have q0 : pfX11_account (pd_SH sT) 5000 F 1 a 0 = some (s a, F) := q 0
      have q2 : pfX11_account (pd_SH sT) 5000 F 1 a 2 = some (ci (lFl (D 381) (D 382) (D 383) 8 (5 + a)) 1 0, F) := q 2
      have q3 : pfX11_account (pd_SH sT) 5000 F 1 a 3 = some (Sm (way D a) (D 369 0), F) := q 3
      have fin : ∀ t0, t0 = Sm (gA D s a) (D 369 0) → pfL_law_b164 Ls xs 5000 c43 (pd_SH sT) F 1 x2 a (Sm (way D a) (D 369 0)) t0 (Sm (gA D s a) (D 369 0)) = c43 (pd_SH sT) F 1 (x2 + s a) (a + 1) := fun t0 e => by
        unfold pfL_law_b164
        rw [e, if_neg (fun z => z rfl)]
        simp only [gx_1, pl_iT, q3, q0, pl_b, pl_l, pl_t]
        rw [pl_W (by omega), pl_w (by omega)]
      unfold pfL_law_b140
      simp only [gx_1, pl_iT, q2, pl_b, pl_l]
      rcases Classical.em (lFl (D 381) (D 382) (D 383) 8 (5 + a)) with hf | hf
      · rw [ci_t hf, if_neg (fun z => z rfl)]
        exact fin 0 (by rw [e5, ci_t hf])
      · rw [ci_f hf, if_pos (show (0 : Int) ≠ 1 by decide), q0]
        simp only [pl_b, pl_l]
        exact fin _ (by rw [e5, ci_f hf])
    · rw [if_neg c]
      have c0 : 0 ≤ x8 ∧ x8 < D 369 0 := by omega
      have g := h.gA (p := x8) a0
      have w1 := way_01 (D := D) (a := a) (p := x8)
      have qw : pfX11_ways (pd_SH sT) 5000 F 1 a x8 = some (lWy (D 381) (D 382) 8 (5 + a) x8, F) := by rw [p_ways h, if_pos ⟨a0, c0⟩]
      have on := ih (x8 + 1) (by omega) (by omega)
      rw [Sm_s h8.1, Sm_s h8.1] at on
      have e123 : ∀ t0, t0 = way D a x8 → pfL_law_b123 Ls xs 5000 c43 (pfL_law_b62 Ls xs 5000 c43 k) (pd_SH sT) F 1 x2 a (Sm (gA D s a) x8) x8 (gA D s a x8) t0 (Sm (way D a) x8) = c43 (pd_SH sT) F 1 (x2 + s a) (a + 1) := fun t0 e => by
        subst e
        unfold pfL_law_b123
        simp only [pl_l]
        rw [pl_w (by omega), pl_W (by omega), pl_w (by omega)]
        exact on
      have e105 : pfL_law_b105 Ls xs 5000 c43 (pfL_law_b62 Ls xs 5000 c43 k) (pd_SH sT) F 1 x2 a (Sm (gA D s a) x8) (Sm (way D a) x8) x8 (gA D s a x8) = c43 (pd_SH sT) F 1 (x2 + s a) (a + 1) := by
        unfold pfL_law_b105
        simp only [gx_1, pl_iT, qw, pl_b, pl_l]
        by_cases z : lWy (D 381) (D 382) 8 (5 + a) x8 ≤ 0
        · rw [if_pos z]
          exact e123 0 (by unfold way; rw [if_pos z])
        · rw [if_neg z]
          exact e123 1 (by unfold way; rw [if_neg z])
      rw [p_share (sT := sT) h a0 c0]
      simp only [pl_b, pl_l]
      rw [if_neg (by omega)]
      by_cases z : gA D s a x8 ≤ 0
      · rw [if_pos z]; exact e105
      · rw [if_neg z, qw]
        simp only [pl_b, pl_l]
        rw [if_pos (fun e => z (by rw [gA_way h a0 e]; exact Int.le_refl _))]
        exact e105
theorem k_accts (h : cS D s F) : ∀ (k : Nat) (x4 : Int), 0 ≤ x4 ∧ x4 ≤ D 371 0 → D 371 0 - x4 < k → pfL_law_b43 Ls xs 5000 k (pd_SH sT) F 1 (Sm s x4) x4 = pfL_law_b200 Ls xs 5000 (pd_SH sT) F 1 (Sm s (D 371 0)) := by
  have bb := h.b9
  intro k
  induction k with
  | zero => intro x4 h4 hk; omega
  | succ k ih =>
    intro x4 h4 hk
    have cnt : pfX11_count (pd_SH sT) 5000 F 1 2 = some (D 371 0, F) := p_count h
    have b5 := Sm_bd (f := s) (lo := 0) (hi := 9999999) h4.1 (fun i a b => h.sa ⟨a, by omega⟩)
    rw [pfL_law_b43]
    simp only [gx_1, pl_iT, cnt, pl_b, pl_l]
    by_cases c : x4 ≥ D 371 0
    · rw [if_pos c, show x4 = D 371 0 by omega]
    · rw [if_neg c]
      have e := k_acct (Ls := Ls) (xs := xs) (sT := sT) h (a := x4) (x2 := Sm s x4) ⟨h4.1, by omega⟩ (by omega) (c43 := pfL_law_b43 Ls xs 5000 k) 5000 0 (by omega) (by omega)
      rw [Sm_0, Sm_0] at e
      rw [e, ← Sm_s h4.1]
      exact ih (x4 + 1) (by omega) (by omega)
end LA

variable {sT : pd_S}
/-! the class: its tape fed -/
section FE
variable {F : pd_F}
theorem c_append (hL : pd_Ly F) {l v : Int} (h0 : F 3 1 = l) (h1 : 0 ≤ l ∧ l + 4 ≤ 1000) : ∃ F', pfX9_append (pd_SH sT) 5000 F 3 v = some F' ∧ pd_Ly F' ∧ (∀ b, b ≠ 3 → b ≠ 4 → F' b = F b) ∧ (∀ j, j ≠ 1 → F' 3 j = F 3 j) ∧ F' 3 1 = l + 4 ∧ F' 4 = byR (F 4) l v := by
  unfold pfX9_append
  refine pl_whl (f := fun j (q : pd_F × Int) => pfX9_append_b3 (pd_SH sT) 5000 j q.1 3 v q.2) (P := fun m q => m ≤ 4 ∧ q.2 = 8 * (m : Int) - 8 ∧ pd_Ly q.1 ∧ (∀ b, b ≠ 3 → b ≠ 4 → q.1 b = F b) ∧ (∀ j, j ≠ 1 → q.1 3 j = F 3 j) ∧ q.1 3 1 = l + 4 - m ∧ ∀ j, q.1 4 j = if l ≤ j ∧ j < l + 4 - m then pd_b (pd_shr v (24 - 8 * (j - l))) else F 4 j)
    (res := fun o => ∃ F', o = some F' ∧ pd_Ly F' ∧ (∀ b, b ≠ 3 → b ≠ 4 → F' b = F b) ∧ (∀ j, j ≠ 1 → F' 3 j = F 3 j) ∧ F' 3 1 = l + 4 ∧ F' 4 = byR (F 4) l v) ?_ 5000 4 (F, 24) (by omega) ⟨by omega, rfl, hL, fun _ _ _ => rfl, fun _ _ => rfl, by show F 3 1 = _; omega, fun j => by rw [if_neg (by omega)]⟩
  intro j m ⟨G, x⟩ ⟨q0, q1, q2, q3, q4, q5, q6⟩
  simp only at q1 q2 q3 q4 q5 q6
  match m with
  | 0 =>
    right
    refine ⟨G, ?_, q2, q3, q4, by rw [q5]; omega, ?_⟩
    · show pfX9_append_b3 (pd_SH sT) 5000 (j + 1) G 3 v x = _
      simp (disch := omega) only [pfX9_append_b3, if_pos]
    · funext i
      rw [q6 i]
      unfold byR
      by_cases c : l ≤ i ∧ i < l + 4
      · rw [if_pos c, if_pos (by omega)]
      · rw [if_neg c, if_neg (by omega)]
  | m + 1 =>
    left
    have e2 : G 3 1 = l + 3 - m := by rw [q5]; omega
    have hx : x = 8 * (m : Int) := by omega
    have hb : pd_b (pd_b (pd_ushr v x)) = pd_b (pd_shr v x) := shr_ushr (by omega)
    have g1 : pd_Ly (pd_up G 4 (l + 3 - m) (pd_b (pd_shr v x))) := q2.up (pl_rc0 sx_4 (by decide))
    have e3 : pd_up G 4 (l + 3 - m) (pd_b (pd_shr v x)) 3 1 = l + 3 - m := by rw [pu_a (by decide)]; exact e2
    refine ⟨m, (pd_up (pd_up G 4 (l + 3 - m) (pd_b (pd_shr v x))) 3 1 (l + 3 - m + 1), x - 8), by omega, ⟨by omega, by show x - 8 = _; omega, g1.up (pl_rc4 sx_3 (by decide)), fun b u w => by dsimp only; rw [pu_a u, pu_a w]; exact q3 b u w, fun i u => by dsimp only; rw [pu_r, if_neg u, pu_a (by decide)]; exact q4 i u, by dsimp only; rw [pu_r, if_pos rfl]; omega, fun i => ?_⟩, ?_⟩
    · dsimp only
      rw [pu_a (show (4 : Int) ≠ 3 by decide), pu_r]
      by_cases c : i = l + 3 - m
      · rw [if_pos c, if_pos (by omega), show 24 - 8 * (i - l) = x by omega]
      · rw [if_neg c, q6 i]
        by_cases d : l ≤ i ∧ i < l + 4 - ((m + 1 : Nat) : Int)
        · rw [if_pos d, if_pos (by omega)]
        · rw [if_neg d, if_neg (by omega)]
    · show pfX9_append_b3 (pd_SH sT) 5000 (j + 1) G 3 v x = pfX9_append_b3 (pd_SH sT) 5000 j _ 3 v (x - 8)
      simp (disch := omega) only [pfX9_append_b3, pfX9_append_b42, pl_l, pl_b, pl_iT, pl_t, pl_f, gx_1, gx_2, gx_3, gx_4, gx_113, gx_114, gx_115, gx_116, gx_212, gx_213, gx_224, gn_4, gn_114, gn_115, gn_116, gn_213, gn_224, lx_1_0 q2, lx_1_1 q2, lx_1_2 q2, lx_1_3 q2, lx_1_4 q2, lx_1_5 q2, lx_1_6 q2, lx_1_7 q2, lx_2_0 q2, lx_3_0 q2, lx_113_0 q2, lx_113_1 q2, lx_113_2 q2, lx_212_0 q2, lx_212_1 q2, e2, e3, hb, pl_w, pl_i, if_neg]
      rw [show x + -8 = x - 8 by omega]
theorem p_feed (hL : pd_Ly F) {l : Int} (h0 : F 3 1 = l) (h1 : 0 ≤ l ∧ l ≤ 1000) {a b c d e : Int} : (1000 < l + 20 ∧ pfX11_feed (pd_SH sT) 5000 F 1 a b c d e = some (-1, F)) ∨
    (l + 20 ≤ 1000 ∧ ∃ F', pfX11_feed (pd_SH sT) 5000 F 1 a b c d e = some (l + 20, F') ∧ pd_Ly F' ∧ (∀ b, b ≠ 3 → b ≠ 4 → F' b = F b) ∧ (∀ j, j ≠ 1 → F' 3 j = F 3 j) ∧ F' 3 1 = l + 20 ∧ F' 4 = byR (byR (byR (byR (byR (F 4) l a) (l + 4) b) (l + 8) c) (l + 12) d) (l + 16) e) := by
  unfold pfX11_feed
  simp only [pl_l, pl_b, pl_iT, pl_t, pl_f, gx_1, gx_2, gx_3, gx_4, gx_113, gx_114, gx_115, gx_116, gx_212, gx_213, gx_224, gn_4, gn_114, gn_115, gn_116, gn_213, gn_224, lx_1_0 hL, lx_1_1 hL, lx_1_2 hL, lx_1_3 hL, lx_1_4 hL, lx_1_5 hL, lx_1_6 hL, lx_1_7 hL, lx_2_0 hL, lx_3_0 hL, lx_113_0 hL, lx_113_1 hL, lx_113_2 hL, lx_212_0 hL, lx_212_1 hL, h0]
  rw [pl_w (by omega)]
  by_cases k : l + 20 ≤ 1000
  · rw [if_pos k]
    obtain ⟨F1, a1, a2, a3, a4, a5, a6⟩ := c_append (sT := sT) hL (v := a) h0 (by omega)
    obtain ⟨F2, b1, b2, b3, b4, b5, b6⟩ := c_append (sT := sT) a2 (v := b) a5 (by omega)
    obtain ⟨F3, c1, c2, c3, c4, c5, c6⟩ := c_append (sT := sT) b2 (v := c) b5 (by omega)
    obtain ⟨F4, d1, d2, d3, d4, d5, d6⟩ := c_append (sT := sT) c2 (v := d) c5 (by omega)
    obtain ⟨F5, e1, e2, e3, e4, e5, e6⟩ := c_append (sT := sT) d2 (v := e) d5 (by omega)
    simp only [a1, b1, c1, d1, e1, pl_l, pl_b, pl_iT, pl_t, pl_f, gx_1, gx_2, gx_3, gx_4, gx_113, gx_114, gx_115, gx_116, gx_212, gx_213, gx_224, gn_4, gn_114, gn_115, gn_116, gn_213, gn_224, lx_1_0 a2, lx_1_1 a2, lx_1_2 a2, lx_1_3 a2, lx_1_4 a2, lx_1_5 a2, lx_1_6 a2, lx_1_7 a2, lx_2_0 a2, lx_3_0 a2, lx_113_0 a2, lx_113_1 a2, lx_113_2 a2, lx_212_0 a2, lx_212_1 a2, lx_1_0 b2, lx_1_1 b2, lx_1_2 b2, lx_1_3 b2, lx_1_4 b2, lx_1_5 b2, lx_1_6 b2, lx_1_7 b2, lx_2_0 b2, lx_3_0 b2, lx_113_0 b2, lx_113_1 b2, lx_113_2 b2, lx_212_0 b2, lx_212_1 b2, lx_1_0 c2, lx_1_1 c2, lx_1_2 c2, lx_1_3 c2, lx_1_4 c2, lx_1_5 c2, lx_1_6 c2, lx_1_7 c2, lx_2_0 c2, lx_3_0 c2, lx_113_0 c2, lx_113_1 c2, lx_113_2 c2, lx_212_0 c2, lx_212_1 c2, lx_1_0 d2, lx_1_1 d2, lx_1_2 d2, lx_1_3 d2, lx_1_4 d2, lx_1_5 d2, lx_1_6 d2, lx_1_7 d2, lx_2_0 d2, lx_3_0 d2, lx_113_0 d2, lx_113_1 d2, lx_113_2 d2, lx_212_0 d2, lx_212_1 d2, lx_1_0 e2, lx_1_1 e2, lx_1_2 e2, lx_1_3 e2, lx_1_4 e2, lx_1_5 e2, lx_1_6 e2, lx_1_7 e2, lx_2_0 e2, lx_3_0 e2, lx_113_0 e2, lx_113_1 e2, lx_113_2 e2, lx_212_0 e2, lx_212_1 e2, e5]
    refine Or.inr ⟨k, F5, by rw [show l + 4 + 4 + 4 + 4 + 4 = l + 20 by omega], e2, fun b x y => ?_, fun j x => ?_, by omega, ?_⟩
    · rw [e3 b x y, d3 b x y, c3 b x y, b3 b x y, a3 b x y]
    · rw [e4 j x, d4 j x, c4 j x, b4 j x, a4 j x]
    · rw [e6, d6, c6, b6, a6]
      rw [show l + 4 + 4 = l + 8 by omega, show l + 8 + 4 = l + 12 by omega, show l + 12 + 4 = l + 16 by omega]
  · rw [if_neg k]
    exact Or.inl ⟨by omega, rfl⟩
end FE

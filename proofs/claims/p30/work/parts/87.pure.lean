variable {sT : pd_S}
/-! the class: its answers that leave all as it was -/
theorem lWy_np {np : Int} {pm pt pw : Int → Int} : ∀ (k : Nat) (l nt p : Int), lOk np pm pt pw l nt → (∀ t, 0 ≤ t → t < nt → lOk np pm pt pw t t) → np ≤ p → p < 16 → np ≤ 16 → lWy pm pt k l p = 0
  | 0, _, _, _, _, _, _, _, _ => rfl
  | k + 1, l, nt, p, h, ht, h1, h2, h3 => by
    refine Sm_zero fun i a c => ?_
    have z := (h.2.2 i a c).1
    rw [if_neg (by omega)]
    by_cases w : 16 ≤ pt (5 * l + i)
    · rw [if_pos w]
      exact lWy_np k _ (pt (5 * l + i) - 16) p (ht _ (by omega) (by omega)) (fun t x y => ht t x (by omega)) h1 h2 h3
    · rw [if_neg w]
theorem Sm_cut {f : Int → Int} {n : Int} (h0 : 0 ≤ n) : ∀ k : Nat, (∀ i, n ≤ i → i < n + k → f i = 0) → Sm f (n + k) = Sm f n
  | 0, _ => by simp
  | k + 1, h => by
    rw [show n + ((k + 1 : Nat) : Int) = n + k + 1 by omega, Sm_s (by omega), Sm_cut h0 k (fun i a c => h i a (by omega)), h _ (by omega) (by omega)]; omega
theorem it_s {F : pd_F} {c : Prop} [Decidable c] {a b : Int} : (if c then some (a, F) else some (b, F)) = some (if c then a else b, F) := by split <;> rfl
section CQ
variable {D : pd_F} {s : Int → Int} {F : pd_F}
theorem cS.ob (h : cS D s F) : (pd_ob (pd_SH sT) 0 (F 1 8) = true) = True := pl_ob (sh_b (sT := sT) h.2.1).1
theorem cS.n0 (h : cS D s F) : F (F 1 8) 9 = D 369 0 := h.2.2.2.1.1
theorem cS.n1 (h : cS D s F) : F (F 1 8) 10 = D 370 0 := h.2.2.2.1.2.1
theorem cS.n2 (h : cS D s F) : F (F 1 8) 11 = D 371 0 := h.2.2.2.1.2.2.1
theorem cS.n3 (h : cS D s F) : F (F 1 8) 12 = D 372 0 := h.2.2.2.1.2.2.2.1
theorem cS.n4 (h : cS D s F) : F (F 1 8) 13 = D 373 0 := h.2.2.2.1.2.2.2.2.1
theorem ox_236 : (pd_ob (pd_SH sT) 4 236 = true) = True := pl_ob (sh_l (sT := sT) (l := 236) (Or.inl rfl)).1
theorem ox_237 : (pd_ob (pd_SH sT) 10 237 = true) = True := pl_ob (sh_t (sT := sT) (t := 237) (Or.inl rfl)).1
theorem ox_231 : (pd_ob (pd_SH sT) 8 231 = true) = True := pl_ob (sh_s (sT := sT) aS_now).1
theorem ix_232 {i : Int} : (pd_ib (pd_SH sT) 0 0 232 i = true) = (0 ≤ i ∧ i < 10) := pl_ib (sh_s (sT := sT) aS_now).2.1
theorem ix_233 {i : Int} : (pd_ib (pd_SH sT) 0 0 233 i = true) = (0 ≤ i ∧ i < 3) := pl_ib (sh_s (sT := sT) aS_now).2.2.1
theorem ix_239 {i : Int} : (pd_ib (pd_SH sT) 0 0 239 i = true) = (0 ≤ i ∧ i < 12) := pl_ib (sh_t (sT := sT) (t := 237) (Or.inl rfl)).2.2.1
theorem ix_240 {i : Int} : (pd_ib (pd_SH sT) 0 0 240 i = true) = (0 ≤ i ∧ i < 12) := pl_ib (sh_t (sT := sT) (t := 237) (Or.inl rfl)).2.2.2
theorem e_236 (h : pd_Ly F) : F 236 0 = 237 ∧ F 236 1 = 241 ∧ F 236 2 = 242 ∧ F 236 3 = 243 ∧ F 236 4 = 244 := ly_l h (l := 236) (Or.inl rfl)
theorem e_237 (h : pd_Ly F) : F 237 0 = 238 ∧ F 237 1 = 239 ∧ F 237 2 = 240 := ly_t h (t := 237) (Or.inl rfl)
theorem e_231 (h : pd_Ly F) : F 231 0 = 232 ∧ F 231 1 = 233 ∧ F 231 2 = 234 ∧ F 231 3 = 235 := ly_s h aS_now
theorem p_isPerson (h : cS D s F) {p : Int} : pfX11_isPerson (pd_SH sT) 5000 F 1 p = some (if 0 ≤ p ∧ p < D 369 0 then 1 else 0, F) := by
  unfold pfX11_isPerson
  simp only [pl_l, pl_b, pl_iT, pl_t, pl_f, gx_1, gx_2, gx_3, gx_4, gx_113, gx_114, gx_115, gx_116, gx_212, gx_213, gx_224, gn_4, gn_114, gn_115, gn_116, gn_213, gn_224, h.ob, h.n0]
  by_cases a : p < 0
  · rw [if_pos a, if_neg (by omega)]
  · rw [if_neg a]
    by_cases c : p ≥ D 369 0
    · rw [if_pos c, if_neg (by omega)]
    · rw [if_neg c, if_pos (by omega)]
theorem p_isAccount (h : cS D s F) {p : Int} : pfX11_isAccount (pd_SH sT) 5000 F 1 p = some (if 0 ≤ p ∧ p < D 371 0 then 1 else 0, F) := by
  unfold pfX11_isAccount
  simp only [pl_l, pl_b, pl_iT, pl_t, pl_f, gx_1, gx_2, gx_3, gx_4, gx_113, gx_114, gx_115, gx_116, gx_212, gx_213, gx_224, gn_4, gn_114, gn_115, gn_116, gn_213, gn_224, h.ob, h.n2]
  by_cases a : p < 0
  · rw [if_pos a, if_neg (by omega)]
  · rw [if_neg a]
    by_cases c : p ≥ D 371 0
    · rw [if_pos c, if_neg (by omega)]
    · rw [if_neg c, if_pos (by omega)]
theorem p_isDepositor (h : cS D s F) {p : Int} : pfX11_isDepositor (pd_SH sT) 5000 F 1 p = some (if 0 ≤ p ∧ p < sD D s then 1 else 0, F) := by
  have n := h.w.nt
  rw [show (236 : Int) + 1 = 237 from rfl] at n
  unfold pfX11_isDepositor
  simp only [pl_l, pl_b, pl_iT, pl_t, pl_f, gx_1, gx_2, gx_3, gx_4, gx_113, gx_114, gx_115, gx_116, gx_212, gx_213, gx_224, gn_4, gn_114, gn_115, gn_116, gn_213, gn_224, lx_1_0 h.1, lx_1_1 h.1, lx_1_2 h.1, lx_1_3 h.1, lx_1_4 h.1, lx_1_5 h.1, lx_1_6 h.1, lx_1_7 h.1, lx_2_0 h.1, lx_3_0 h.1, lx_113_0 h.1, lx_113_1 h.1, lx_113_2 h.1, lx_212_0 h.1, lx_212_1 h.1, ox_236, ox_237, e_236 h.1, n]
  by_cases a : p < 0
  · rw [if_pos a, if_neg (by omega)]
  · rw [if_neg a]
    by_cases c : p ≥ sD D s
    · rw [if_pos c, if_neg (by omega)]
    · rw [if_neg c, if_pos (by omega)]
theorem p_areTwo (h : cS D s F) {p o : Int} : pfX11_areTwo (pd_SH sT) 5000 F 1 p o = some (if (0 ≤ p ∧ p < D 369 0) ∧ (0 ≤ o ∧ o < D 369 0) ∧ p ≠ o then 1 else 0, F) := by
  unfold pfX11_areTwo
  simp only [pl_l, pl_b, pl_iT, pl_t, pl_f, gx_1, gx_2, gx_3, gx_4, gx_113, gx_114, gx_115, gx_116, gx_212, gx_213, gx_224, gn_4, gn_114, gn_115, gn_116, gn_213, gn_224, p_isPerson (sT := sT) h]
  by_cases a : 0 ≤ p ∧ p < D 369 0
  · rw [if_pos a, if_neg (by decide)]
    by_cases c : 0 ≤ o ∧ o < D 369 0
    · rw [if_pos c, if_neg (by decide)]
      by_cases e : p = o
      · rw [if_pos e, if_neg (fun w => w.2.2 e)]
      · rw [if_neg e, if_pos ⟨a, c, e⟩]
    · rw [if_neg c, if_pos rfl, if_neg (fun w => c w.2.1)]
  · rw [if_neg a, if_pos rfl, if_neg (fun w => a w.1)]
theorem p_ways (h : cS D s F) {a p : Int} : pfX11_ways (pd_SH sT) 5000 F 1 a p = some (if (0 ≤ a ∧ a < D 371 0) ∧ 0 ≤ p ∧ p < D 369 0 then lWy (D 381) (D 382) 8 (5 + a) p else -1, F) := by
  have hb := h.2.1
  have sb3 := (sh_b (sT := sT) hb).2.2.2.1
  have hD := h.2.2.1
  have n5 := hD.1.2.2.2.2.2.1
  have n1 := hD.1.2.1
  unfold pfX11_ways
  simp only [pl_l, pl_b, pl_iT, pl_t, pl_f, gx_1, gx_2, gx_3, gx_4, gx_113, gx_114, gx_115, gx_116, gx_212, gx_213, gx_224, gn_4, gn_114, gn_115, gn_116, gn_213, gn_224, p_isAccount (sT := sT) h, p_isPerson (sT := sT) h]
  by_cases a0 : 0 ≤ a ∧ a < D 371 0
  · rw [if_pos a0, if_neg (by decide)]
    by_cases c : 0 ≤ p ∧ p < D 369 0
    · have kg := (h.2.2.2.1.2.2.2.2.2.2.2.1 a a0.1 a0.2).2.2.2.2.1 p c.1 (by omega)
      obtain ⟨-, -, l2, sg, -, -, sg3⟩ := fy_g (sT := sT) h.1 hb (i := 5 + a) (by omega) (by omega)
      have eac := fy_ac h.1 hb (i := a) (by omega) (by omega)
      have l1 := (ly_b h.1 hb).2.2.1
      rw [if_pos c, if_neg (by decide), if_pos ⟨a0, c⟩]
      simp (disch := omega) only [h.ob, l1, pl_ib sb3, eac, pl_ob sg, l2, pl_ib sg3, kg, pl_iT, pl_i]
    · rw [if_neg c, if_pos rfl, if_neg (fun w => c w.2)]
  · rw [if_neg a0, if_pos rfl, if_neg (fun w => a0 w.1)]
theorem p_reached (h : cS D s F) {a : Int} (h0 : 0 ≤ a) (h1 : a < D 371 0) : pfX2_personsReached (pd_SH sT) 5000 F (F 1 8 + 34 + 4 * (5 + a)) = some (Sm (fun p => if lWy (D 381) (D 382) 8 (5 + a) p ≤ 0 then 0 else 1) (D 369 0), F) := by
  have hb := h.2.1
  have hD := h.2.2.1
  have n5 := hD.1.2.2.2.2.2.1
  have n0 := hD.1.1
  have n1 := hD.1.2.1
  obtain ⟨-, -, l2, sg, -, -, sg3⟩ := fy_g (sT := sT) h.1 hb (i := 5 + a) (by omega) (by omega)
  have ec : Sm (fun p => if lWy (D 381) (D 382) 8 (5 + a) p ≤ 0 then 0 else 1) 12 = Sm (fun p => if lWy (D 381) (D 382) 8 (5 + a) p ≤ 0 then 0 else 1) (D 369 0) := by
    have := Sm_cut (f := fun p => if lWy (D 381) (D 382) 8 (5 + a) p ≤ 0 then 0 else 1) n0 (12 - D 369 0).toNat (fun i x y => by
      rw [lWy_np 8 (5 + a) (D 370 0) i (bOk_ac hD h0 h1) (bOk_tr hD) x (by omega) (by omega), if_pos (by decide)])
    rw [show D 369 0 + ((12 - D 369 0).toNat : Int) = 12 by omega] at this
    exact this
  rw [← ec]
  unfold pfX2_personsReached
  refine pl_sum (f := fun k q i => pfX2_personsReached_b4 (pd_SH sT) 5000 k F (F 1 8 + 34 + 4 * (5 + a)) q i) (g := fun p => if lWy (D 381) (D 382) 8 (5 + a) p ≤ 0 then 0 else 1) (by omega) (fun k q i x y e => ?_) (fun k q => ?_) (by omega)
  · have b1 := Sm_bd (f := fun p => if lWy (D 381) (D 382) 8 (5 + a) p ≤ 0 then 0 else 1) (lo := 0) (hi := 1) x (fun p _ _ => by split <;> omega)
    rw [← e] at b1
    have kg := (h.2.2.2.1.2.2.2.2.2.2.2.1 a h0 h1).2.2.2.2.1 i x y
    show pfX2_personsReached_b4 (pd_SH sT) 5000 (k + 1) F (F 1 8 + 34 + 4 * (5 + a)) q i = pfX2_personsReached_b4 (pd_SH sT) 5000 k F (F 1 8 + 34 + 4 * (5 + a)) (q + (if lWy (D 381) (D 382) 8 (5 + a) i ≤ 0 then 0 else 1)) (i + 1)
    by_cases z : lWy (D 381) (D 382) 8 (5 + a) i ≤ 0
    · rw [if_pos z, Int.add_zero]
      simp (disch := omega) only [pfX2_personsReached_b4, pfX2_personsReached_b25, pl_l, pl_b, pl_iT, pl_t, pl_f, pl_ob sg, l2, pl_ln sg3, pl_ib sg3, kg, pl_i, pl_w, if_pos, if_neg]
    · rw [if_neg z]
      simp (disch := omega) only [pfX2_personsReached_b4, pfX2_personsReached_b25, pl_l, pl_b, pl_iT, pl_t, pl_f, pl_ob sg, l2, pl_ln sg3, pl_ib sg3, kg, pl_i, pl_w, if_neg]
  · show pfX2_personsReached_b4 (pd_SH sT) 5000 (k + 1) F (F 1 8 + 34 + 4 * (5 + a)) q 12 = _
    simp (disch := omega) only [pfX2_personsReached_b4, pl_l, pl_b, pl_iT, pl_t, pl_f, pl_ob sg, l2, pl_ln sg3, pl_i, if_pos]
theorem p_account (h : cS D s F) {a w : Int} : pfX11_account (pd_SH sT) 5000 F 1 a w = some (if 0 ≤ a ∧ a < D 371 0 then (if w = 0 then s a else if w = 1 then D 381 (5 + a) else if w = 2 then ci (lFl (D 381) (D 382) (D 383) 8 (5 + a)) 1 0 else if w = 3 then Sm (fun p => if lWy (D 381) (D 382) 8 (5 + a) p ≤ 0 then 0 else 1) (D 369 0) else -1) else -1, F) := by
  have hb := h.2.1
  have sb3 := (sh_b (sT := sT) hb).2.2.2.1
  have hD := h.2.2.1
  have n5 := hD.1.2.2.2.2.2.1
  unfold pfX11_account
  simp only [pl_l, pl_b, pl_iT, pl_t, pl_f, gx_1, gx_2, gx_3, gx_4, gx_113, gx_114, gx_115, gx_116, gx_212, gx_213, gx_224, gn_4, gn_114, gn_115, gn_116, gn_213, gn_224, lx_1_0 h.1, lx_1_1 h.1, lx_1_2 h.1, lx_1_3 h.1, lx_1_4 h.1, lx_1_5 h.1, lx_1_6 h.1, lx_1_7 h.1, lx_2_0 h.1, lx_3_0 h.1, lx_113_0 h.1, lx_113_1 h.1, lx_113_2 h.1, lx_212_0 h.1, lx_212_1 h.1, p_isAccount (sT := sT) h]
  by_cases a0 : 0 ≤ a ∧ a < D 371 0
  · have kg := h.2.2.2.1.2.2.2.2.2.2.2.1 a a0.1 a0.2
    obtain ⟨-, -, -, sg, -⟩ := fy_g (sT := sT) h.1 hb (i := 5 + a) (by omega) (by omega)
    have eac := fy_ac h.1 hb (i := a) (by omega) (by omega)
    have l1 := (ly_b h.1 hb).2.2.1
    have nz : F 1 8 + 34 + 4 * (5 + a) ≠ 0 := by have := aB_out hb; omega
    have ea := h.2.2.2.2.1.2.2.2.2.2.1 a a0.1 a0.2
    rw [show (231 : Int) + 1 = 232 from rfl] at ea
    obtain ⟨k3, k5, k7, k6, -⟩ := kg
    rw [if_pos a0, if_pos (by decide), if_pos a0]
    simp (disch := omega) only [h.ob, l1, pl_ib sb3, eac, pl_iT, ox_231, e_231 h.1, pl_ob sg, k3, p_reached (sT := sT) h a0.1 a0.2, ea, pl_l, pl_b, pl_iT, pl_t, pl_f, ix_232, pl_i]
    have e7 : (if F (F 1 8 + 34 + 4 * (5 + a)) 7 = 0 then some ((0 : Int), F) else some (1, F)) = some (ci (lFl (D 381) (D 382) (D 383) 8 (5 + a)) 1 0, F) := by
      rw [k7]
      rcases ci_o (lFl (D 381) (D 382) (D 383) 8 (5 + a)) (1 : Int) 0 with z | z <;> rw [z.2] <;> rfl
    rw [e7]
    simp only [it_s]
  · rw [if_neg a0, if_neg (by decide), if_neg a0]
theorem p_person (h : cS D s F) {p w : Int} : pfX11_person (pd_SH sT) 5000 F 1 p w = some (aPs D s p w (F (F 1 8 + 10 + 2 * p) 3), F) := by
  have hb := h.2.1
  have sb1 := (sh_b (sT := sT) hb).2.1
  have hD := h.2.2.1
  have n1 := hD.1.2.1
  unfold pfX11_person aPs
  simp only [pl_l, pl_b, pl_iT, pl_t, pl_f, gx_1, gx_2, gx_3, gx_4, gx_113, gx_114, gx_115, gx_116, gx_212, gx_213, gx_224, gn_4, gn_114, gn_115, gn_116, gn_213, gn_224, lx_1_0 h.1, lx_1_1 h.1, lx_1_2 h.1, lx_1_3 h.1, lx_1_4 h.1, lx_1_5 h.1, lx_1_6 h.1, lx_1_7 h.1, lx_2_0 h.1, lx_3_0 h.1, lx_113_0 h.1, lx_113_1 h.1, lx_113_2 h.1, lx_212_0 h.1, lx_212_1 h.1, p_isPerson (sT := sT) h]
  by_cases a : 0 ≤ p ∧ p < D 369 0
  · obtain ⟨k1, k2, k4, k5⟩ := h.2.2.2.1.2.2.2.2.2.1 p a.1 a.2
    obtain ⟨ep, em, spp, spm⟩ := fy_p (sT := sT) h.1 hb (i := p) a.1 (by omega)
    have hm := hD.2.1 p a.1 a.2
    have hi := hD.2.2.2.2.2.2 p a.1 a.2
    have l0 := (ly_b h.1 hb).1
    have nz : F 1 8 + 10 + 2 * p ≠ 0 := by have := aB_out hb; omega
    have e5 := h.2.2.2.2.2.2.2.1 p a.1 a.2
    rw [if_pos a, if_pos (by decide), if_pos a]
    simp (disch := omega) only [h.ob, l0, pl_ib sb1, ep, pl_iT, ox_236, ox_237, e_236 h.1, e_237 h.1, pl_ob spp, em, pl_ib spm, k1, k4, e5, ix_239, pl_i (p := 0 ≤ p ∧ p < 12), pl_i (p := 0 ≤ p ∧ p < ((12 : Nat) : Int)), pl_i (p := F 1 8 + 10 + 2 * p ≠ 0)]
    by_cases w0 : w = 0
    · rw [if_pos w0, if_pos w0]
    rw [if_neg w0, if_neg w0]
    by_cases w1 : w = 1 ∨ w = 2 ∨ w = 3
    · rw [if_pos (show 1 ≤ w ∧ w ≤ 3 by omega)]
      have body : (if w > D 375 p then some ((0 : Int), F) else pd_i (0 ≤ pd_w (w - 1) ∧ pd_w (w - 1) < ((3 : Nat) : Int)) (some (F (F 1 8 + 10 + 2 * p + 1) (pd_w (w - 1)), F))) = some (if w ≤ D 375 p then D 376 (3 * p + w - 1) else 0, F) := by
        by_cases c : w > D 375 p
        · rw [if_pos c, if_neg (by omega)]
        · rw [if_neg c, if_pos (by omega), pl_w (by omega), pl_i (by omega), k2 (w - 1) (by omega) (by omega), show 3 * p + (w - 1) = 3 * p + w - 1 by omega]
      rw [body]
      rcases w1 with e | e | e <;> subst e <;> rfl
    · rw [if_neg (show ¬ w = 1 by omega), if_neg (show ¬ w = 2 by omega), if_neg (show ¬ w = 3 by omega), if_neg (show ¬ (1 ≤ w ∧ w ≤ 3) by omega)]
      have e4 : (if D 377 p = 0 then some ((0 : Int), F) else some (1, F)) = some (D 377 p, F) := by
        rcases hi with z | z <;> rw [z] <;> rfl
      rw [e4]
      simp only [it_s]
  · rw [if_neg a, if_neg (by decide), if_neg a]
theorem p_who (h : cS D s F) {d : Int} : ∃ v, pfX11_who (pd_SH sT) 5000 F 1 d = some (v, F) ∧ ((¬ (0 ≤ d ∧ d < sD D s) ∧ v = -1) ∨ ((0 ≤ d ∧ d < sD D s) ∧ (0 ≤ v ∧ v < 4096) ∧ ∀ p, 0 ≤ p → p < 12 → (tb v p ↔ (p < D 369 0 ∧ sN D s p = d)))) := by
  have n := h.w.sd
  unfold pfX11_who
  simp only [pl_l, pl_b, pl_iT, pl_t, pl_f, gx_1, gx_2, gx_3, gx_4, gx_113, gx_114, gx_115, gx_116, gx_212, gx_213, gx_224, gn_4, gn_114, gn_115, gn_116, gn_213, gn_224, lx_1_0 h.1, lx_1_1 h.1, lx_1_2 h.1, lx_1_3 h.1, lx_1_4 h.1, lx_1_5 h.1, lx_1_6 h.1, lx_1_7 h.1, lx_2_0 h.1, lx_3_0 h.1, lx_113_0 h.1, lx_113_1 h.1, lx_113_2 h.1, lx_212_0 h.1, lx_212_1 h.1, p_isDepositor (sT := sT) h]
  by_cases a : 0 ≤ d ∧ d < sD D s
  · have g := h.2.2.2.2.2.2.2.2.1 d a.1 a.2
    refine ⟨F 240 d, ?_, Or.inr ⟨a, g⟩⟩
    rw [if_pos a, if_neg (by decide)]
    simp (disch := omega) only [ox_236, ox_237, e_236 h.1, e_237 h.1, pl_l, pl_b, pl_iT, pl_t, pl_f, ix_240, pl_i]
  · rw [if_neg a, if_pos rfl]
    exact ⟨_, rfl, Or.inl ⟨a, rfl⟩⟩
theorem p_view (h : cS D s F) {d w : Int} : pfX11_view (pd_SH sT) 5000 F 1 d w = some (aView D s d w, F) := by
  have n := h.w.sd
  obtain ⟨s0, s5, s6, s7, s8⟩ := sh_l (sT := sT) (l := 236) (Or.inl rfl)
  rw [show (236 : Int) + 5 = 241 from rfl] at s5
  rw [show (236 : Int) + 6 = 242 from rfl] at s6
  rw [show (236 : Int) + 7 = 243 from rfl] at s7
  rw [show (236 : Int) + 8 = 244 from rfl] at s8
  unfold pfX11_view aView
  simp only [pl_l, pl_b, pl_iT, pl_t, pl_f, gx_1, gx_2, gx_3, gx_4, gx_113, gx_114, gx_115, gx_116, gx_212, gx_213, gx_224, gn_4, gn_114, gn_115, gn_116, gn_213, gn_224, lx_1_0 h.1, lx_1_1 h.1, lx_1_2 h.1, lx_1_3 h.1, lx_1_4 h.1, lx_1_5 h.1, lx_1_6 h.1, lx_1_7 h.1, lx_2_0 h.1, lx_3_0 h.1, lx_113_0 h.1, lx_113_1 h.1, lx_113_2 h.1, lx_212_0 h.1, lx_212_1 h.1, p_isDepositor (sT := sT) h]
  by_cases a : 0 ≤ d ∧ d < sD D s
  · have v := h.w.2.2.1.2.2 d a.1 (by omega)
    rw [show (236 : Int) + 5 = 241 from rfl, show (236 : Int) + 6 = 242 from rfl, show (236 : Int) + 7 = 243 from rfl, show (236 : Int) + 8 = 244 from rfl] at v
    have st := h.w.st a
    have e := h.2.2.2.2.1.1.2.2.2.1
    rw [if_pos a, if_pos (by decide), if_pos a]
    simp (disch := omega) only [ox_236, e_236 h.1, pl_l, pl_b, pl_iT, pl_t, pl_f, pl_ib s5, pl_ib s6, pl_ib s7, pl_ib s8, v.1, v.2.1, v.2.2.1, v.2.2.2, st.2.1, k_setOff (sT := sT) h.w a, k_net (sT := sT) h.w a, k_limit (sT := sT) h.w a (c := s 72) (by omega), k_paid (sT := sT) h.w a, k_claim (sT := sT) h.w a, pl_i]
    have e8 : (if cI D s d = 0 then some ((0 : Int), F) else some (1, F)) = some (cI D s d, F) := by
      rcases cI_01 D s d with z | z <;> rw [z] <;> rfl
    rw [e8]
    simp only [it_s]
  · rw [if_neg a, if_neg (by decide), if_neg a]
end CQ

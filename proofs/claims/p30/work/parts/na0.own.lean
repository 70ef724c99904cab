/-! the law looks at all depositors -/
section LG
variable {sT : pd_S} {D : pd_F} {s : Int → Int} {F : pd_F} {Ls : Int} {xs : Int → Int}
theorem k_237 (h0 : cS D s F) {o : Int} (ho : 366 < o) (so : pd_sh (pd_SH sT) o = some (1, 0, 4)) : ∀ (k : Nat) (F : pd_F) (x6 d : Int), cS D s F → 0 ≤ d ∧ d ≤ sD D s → sD D s - d < k → (F o 0 = Sm (sHas D s) d ∧ F o 1 = Sm (cSo D s) d ∧ F o 2 = Sm (fun d => cPd D s d (s 72)) d ∧ F o 3 = Sm (cCl D s) d) → (0 ≤ x6 ∧ x6 < 4096) → (∀ p, 0 ≤ p → p < 12 → (tb x6 p ↔ (p < D 369 0 ∧ sN D s p < d))) →
    ∃ H x6', pfL_law_b237 Ls xs 5000 k (pd_SH sT) F 1 (sD D s) o x6 d = pfL_law_b535 Ls xs 5000 (pd_SH sT) H 1 (sD D s) o x6' ∧ cS D s H ∧ (H o 0 = Sm (sHas D s) (sD D s) ∧ H o 1 = Sm (cSo D s) (sD D s) ∧ H o 2 = Sm (fun d => cPd D s d (s 72)) (sD D s) ∧ H o 3 = Sm (cCl D s) (sD D s)) ∧ (0 ≤ x6' ∧ x6' < 4096) ∧ ∀ p, 0 ≤ p → p < 12 → (tb x6' p ↔ p < D 369 0) := by
  have hD := h0.2.2.1
  have hs := h0.2.2.2.2.1.1
  have bb := h0.b9
  have sd := h0.sd
  intro k
  induction k with
  | zero => intro F x6 d _ hd hk; omega
  | succ k ih =>
    intro F x6 d h hd hk hr hx hbits
    rw [pfL_law_b237]
    by_cases c : d ≥ sD D s
    · rw [if_pos c]
      have e : d = sD D s := by omega
      subst e
      exact ⟨F, x6, rfl, h, hr, hx, fun p a b => (hbits p a b).trans ⟨fun z => z.1, fun z => ⟨z, (h.sn a z).2⟩⟩⟩
    · rw [if_neg c]
      have d0 : 0 ≤ d ∧ d < sD D s := by omega
      have e := k_250 (Ls := Ls) (xs := xs) (sT := sT) h (x4 := sD D s) (x5 := o) (x6 := x6) (d := d) (c237 := pfL_law_b237 Ls xs 5000 k) 5000 0 (by omega) (by omega)
      rw [Sm_0] at e
      rw [e]
      have bd : ∀ f : Int → Int, (∀ i, 0 ≤ i → i < d → 0 ≤ f i ∧ f i ≤ 1199999880) → 0 ≤ Sm f d ∧ Sm f d ≤ 100000000000 := fun f hf => by
        have := Sm_bd (f := f) (lo := 0) (hi := 1199999880) d0.1 hf
        omega
      have r0 := bd (sHas D s) (fun i _ _ => sHas_bd hD hs i)
      have r1 := bd (cSo D s) (fun i _ _ => by have := cNt_bd hD hs i; have := sHas_bd hD hs i; omega)
      have r2 := bd (fun d => cPd D s d (s 72)) (fun i _ _ => by have := cNt_bd hD hs i; have := cPd_bd hD hs i (c := s 72) hs.2.2.2.1.1; omega)
      have r3 := bd (cCl D s) (fun i _ _ => cCl_bd hD hs i)
      obtain ⟨v, H, e1, e2, ⟨t0, t1, t2, t3⟩, e4, e5⟩ := k_311 (Ls := Ls) (xs := xs) (sT := sT) h (x4 := sD D s) (x6 := x6) d0 ho so (fun j a b => by
        have : j = 0 ∨ j = 1 ∨ j = 2 ∨ j = 3 := by omega
        rcases this with rfl | rfl | rfl | rfl
        · rw [hr.1]; exact r0
        · rw [hr.2.1]; exact r1
        · rw [hr.2.2.1]; exact r2
        · rw [hr.2.2.2]; exact r3) (c237 := pfL_law_b237 Ls xs 5000 k)
      rw [e1]
      obtain ⟨o1, o2⟩ := tb_or hx e4
      refine ih H (pd_or x6 v) (d + 1) e2 (by omega) (by omega) ⟨by rw [t0, hr.1, Sm_s d0.1], by rw [t1, hr.2.1, Sm_s d0.1], by rw [t2, hr.2.2.1, Sm_s d0.1], by rw [t3, hr.2.2.2, Sm_s d0.1]⟩ o1 (fun p a b => ?_)
      rw [o2, hbits p a b, e5 p a b]
      constructor
      · rintro (z | z) <;> exact ⟨z.1, by omega⟩
      · rintro ⟨z1, z2⟩
        by_cases w : sN D s p = d
        · exact Or.inr ⟨z1, w⟩
        · exact Or.inl ⟨z1, by omega⟩
end LG

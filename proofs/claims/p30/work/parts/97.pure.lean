variable {sT : pd_S}
/-! both side by side: undo, keep, feed -/
section IU
variable {D : pd_F} {s s' : Int → Int} {F : pd_F}
theorem cS.gn {G : pd_F} (h : cS D s F) (hG : pd_Ly G) (y : ∀ a, (5 ≤ a ∧ a ≤ 112) ∨ (214 ≤ a ∧ a ≤ 366) → G a = F a) (y1 : G 1 = F 1) : cS D s G := by
  obtain ⟨h1, h2, h3, h4, h5, h6, h7, h8, h9, h10⟩ := h
  have hb := aB_out h2
  have n5 := h3.1.2.2.2.2.2.1
  have n7 := h3.2.2.1.2
  have kk : kV D s 236 G := by
    unfold kV
    rw [y 236 (by omega), y (236 + 1) (by omega), y (236 + 5) (by omega), y (236 + 6) (by omega), y (236 + 7) (by omega), y (236 + 8) (by omega)]
    exact h7
  unfold cS rD
  rw [y1, y 239 (by omega), y 240 (by omega), y 238 (by omega)]
  exact ⟨hG, h2, h3, h4.fr h2 h3 (fun a x z => y a (by omega)), sR_fr h5 ⟨y _ (by omega), y _ (by omega)⟩ (fun a x z => y a (by omega)), ⟨fun a p x z u w => by rw [y _ (by omega)]; exact h6.1 a p x z u w, fun a p x z u w => by rw [y _ (by omega)]; exact h6.2 a p x z u w⟩, kk, h8, h9, h10⟩
end IU
/-! both side by side: the calls that throw -/
section IT
variable {D : pd_F} {s s' : Int → Int} {F : pd_F}
end IT
/-! the law's loop, but for the book -/
section LL
end LL

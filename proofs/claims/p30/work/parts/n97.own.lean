/-! the law: all together is what the accounts hold -/
section LB
variable {sT : pd_S} {D : pd_F} {s : Int → Int} {F : pd_F} {Ls : Int} {xs : Int → Int}
theorem cS.sn (h : cS D s F) {p : Int} (h0 : 0 ≤ p) (h1 : p < D 369 0) : 0 ≤ sN D s p ∧ sN D s p < sD D s := sN_bd h.b9.1.1 h0 h1
theorem cS.sd (h : cS D s F) : 0 ≤ sD D s ∧ sD D s ≤ D 369 0 := sD_bd h.b9.1.1
theorem has_all (h : cS D s F) : Sm (sHas D s) (sD D s) + cFz D s = Sm s (D 371 0) := by
  have bb := h.b9
  have sd := h.sd
  have e1 : Sm (sHas D s) (sD D s) = Sm (sG D s) (D 369 0) := by
    show Sm (fun d => Sm (fun p => if sN D s p = d then sG D s p else 0) (D 369 0)) (sD D s) = _
    rw [Sm_swap sd.1 bb.1.1]
    exact Sm_congr fun p x y => Sm_one (h.sn x y).1 (h.sn x y).2
  have e2 : Sm (sG D s) (D 369 0) = Sm (fun a => ci (lFl (D 381) (D 382) (D 383) 8 (5 + a)) 0 (s a)) (D 371 0) := by
    show Sm (fun p => Sm (fun a => gA D s a p) (D 371 0)) (D 369 0) = _
    rw [Sm_swap bb.1.1 bb.2.1]
    exact Sm_congr fun a x y => gA_all h ⟨x, y⟩
  rw [e1, e2]
  unfold cFz
  rw [← Sm_add bb.2.1]
  refine Sm_congr fun a x y => ?_
  rcases Classical.em (lFl (D 381) (D 382) (D 383) 8 (5 + a)) with hf | hf
  · rw [ci_t hf, ci_t hf]; omega
  · rw [ci_f hf, ci_f hf]; omega
theorem Ly_hi {F G : pd_F} (hL : pd_Ly F) (e : ∀ a, a ≤ 366 → G a = F a) : pd_Ly G := fun a j x => by
  have : a ≤ 366 := by
    apply Classical.byContradiction
    intro z
    rw [pd_rc_hi (Or.inl (by omega))] at x
    cases x
  rw [e a this]; exact hL a j x
theorem cS.hi {G : pd_F} (h : cS D s F) (e : ∀ a, a ≤ 366 → G a = F a) : cS D s G := h.gn (Ly_hi h.1 e) (fun a x => e a (by omega)) (e 1 (by decide))
theorem a_0 : aAll D s 0 = Sm (sHas D s) (sD D s) := by
  unfold aAll
  rw [if_pos (by decide), if_neg (by decide), if_neg (by decide)]
  exact Sm_congr fun d _ _ => by unfold aTm; rw [if_pos rfl]
theorem a_4 : aAll D s 4 = cFz D s := by
  unfold aAll
  rw [if_pos (by decide), if_pos rfl]
theorem a_5 : aAll D s 5 = sD D s := by
  unfold aAll
  rw [if_pos (by decide), if_neg (by decide), if_pos rfl]
/-- on to the depositors, with a row of four sums -/
theorem l_200 (h : cS D s F) : ∃ G o, pfL_law_b200 Ls xs 5000 (pd_SH sT) F 1 (Sm s (D 371 0)) = pfL_law_b237 Ls xs 5000 5000 (pd_SH (sT ++ [(1, 0, 4)])) G 1 (sD D s) o 0 0 ∧ cS D s G ∧ 366 < o ∧ pd_sh (pd_SH (sT ++ [(1, 0, 4)])) o = some (1, 0, 4) ∧ ∀ j, G o j = 0 := by
  have bb := h.b9
  have sd := h.sd
  have al := has_all h
  have bs := Sm_bd (f := s) (lo := 0) (hi := 9999999) bb.2.1 (fun i a b => h.sa ⟨a, b⟩)
  obtain ⟨o, ho⟩ : ∃ o : Int, ((pd_SH sT).length : Int) + 1 = o := ⟨_, rfl⟩
  have ol : 366 < o := by rw [← ho, pd_SH_l]; omega
  have g : ∀ a, a ≤ 366 → pd_z F o a = F a := fun a x => by funext j; unfold pd_z; rw [if_neg (by omega)]
  refine ⟨pd_z F o, o, ?_, h.hi g, ol, by rw [← pd_SH_app, ← ho]; exact sh_new, fun j => by unfold pd_z; rw [if_pos rfl]⟩
  have p0 : pfX11_all (pd_SH sT) 5000 F 1 0 = some (aAll D s 0, F) := p_all h
  have p4 : pfX11_all (pd_SH sT) 5000 F 1 4 = some (aAll D s 4, F) := p_all h
  have p5 : pfX11_all (pd_SH sT) 5000 F 1 5 = some (aAll D s 5, F) := p_all h
  unfold pfL_law_b200
  simp only [gx_1, pl_iT, p0, p4, p5, pl_b, pl_l, a_0, a_4, a_5, al, ho, pd_SH_app]
  rw [pl_W (by omega), if_pos rfl, pl_w (by omega), pl_i (by omega)]
end LB

variable {sT : pd_S}
/-! net, limit, paid, claim, ranks: of a book and a row of acts -/
noncomputable def cSo (D : pd_F) (s : Int → Int) (d : Int) : Int := min (sOw D s d) (sHas D s d)
noncomputable def cNt (D : pd_F) (s : Int → Int) (d : Int) : Int := sHas D s d - cSo D s d
noncomputable def cLm (D : pd_F) (s : Int → Int) (d c : Int) : Int := c + min (sHi D s d) (s 73)
noncomputable def cPd (D : pd_F) (s : Int → Int) (d c : Int) : Int := min (cNt D s d) (cLm D s d c)
noncomputable def cCl (D : pd_F) (s : Int → Int) (d : Int) : Int := cNt D s d - cPd D s d (s 72)
noncomputable def cPU (D : pd_F) (s : Int → Int) (c : Int) : Int := Sm (fun d => cPd D s d c) (sD D s)
noncomputable def cI (D : pd_F) (s : Int → Int) (d : Int) : Int := ci (sIn D s d) 1 0
/-- the claims of those below n who are (1) or aren't (0) insiders -/
noncomputable def cCn (D : pd_F) (s : Int → Int) (w n : Int) : Int := Sm (fun d => if cI D s d = w then cCl D s d else 0) n
theorem sHas_bd {D : pd_F} {s : Int → Int} (h : bOk D) (hs : aOk D s) (d : Int) : 0 ≤ sHas D s d ∧ sHas D s d ≤ 1199999880 := by
  have b := h.1
  have := Sm_if (f := sN D s) (g := sG D s) (d := d) b.1 (fun p _ _ => sG_bd h hs)
  unfold sHas
  have := b.2.1
  omega
theorem sHi_bd {D : pd_F} {s : Int → Int} (h : bOk D) (hs : aOk D s) (d : Int) : 0 ≤ sHi D s d ∧ sHi D s d ≤ 1199999880 := by
  have b := h.1
  have := Sm_if (f := sN D s) (g := sHg D s) (d := d) b.1 (fun p _ _ => sHg_bd h hs)
  unfold sHi
  have := b.2.1
  omega
theorem sOw_bd {D : pd_F} {s : Int → Int} (h : bOk D) (d : Int) : 0 ≤ sOw D s d ∧ sOw D s d ≤ 79999992 := by
  obtain ⟨-, -, -, c1, -, c2, -⟩ := id h
  have := Sm_bd (f := oT D s d) (lo := 0) (hi := 9999999) c1.1 (fun l x y => by
    have := c2 l x y
    unfold oT
    split <;> omega)
  unfold sOw
  omega
theorem cNt_bd {D : pd_F} {s : Int → Int} (h : bOk D) (hs : aOk D s) (d : Int) : 0 ≤ cNt D s d ∧ cNt D s d ≤ 1199999880 ∧ 0 ≤ cSo D s d ∧ cSo D s d ≤ sHas D s d := by
  have a := sHas_bd h hs d
  have b := sOw_bd h (s := s) d
  unfold cNt cSo
  omega
theorem cPd_bd {D : pd_F} {s : Int → Int} (h : bOk D) (hs : aOk D s) (d : Int) {c : Int} (hc : 0 ≤ c) : 0 ≤ cPd D s d c ∧ cPd D s d c ≤ cNt D s d := by
  have a := cNt_bd h hs d
  have b := sHi_bd h hs d
  have e := hs.2.2.2.2
  unfold cPd cLm
  omega
theorem cCl_bd {D : pd_F} {s : Int → Int} (h : bOk D) (hs : aOk D s) (d : Int) : 0 ≤ cCl D s d ∧ cCl D s d ≤ 1199999880 := by
  have a := cNt_bd h hs d
  have b := cPd_bd h hs d hs.2.2.2.1.1
  unfold cCl
  omega
theorem cPU_bd {D : pd_F} {s : Int → Int} (h : bOk D) (hs : aOk D s) {c n : Int} (hc : 0 ≤ c) (hn : 0 ≤ n) : 0 ≤ Sm (fun d => cPd D s d c) n ∧ Sm (fun d => cPd D s d c) n ≤ 1199999880 * n := by
  have := Sm_bd (f := fun d => cPd D s d c) (lo := 0) (hi := 1199999880) hn (fun d _ _ => by
    have a := cNt_bd h hs d
    have b := cPd_bd h hs d hc
    omega)
  omega
theorem cCn_bd {D : pd_F} {s : Int → Int} (h : bOk D) (hs : aOk D s) {w n : Int} (hn : 0 ≤ n) : 0 ≤ cCn D s w n ∧ cCn D s w n ≤ 1199999880 * n := by
  have := Sm_bd (f := fun d => if cI D s d = w then cCl D s d else 0) (lo := 0) (hi := 1199999880) hn (fun d _ _ => by
    have a := cCl_bd h hs d
    split <;> omega)
  unfold cCn
  omega
theorem sD_12 {D : pd_F} {s : Int → Int} (h : bOk D) : 0 ≤ sD D s ∧ sD D s ≤ 12 := by
  have b := h.1
  have := sD_bd (D := D) (s := s) b.1
  have := b.2.1
  omega
theorem cI_01 (D : pd_F) (s : Int → Int) (d : Int) : cI D s d = 0 ∨ cI D s d = 1 := by
  unfold cI
  rcases ci_o (sIn D s d) (1 : Int) 0 with h | h
  · exact Or.inr h.2
  · exact Or.inl h.2
section RV
variable {D : pd_F} {s : Int → Int} {G : pd_F}
end RV

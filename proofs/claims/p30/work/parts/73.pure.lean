variable {sT : pd_S}
/-! the reference's answers over the views -/
noncomputable def aView (D : pd_F) (s : Int → Int) (d w : Int) : Int := if 0 ≤ d ∧ d < sD D s then (if w = 0 then sHas D s d else if w = 1 then sOw D s d else if w = 2 then cSo D s d else if w = 3 then cNt D s d else if w = 4 then sHi D s d else if w = 5 then cLm D s d (s 72) else if w = 6 then cPd D s d (s 72) else if w = 7 then cCl D s d else if w = 8 then cI D s d else -1) else -1
noncomputable def cFz (D : pd_F) (s : Int → Int) : Int := Sm (fun a => ci (lFl (D 381) (D 382) (D 383) 8 (5 + a)) (s a) 0) (D 371 0)
noncomputable def aTm (D : pd_F) (s : Int → Int) (w d : Int) : Int := if w = 0 then sHas D s d else if w = 1 then cSo D s d else if w = 2 then cPd D s d (s 72) else if w = 3 then cCl D s d else if cCl D s d ≤ 0 then 0 else 1
noncomputable def aAll (D : pd_F) (s : Int → Int) (w : Int) : Int := if 0 ≤ w ∧ w ≤ 6 then (if w = 4 then cFz D s else if w = 5 then sD D s else Sm (aTm D s w) (sD D s)) else -1
noncomputable def cPl (D : pd_F) (s : Int → Int) (d : Int) : Int := Sm (fun o => if cCl D s o > cCl D s d ∨ (cCl D s o = cCl D s d ∧ o < d) then 1 else 0) (sD D s)
def aRk (D : pd_F) (s : Int → Int) (k v : Int) : Prop := (0 ≤ v ∧ v < sD D s ∧ cPl D s v = k ∧ ∀ o, 0 ≤ o → o < v → cPl D s o ≠ k) ∨ ((∀ o, 0 ≤ o → o < sD D s → cPl D s o ≠ k) ∧ v = -1)
/-- the money left for the rank of d -/
noncomputable def cLf (D : pd_F) (s : Int → Int) (m d : Int) : Int := m - cPU D s (s 72) - (if cI D s d = 1 then cCn D s 0 (sD D s) else 0)
noncomputable def aEs (D : pd_F) (s : Int → Int) (m d : Int) : Int := if cLf D s m d ≤ 0 then 0 else if cCn D s (cI D s d) (sD D s) ≤ cLf D s m d then cCl D s d
  else Int.tdiv (cLf D s m d * (cCn D s (cI D s d) d + cCl D s d)) (cCn D s (cI D s d) (sD D s)) - Int.tdiv (cLf D s m d * cCn D s (cI D s d) d) (cCn D s (cI D s d) (sD D s))
noncomputable def aEst (D : pd_F) (s : Int → Int) (m d : Int) : Int := if (0 ≤ m ∧ m ≤ 99999999) ∧ -1 ≤ d ∧ d < sD D s then (if d = -1 then min m (cPU D s (s 72)) else aEs D s m d) else -2
noncomputable def aEn (D : pd_F) (s : Int → Int) (r : Int) : Int := if r = 0 then cPU D s (s 72) else if r = 1 then (if cCn D s 0 (sD D s) ≤ 0 then 0 else cPU D s (s 72) + cCn D s 0 (sD D s)) else if r = 2 then (if cCn D s 1 (sD D s) ≤ 0 then 0 else cPU D s (s 72) + cCn D s 0 (sD D s) + cCn D s 1 (sD D s)) else -1
section RA
variable {D : pd_F} {s : Int → Int} {F : pd_F}
end RA

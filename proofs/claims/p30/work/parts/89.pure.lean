variable {sT : pd_S}
/-! the class: best days, what ifs -/
/-- the dates of a book in their bounds -/
def dOk (D : pd_F) : Prop := ∀ h, 0 ≤ h → h < D 372 0 → (0 ≤ D 386 h ∧ D 386 h ≤ 999) ∧ 0 ≤ D 387 h ∧ D 387 h ≤ 999
section BD
variable {D : pd_F} {s : Int → Int} {F : pd_F}
end BD

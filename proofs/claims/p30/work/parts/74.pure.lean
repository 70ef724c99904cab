variable {sT : pd_S}
/-! the reference: a person, other days -/
def w5 (c : Nat → Int) : Nat → Int
  | 0 => 0
  | k + 1 => w5 c k * 32 + c k
def w8 (c : Nat → Int) : Nat → Int
  | 0 => 0
  | k + 1 => w8 c k * 256 + (c k + 96)
section RP
variable {D : pd_F} {s : Int → Int} {F : pd_F}
noncomputable def aPs (D : pd_F) (s : Int → Int) (p w f : Int) : Int := if 0 ≤ p ∧ p < D 369 0 then (if w = 0 then D 375 p else if 1 ≤ w ∧ w ≤ 3 then (if w ≤ D 375 p then D 376 (3 * p + w - 1) else 0) else if w = 4 then D 377 p else if w = 5 then sN D s p else if w = 6 then f else -1) else -1
/-- a row with one number told anew -/
def ru (s : Int → Int) (j v : Int) : Int → Int := fun i => if i = j then v else s i
theorem ru_e {s : Int → Int} {j v : Int} : ru s j v j = v := if_pos rfl
theorem ru_n {s : Int → Int} {j v i : Int} (h : i ≠ j) : ru s j v i = s i := if_neg h
theorem pu_row {F : pd_F} {a i v : Int} : pd_up F a i v a = ru (F a) i v := by
  funext j
  rw [pu_r]; rfl
theorem aOk.up {D : pd_F} {s : Int → Int} (h : aOk D s) (hb : bOk D) {j v : Int} (hj : j = 71 ∨ (10 ≤ j ∧ j < 70) ∨ (74 ≤ j ∧ j < 110)) : aOk D (ru s j v) := by
  have n := hb.1.2.2.2.2.2.1
  refine ⟨fun a x y => ?_, ?_, ?_, ?_, ?_⟩
  · rw [ru_n (by omega)]; exact h.1 a x y
  · rw [ru_n (by omega)]; exact h.2.1
  · rw [ru_n (by omega)]; exact h.2.2.1
  · rw [ru_n (by omega)]; exact h.2.2.2.1
  · rw [ru_n (by omega)]; exact h.2.2.2.2
end RP

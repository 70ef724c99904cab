variable {sT : pd_S}
/-! what a book and a row of acts come to -/
noncomputable def sC (D : pd_F) (s : Int → Int) : Int → Int → Prop := Cn (D 369 0) (Bs (D 375) (D 376) s)
noncomputable def sN (D : pd_F) (s : Int → Int) (p : Int) : Int := DN (D 369 0) (sC D s) p
noncomputable def sD (D : pd_F) (s : Int → Int) : Int := DC (D 369 0) (sC D s)
noncomputable def gA (D : pd_F) (s : Int → Int) (a p : Int) : Int := ci (lFl (D 381) (D 382) (D 383) 8 (5 + a)) 0 (lGv (D 381) (D 382) (D 383) 8 (5 + a) (s a) p)
noncomputable def sG (D : pd_F) (s : Int → Int) (p : Int) : Int := Sm (fun a => gA D s a p) (D 371 0)
noncomputable def gH (D : pd_F) (s : Int → Int) (h p : Int) : Int := ci (lFl (D 381) (D 382) (D 383) 8 (5 + D 384 h)) 0 (lGv (D 381) (D 382) (D 383) 8 (5 + D 384 h) (min (D 385 h) (s (D 384 h))) p)
noncomputable def gT (D : pd_F) (s : Int → Int) (h p : Int) : Int := if D 386 h ≤ s 71 ∧ s 71 ≤ D 387 h then gH D s h p else 0
noncomputable def sHg (D : pd_F) (s : Int → Int) (p : Int) : Int := Sm (fun h => gT D s h p) (D 372 0)
noncomputable def sHas (D : pd_F) (s : Int → Int) (d : Int) : Int := Sm (fun p => if sN D s p = d then sG D s p else 0) (D 369 0)
noncomputable def sHi (D : pd_F) (s : Int → Int) (d : Int) : Int := Sm (fun p => if sN D s p = d then sHg D s p else 0) (D 369 0)
noncomputable def oT (D : pd_F) (s : Int → Int) (d l : Int) : Int := if D 390 l ≤ s 71 ∧ sN D s (D 388 l) = d then D 389 l else 0
noncomputable def sOw (D : pd_F) (s : Int → Int) (d : Int) : Int := Sm (oT D s d) (D 373 0)
def sIn (D : pd_F) (s : Int → Int) (d : Int) : Prop := ∃ p, 0 ≤ p ∧ p < D 369 0 ∧ D 377 p ≠ 0 ∧ sN D s p = d
/-- a book in its bounds -/
def bOk (D : pd_F) : Prop := lWf (D 369 0) (D 370 0) (D 371 0) (D 381) (D 382) (D 383) ∧ (∀ p, 0 ≤ p → p < D 369 0 → 0 ≤ D 375 p ∧ D 375 p ≤ 3) ∧ (0 ≤ D 372 0 ∧ D 372 0 ≤ 6) ∧ (0 ≤ D 373 0 ∧ D 373 0 ≤ 8) ∧
  (∀ h, 0 ≤ h → h < D 372 0 → (0 ≤ D 384 h ∧ D 384 h < D 371 0) ∧ 0 ≤ D 385 h ∧ D 385 h ≤ 9999999) ∧ (∀ l, 0 ≤ l → l < D 373 0 → (0 ≤ D 388 l ∧ D 388 l < D 369 0) ∧ 0 ≤ D 389 l ∧ D 389 l ≤ 9999999) ∧ (∀ p, 0 ≤ p → p < D 369 0 → D 377 p = 0 ∨ D 377 p = 1)
/-- a row of acts in its bounds -/
def aOk (D : pd_F) (s : Int → Int) : Prop := (∀ a, 0 ≤ a → a < D 371 0 → 0 ≤ s a ∧ s a ≤ 9999999) ∧ (0 ≤ s 70 ∧ s 70 ≤ 30) ∧ (0 ≤ s 110 ∧ s 110 ≤ 36) ∧ (0 ≤ s 72 ∧ s 72 ≤ 9999999) ∧ (0 ≤ s 73 ∧ s 73 ≤ 9999999)
theorem sN_bd {D : pd_F} {s : Int → Int} (hn : 0 ≤ D 369 0) {p : Int} (h0 : 0 ≤ p) (h1 : p < D 369 0) : 0 ≤ sN D s p ∧ sN D s p < sD D s := by
  obtain ⟨i1, i2, i3, i4, i5⟩ := dn_inv (np := D 369 0) (C := sC D s) (fun p _ _ => Cn_rf) (D 369 0).toNat (by omega)
  exact ⟨i5 p h0 (by omega), (i3 p).2⟩
theorem sD_bd {D : pd_F} {s : Int → Int} (hn : 0 ≤ D 369 0) : 0 ≤ sD D s ∧ sD D s ≤ D 369 0 := by
  obtain ⟨i1, i2, i3, i4, i5⟩ := dn_inv (np := D 369 0) (C := sC D s) (fun p _ _ => Cn_rf) (D 369 0).toNat (by omega)
  refine ⟨i1, ?_⟩
  have : sD D s ≤ ((D 369 0).toNat : Int) := i2
  omega
theorem bOk_ac {D : pd_F} (h : bOk D) {a : Int} (h0 : 0 ≤ a) (h1 : a < D 371 0) : lOk (D 369 0) (D 381) (D 382) (D 383) (5 + a) (D 370 0) := h.1.2.2.2.2.2.2.2 a h0 h1
theorem bOk_tr {D : pd_F} (h : bOk D) : ∀ t, 0 ≤ t → t < D 370 0 → lOk (D 369 0) (D 381) (D 382) (D 383) t t := h.1.2.2.2.2.2.2.1
theorem lGv8_bd {D : pd_F} (h : bOk D) {a v p : Int} (h0 : 0 ≤ a) (h1 : a < D 371 0) (hv : 0 ≤ v) (hf : ¬ lFl (D 381) (D 382) (D 383) 8 (5 + a)) : 0 ≤ lGv (D 381) (D 382) (D 383) 8 (5 + a) v p ∧ lGv (D 381) (D 382) (D 383) 8 (5 + a) v p ≤ v := by
  obtain ⟨⟨b0, b1, b2, b3, b4, b5, b6, b7⟩, -⟩ := id h
  exact lGv_bd (k := 7) b1 (b7 a h0 h1) b6 (by omega) hf hv
theorem gA_bd {D : pd_F} {s : Int → Int} (h : bOk D) (hs : aOk D s) {a p : Int} (h0 : 0 ≤ a) (h1 : a < D 371 0) : 0 ≤ gA D s a p ∧ gA D s a p ≤ 9999999 := by
  unfold gA
  have b := hs.1 a h0 h1
  rcases ci_o (lFl (D 381) (D 382) (D 383) 8 (5 + a)) 0 (lGv (D 381) (D 382) (D 383) 8 (5 + a) (s a) p) with c | c
  · rw [c.2]; omega
  · rw [c.2]
    have := lGv8_bd h h0 h1 b.1 c.1 (p := p)
    omega
theorem gT_bd {D : pd_F} {s : Int → Int} (h : bOk D) (hs : aOk D s) {i p : Int} (h0 : 0 ≤ i) (h1 : i < D 372 0) : 0 ≤ gT D s i p ∧ gT D s i p ≤ 9999999 := by
  unfold gT
  split
  · unfold gH
    have hb := h.2.2.2.2.1 i h0 h1
    have b := hs.1 (D 384 i) hb.1.1 hb.1.2
    rcases ci_o (lFl (D 381) (D 382) (D 383) 8 (5 + D 384 i)) 0 (lGv (D 381) (D 382) (D 383) 8 (5 + D 384 i) (min (D 385 i) (s (D 384 i))) p) with c | c
    · rw [c.2]; omega
    · rw [c.2]
      have := lGv8_bd h hb.1.1 hb.1.2 (show 0 ≤ min (D 385 i) (s (D 384 i)) by omega) c.1 (p := p)
      omega
  · omega
theorem sG_bd {D : pd_F} {s : Int → Int} (h : bOk D) (hs : aOk D s) {p : Int} : 0 ≤ sG D s p ∧ sG D s p ≤ 99999990 := by
  obtain ⟨⟨b0, b1, b2, b3, b4, b5, b6, b7⟩, -⟩ := id h
  have := Sm_bd (f := fun a => gA D s a p) (lo := 0) (hi := 9999999) b4 (fun a c d => gA_bd h hs c d)
  unfold sG
  omega
theorem sHg_bd {D : pd_F} {s : Int → Int} (h : bOk D) (hs : aOk D s) {p : Int} : 0 ≤ sHg D s p ∧ sHg D s p ≤ 99999990 := by
  have b := h.2.2.1
  have := Sm_bd (f := fun a => gT D s a p) (lo := 0) (hi := 9999999) b.1 (fun a c d => gT_bd h hs c d)
  unfold sHg
  omega
theorem Sm_if {f g : Int → Int} {d n : Int} (hn : 0 ≤ n) (h : ∀ p, 0 ≤ p → p < n → 0 ≤ g p ∧ g p ≤ 99999990) : 0 ≤ Sm (fun p => if f p = d then g p else 0) n ∧ Sm (fun p => if f p = d then g p else 0) n ≤ 99999990 * n := by
  have := Sm_bd (f := fun p => if f p = d then g p else 0) (lo := 0) (hi := 99999990) hn (fun p a b => by
    have := h p a b
    split <;> omega)
  omega
section Views
variable {F : pd_F}
end Views

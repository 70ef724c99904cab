/-! the law from its start to a class with a book -/
section ST
variable {Ls : Int} {xs : Int → Int}
theorem dv {a j v : Int} (h : pd_in3 pd_is a j v = true) : pd_F0 a j = v := pd_F0i h
theorem cS_0 {F : pd_F} (hL : pd_Ly F) (t8 : F 1 8 = 259)
    (b9 : F 259 9 = 0) (b10 : F 259 10 = 0) (b11 : F 259 11 = 0) (b12 : F 259 12 = 0) (b13 : F 259 13 = 0) (b14 : F 259 14 = 0) (v0 : F 233 0 = 0) (v1 : F 233 1 = 100000) (v2 : F 233 2 = 50000) (w4 : F 231 4 = 0) (w5 : F 231 5 = 0) (d3 : F 237 3 = 0) (h3 : F 113 3 = 0) (h4 : F 113 4 = 0)
    (k0 : F 116 0 = 0 ∧ F 116 1 = 0 ∧ F 116 2 = 0) : ∃ D s, cS D s F ∧ cH D F 0 (fun _ _ => 0) (fun _ => 0) (fun _ _ => 0) ∧ D 369 0 = 0 := by
  obtain ⟨D, hD0⟩ : ∃ D : pd_F, (fun _ _ => 0) = D := ⟨_, rfl⟩
  obtain ⟨s, hs0⟩ : ∃ s : Int → Int, (fun j => if j = 72 then 100000 else if j = 73 then 50000 else 0) = s := ⟨_, rfl⟩
  have dz : ∀ a j, D a j = 0 := fun a j => by rw [← hD0]
  have n0 := dz 369 0
  have n1 := dz 370 0
  have n2 := dz 371 0
  have n3 := dz 372 0
  have n4 := dz 373 0
  have s70 : s 70 = 0 := by rw [← hs0]; rfl
  have s110 : s 110 = 0 := by rw [← hs0]; rfl
  have s71 : s 71 = 0 := by rw [← hs0]; rfl
  have s72 : s 72 = 100000 := by rw [← hs0]; rfl
  have s73 : s 73 = 50000 := by rw [← hs0]; rfl
  have hD : bOk D := by
    unfold bOk lWf
    rw [n0, n1, n2, n3, n4]
    exact ⟨⟨by omega, by omega, by omega, by omega, by omega, by omega, fun t a b => by omega, fun t a b => by omega⟩, fun p a b => by omega, by omega, by omega, fun p a b => by omega, fun p a b => by omega, fun p a b => by omega⟩
  have hA : aOk D s := ⟨fun a x y => by omega, by omega, by omega, by omega, by omega⟩
  have nD : sD D s = 0 := by
    have := sD_bd (D := D) (s := s) (by omega)
    omega
  have nM : ∀ m, ¬ isMk D m := fun m ⟨p, a, b, _⟩ => by omega
  have nO : ∀ m, ¬ Ou s m := fun m ⟨i, a, b, _⟩ => by omega
  have hR : sR D F 259 231 s := by
    refine ⟨hA, fun k a b => by omega, fun i j a b => by omega, by omega, fun m w => absurd w (nO m), fun a x y => by omega, ⟨by rw [s71]; exact v0, by rw [s72]; exact v1, by rw [s73]; exact v2⟩, by omega, fun k a b => by omega, by unfold lR; omega, fun i a b => ?_, ?_⟩
    · rw [w5]
      exact ⟨fun w => absurd w (tb_0 i), fun w => absurd w.2 (nO _)⟩
    · rw [s110, Sm_zero]
      intro i _ _
      rw [w5, ci_f (tb_0 i)]
  have hB : kB D F 259 := ⟨by omega, by omega, by omega, by omega, by omega, fun p a b => by omega, fun p a b => by omega, fun p a b => by omega, fun p a b => by omega, fun p a b => by omega, by omega, fun i j a b => by omega, fun i a b => by omega, fun m w => absurd w (nM m), fun i a b => by omega⟩
  refine ⟨D, s, ⟨hL, Or.inr t8, hD, by rw [t8]; exact hB, by rw [t8]; exact hR, ⟨fun a p x y => by omega, fun a p x y => by omega⟩, ⟨Or.inl nD, by rw [nD]; exact d3, fun d a b => by omega⟩, fun p a b => by omega, fun d a b => by omega, Or.inl n0⟩, ⟨h4, by omega, by decide, fun j a b => by omega, fun k a b => ?_⟩, n0⟩
  have c : k = 0 ∨ k = 1 ∨ k = 2 := by omega
  rcases c with rfl | rfl | rfl
  · exact ⟨k0.1, fun w => absurd rfl w⟩
  · exact ⟨k0.2.1, fun w => absurd rfl w⟩
  · exact ⟨k0.2.2, fun w => absurd rfl w⟩
theorem pl_bb {α β γ : Type} {o : Option α} {f : α → Option β} {g : β → Option γ} : Option.bind (Option.bind o f) g = Option.bind o (fun a => Option.bind (f a) g) := by cases o <;> rfl
theorem pl_i1 {α : Type} {n : Nat} {x : Option α} : pd_i (1 ≤ (n : Int) + 1) x = x := pl_i (by omega)
theorem pl_i2 {α : Type} {n : Nat} {x : Option α} : pd_i ((n : Int) + 1 ≠ 0) x = x := pl_i (by omega)
/-- behind the constructor -/
noncomputable def lawB (Ls : Int) (xs : Int → Int) (sh115 : pd_S) (F113 : pd_F) (o112 : Int) : Option Int :=
  pd_i (pd_ob sh115 11 o112 = true) <|
  Option.bind (pfX11_all sh115 5000 F113 o112 0) fun qr119 => pd_l qr119.1 fun r119 => pd_l qr119.2 fun F117 =>
  if r119 ≠ 0 then
    some 0
  else
    Option.bind (pfX11_tell sh115 5000 F117 o112 0 1) fun qr121 => pd_l qr121.1 fun r121 => pd_l qr121.2 fun F120 =>
    if r121 ≠ (-1) then
      some 0
    else
      Option.bind (pfL_begins Ls xs sh115 5000 F120 o112) fun qr124 => pd_l qr124.1 fun r124 => pd_l qr124.2.1 fun sh123 => pd_l qr124.2.2 fun F122 =>
      if r124 ≠ 0 then
        pfL_law_b43 Ls xs 5000 5000 sh123 F122 o112 0 0
      else
        some 0
theorem law_head : pfL_law Ls xs 5000 [] (fun _ _ => 0) = Option.bind pd_mk fun q => lawB Ls xs q.1 q.2.1 q.2.2 := by
  unfold pfL_law pd_mk lawB
  simp only [pl_l, pl_bb, pl_b, pl_i1, pl_i2]
theorem law_begin (hL : 0 ≤ Ls) (H : ∀ sT F D np na, Ac D np na 4 F → (3 ≤ np ∧ np ≤ 6) → (2 ≤ na ∧ na ≤ 5) → pfL_law_b43 Ls xs 5000 5000 (pd_SH sT) F 1 0 0 = some 1) : pfL_law Ls xs 5000 [] (fun _ _ => 0) = some 1 := by
  obtain ⟨q, e1, e2, e3, e4, -⟩ := pd_mk_ok
  rw [law_head, e1]
  show lawB Ls xs q.1 q.2.1 q.2.2 = some 1
  rw [e2, e3, e4]
  have hF : pd_Ly pd_F0 := fun _ _ _ => rfl
  have t8 : pd_F0 1 8 = 259 := dv (by decide +kernel)
  have t9 : pd_F0 1 9 = 0 := dv (by decide +kernel)
  obtain ⟨D, s, c1, c2, c3⟩ := cS_0 hF t8 (dv (by decide +kernel)) (dv (by decide +kernel)) (dv (by decide +kernel)) (dv (by decide +kernel)) (dv (by decide +kernel)) (dv (by decide +kernel)) (dv (by decide +kernel)) (dv (by decide +kernel)) (dv (by decide +kernel)) (dv (by decide +kernel)) (dv (by decide +kernel)) (dv (by decide +kernel)) (dv (by decide +kernel)) (dv (by decide +kernel)) ⟨dv (by decide +kernel), dv (by decide +kernel), dv (by decide +kernel)⟩
  have l31 : pd_F0 3 1 = 0 := dv (by decide +kernel)
  have l21 : pd_F0 2 1 = 5 := dv (by decide +kernel)
  have l113 : pd_F0 113 3 = 0 := dv (by decide +kernel)
  rw [← pd_SH_nil]
  have nD : sD D s = 0 := by
    have := sD_bd (D := D) (s := s) (by omega)
    omega
  have eA := p_all (sT := []) c1 (w := 0)
  have e0 : aAll D s 0 = 0 := by
    unfold aAll
    rw [if_pos (by decide), if_neg (by decide), if_neg (by decide), nD]
    rfl
  rcases p_tell (sT := []) c1 c2 (w := 0) (v := 1) with ⟨-, eT⟩ | ⟨z, -⟩
  · obtain ⟨sT', F', D', np, na, b1, b2, b3, b4⟩ := l_begins (sT := []) (xs := xs) (b := 5) hL hF l31 (Or.inr t8) (Or.inl rfl) (by rw [t8]; decide) l21 (by omega)
    unfold lawB
    simp only [gx_1, pl_iT, eA, e0, eT, b1, pl_b, pl_l]
    rw [if_neg (show ¬ (0 : Int) ≠ 0 by decide), if_neg (show ¬ (-1 : Int) ≠ -1 by decide), if_pos (show (1 : Int) ≠ 0 by decide)]
    exact H sT' F' D' np na b2 b3 b4
  · exact absurd t9 z.1
end ST

/-! the start, and the law -/
theorem iv_s {F : pd_F} (hL : pd_Ly F) (n0 : F 369 0 = 0) (n1 : F 370 0 = 0) (n2 : F 371 0 = 0) (n3 : F 372 0 = 0) (n4 : F 373 0 = 0) (s70 : F 393 70 = 0) (s110 : F 393 110 = 0) (s71 : F 393 71 = 0) (s72 : F 393 72 = 100000) (s73 : F 393 73 = 50000) (t8 : F 1 8 = 259) (t9 : F 1 9 = 0)
    (b9 : F 259 9 = 0) (b10 : F 259 10 = 0) (b11 : F 259 11 = 0) (b12 : F 259 12 = 0) (b13 : F 259 13 = 0) (b14 : F 259 14 = 0) (v0 : F 233 0 = 0) (v1 : F 233 1 = 100000) (v2 : F 233 2 = 50000) (w4 : F 231 4 = 0) (w5 : F 231 5 = 0) (d3 : F 237 3 = 0) (h3 : F 113 3 = 0) (h4 : F 113 4 = 0)
    (k0 : F 116 0 = 0 ∧ F 116 1 = 0 ∧ F 116 2 = 0) (k1 : F 396 0 = 0 ∧ F 396 1 = 0 ∧ F 396 2 = 0) (r41 : F 367 41 = 0) (r2 : F 367 2 = 0) (r12 : F 367 12 = 0) (l1 : F 3 1 = 0) (l2 : F 2 1 = 5) (hi : ∀ k, 12 ≤ k → k < 24 → F 377 k = 0 ∨ F 377 k = 1) : Iv F (F 393) F := by
  have hD : bOk F := by
    unfold bOk lWf
    rw [n0, n1, n2, n3, n4]
    exact ⟨⟨by omega, by omega, by omega, by omega, by omega, by omega, fun t a b => by omega, fun t a b => by omega⟩, fun p a b => by omega, by omega, by omega, fun p a b => by omega, fun p a b => by omega, fun p a b => by omega⟩
  have hA : aOk F (F 393) := ⟨fun a x y => by omega, by omega, by omega, by omega, by omega⟩
  have nD : sD F (F 393) = 0 := by
    have := sD_bd (D := F) (s := F 393) (by omega)
    omega
  have nM : ∀ m, ¬ isMk F m := fun m ⟨p, a, b, _⟩ => by omega
  have nO : ∀ m, ¬ Ou (F 393) m := fun m ⟨i, a, b, _⟩ => by omega
  have hR : sR F F 259 231 (F 393) := by
    refine ⟨hA, fun k a b => by omega, fun i j a b => by omega, by omega, fun m w => absurd w (nO m), fun a x y => by omega, ⟨by rw [s71]; exact v0, by rw [s72]; exact v1, by rw [s73]; exact v2⟩, by omega, fun k a b => by omega, by unfold lR; omega, fun i a b => ?_, ?_⟩
    · rw [w5]
      exact ⟨fun w => absurd w (tb_0 i), fun w => absurd w.2 (nO _)⟩
    · rw [s110, Sm_zero]
      intro i _ _
      rw [w5, ci_f (tb_0 i)]
  have hB : kB F F 259 := ⟨by omega, by omega, by omega, by omega, by omega, fun p a b => by omega, fun p a b => by omega, fun p a b => by omega, fun p a b => by omega, fun p a b => by omega, by omega, fun i j a b => by omega, fun i a b => by omega, fun m w => absurd w (nM m), fun i a b => by omega⟩
  refine ⟨⟨hL, fun _ _ _ => rfl, rfl, hD, hA⟩, ⟨hL, Or.inr t8, hD, by rw [t8]; exact hB, by rw [t8]; exact hR, ⟨fun a p x y => by omega, fun a p x y => by omega⟩, ⟨Or.inl nD, by rw [nD]; exact d3, fun d a b => by omega⟩, fun p a b => by omega, fun d a b => by omega, Or.inl n0⟩, fun p a b => by omega, ?_, ⟨by omega, by omega, fun j a b => by omega⟩, by omega, by omega, hi, fun j a b => by omega⟩
  refine ⟨by omega, by omega, by omega, fun j a b => by omega, fun k a b => ?_⟩
  have c : k = 0 ∨ k = 1 ∨ k = 2 := by omega
  rcases c with rfl | rfl | rfl
  · exact ⟨by omega, fun w => absurd k1.1 w⟩
  · exact ⟨by omega, fun w => absurd k1.2.1 w⟩
  · exact ⟨by omega, fun w => absurd k1.2.2 w⟩
theorem dv {a j v : Int} (h : pd_in3 pd_is a j v = true) : pd_F0 a j = v := pd_F0i h
def pd_m377 : Bool := match pd_mk with
  | some (_, F, _, _, _) => (List.range 12).all (fun k => decide (F 377 (12 + (k : Int)) = 0))
  | none => false
set_option maxRecDepth 100000 in
theorem pd_m377_ok : pd_m377 = true := by decide +kernel
theorem pd_z377 (k : Int) (h0 : 12 ≤ k) (h1 : k < 24) : pd_F0 377 k = 0 ∨ pd_F0 377 k = 1 := by
  have h := pd_m377_ok
  unfold pd_m377 at h
  cases e : pd_mk with
  | none => rw [e] at h; cases h
  | some q =>
    rw [e] at h
    obtain ⟨sh, F, a, b, c⟩ := q
    have hF : pd_F0 = F := by unfold pd_F0; rw [e]
    have := List.all_eq_true.mp h (k - 12).toNat (List.mem_range.mpr (by omega))
    have := of_decide_eq_true this
    rw [show 12 + ((k - 12).toNat : Int) = k by omega] at this
    rw [hF]
    exact Or.inl this
theorem iv_0 : Iv pd_F0 (pd_F0 393) pd_F0 :=
  iv_s (fun _ _ _ => rfl) (dv (by decide +kernel)) (dv (by decide +kernel)) (dv (by decide +kernel)) (dv (by decide +kernel)) (dv (by decide +kernel)) (dv (by decide +kernel)) (dv (by decide +kernel)) (dv (by decide +kernel)) (dv (by decide +kernel)) (dv (by decide +kernel)) (dv (by decide +kernel)) (dv (by decide +kernel))
    (dv (by decide +kernel)) (dv (by decide +kernel)) (dv (by decide +kernel)) (dv (by decide +kernel)) (dv (by decide +kernel)) (dv (by decide +kernel)) (dv (by decide +kernel)) (dv (by decide +kernel)) (dv (by decide +kernel)) (dv (by decide +kernel)) (dv (by decide +kernel)) (dv (by decide +kernel)) (dv (by decide +kernel)) (dv (by decide +kernel))
    ⟨dv (by decide +kernel), dv (by decide +kernel), dv (by decide +kernel)⟩ ⟨dv (by decide +kernel), dv (by decide +kernel), dv (by decide +kernel)⟩ (dv (by decide +kernel)) (dv (by decide +kernel)) (dv (by decide +kernel)) (dv (by decide +kernel)) (dv (by decide +kernel)) pd_z377
theorem pl_bb {α β γ : Type} {o : Option α} {f : α → Option β} {g : β → Option γ} : Option.bind (Option.bind o f) g = Option.bind o (fun a => Option.bind (f a) g) := by cases o <;> rfl
theorem pl_i1 {α : Type} {n : Nat} {x : Option α} : pd_i (1 ≤ (n : Int) + 1) x = x := pl_i (by omega)
theorem pl_i2 {α : Type} {n : Nat} {x : Option α} : pd_i ((n : Int) + 1 ≠ 0) x = x := pl_i (by omega)
set_option maxRecDepth 100000 in
theorem law_head (Ls : Int) (xs : Int → Int) (n : Nat) : pfL_law Ls xs n [] (fun _ _ => 0) = Option.bind pd_mk fun q => pfL_law_b23 Ls xs q.1 n n q.2.1 q.2.2.1 q.2.2.2.1 q.2.2.2.2 0 := by
  unfold pfL_law pd_mk
  simp only [pl_l, pl_bb, pl_b, pl_i1, pl_i2]
/-- the law's function answers 1 -/
theorem pd_law1 (Ls : Int) (xs : Int → Int) (h : 0 ≤ Ls ∧ Ls ≤ 3072) : pfL_law Ls xs 5000 [] (fun _ _ => 0) = some 1 := by
  obtain ⟨q, e1, e2, e3, e4, -⟩ := pd_mk_ok
  rw [law_head, e1]
  show pfL_law_b23 Ls xs q.1 5000 5000 q.2.1 q.2.2.1 q.2.2.2.1 q.2.2.2.2 0 = some 1
  rw [e2, e3, e4]
  exact law_loop h (fun D s F n hI => i_book hI n) 5000 pd_F0 0 pd_F0 (pd_F0 393) iv_0 (by omega) h.1 (by omega)

/-! the book told so far, of both; frames -/
theorem rc_row {a j : Int} (h : 369 ≤ a ∧ a ≤ 392) : pd_rc a j = false := by
  have key : ∀ k : Nat, k < 24 → (match pd_sh pd_SH (369 + (k : Int)) with | some (c, _, _) => decide (c < 2) | none => false) = true := by decide +kernel
  have := key (a - 369).toNat (by omega)
  rw [show 369 + ((a - 369).toNat : Int) = a by omega] at this
  unfold pd_rc
  split at this
  · rename_i c k n e
    rw [e]
    have hc : c < 2 := of_decide_eq_true this
    show (if c = 4 then _ else if c = 2 ∨ c = 3 then _ else false) = false
    rw [if_neg (by omega), if_neg (by omega)]
  · cases this
theorem bn_up {G : pd_F} {a i v : Int} : bn (pd_up G a i v) = pd_up (bn G) a (i - bs a) v := by
  funext c j
  unfold bn pd_up
  by_cases h : c = a
  · subst h
    by_cases e : bs c + j = i
    · rw [if_pos ⟨rfl, e⟩, if_pos ⟨rfl, by omega⟩]
    · rw [if_neg (fun z => e z.2), if_neg (fun z => e (by have := z.2; omega))]
  · rw [if_neg (fun z => h z.1), if_neg (fun z => h z.1)]
/-- rows 369 .. 392 are those of H -/
def rR (G H : pd_F) : Prop := ∀ a, a ≠ 367 → G a = H a
theorem rR.z {G G' H : pd_F} (h : rR G H) (z : zR G G') : rR G' H := fun a x => (z.1 a x).trans (h a x)
theorem rR.up {G H : pd_F} (h : rR G H) {a i v : Int} : rR (pd_up G a i v) (pd_up H a i v) := fun c x => by
  by_cases e : c = a
  · rw [e, pu_row, pu_row, h a (e ▸ x)]
  · rw [pu_a e, pu_a e]; exact h c x
theorem rR.bn {G H : pd_F} (h : rR G H) : rR (bn G) (bn H) := fun a x => bn_row (h a x)
/-- what a line leaves in the reference -/
def wR (G G' : pd_F) : Prop := (∀ a, a ≠ 367 → (a < 369 ∨ 392 < a) → G' a = G a) ∧ (∀ j, (j < 4 ∨ 11 < j) → j ≠ 38 → G' 367 j = G 367 j) ∧ (∀ a j, 369 ≤ a → a ≤ 390 → j < bs a → G' a j = G a j) ∧ ∀ k, (G 377 k = 0 ∨ G 377 k = 1) → (G' 377 k = 0 ∨ G' 377 k = 1)
theorem wR.rf (G : pd_F) : wR G G := ⟨fun _ _ _ => rfl, fun _ _ _ => rfl, fun _ _ _ _ _ => rfl, fun _ h => h⟩
theorem wR.z {G G' H : pd_F} (h : wR G G') (z : zR G' H) : wR G H := ⟨fun a x y => (z.1 a x).trans (h.1 a x y), fun j x y => (z.2 j x y).trans (h.2.1 j x y), fun a j x y w => by rw [z.1 a (by omega)]; exact h.2.2.1 a j x y w, fun k q => by rw [z.1 377 (by decide)]; exact h.2.2.2 k q⟩
theorem wR.up {G G' : pd_F} (h : wR G G') {a i v : Int} (ha : 369 ≤ a ∧ a ≤ 392) (hi : bs a ≤ i) (hv : a = 377 → v = 0 ∨ v = 1 := by omega) : wR G (pd_up G' a i v) := ⟨fun c x y => by rw [pu_a (by omega)]; exact h.1 c x y, fun j x y => by rw [pu_a (by omega)]; exact h.2.1 j x y, fun c j x y w => by
  by_cases e : c = a
  · subst e; rw [pu_r, if_neg (by omega)]; exact h.2.2.1 c j x y w
  · rw [pu_a e]; exact h.2.2.1 c j x y w, fun k q => by
  by_cases e : 377 = a
  · rw [e, pu_r]
    by_cases e2 : k = i
    · rw [if_pos e2]; exact hv e.symm
    · rw [if_neg e2, ← e]; exact h.2.2.2 k q
  · rw [pu_a e]; exact h.2.2.2 k q⟩
theorem wR.tr {G G' H : pd_F} (h : wR G G') (g : wR G' H) : wR G H := ⟨fun a x y => (g.1 a x y).trans (h.1 a x y), fun j x y => (g.2.1 j x y).trans (h.2.1 j x y), fun a j x y w => (g.2.2.1 a j x y w).trans (h.2.2.1 a j x y w), fun k q => g.2.2.2 k (h.2.2.2 k q)⟩
/-- what a line leaves in the class -/
def wC (b : Int) (F F' : pd_F) : Prop := (∀ a, a ≠ 2 → a ≠ 3 → (a < b ∨ b + 107 < a) → F' a = F a) ∧ (∀ j, j ≠ 2 → F' 2 j = F 2 j) ∧ ∀ j, (j < 3 ∨ 8 < j) → F' 3 j = F 3 j
theorem wC.tr {b : Int} {F G H : pd_F} (h : wC b F G) (g : wC b G H) : wC b F H := ⟨fun a x y z => (g.1 a x y z).trans (h.1 a x y z), fun j x => (g.2.1 j x).trans (h.2.1 j x), fun j x => (g.2.2 j x).trans (h.2.2 j x)⟩
theorem zC.w {b : Int} {F G : pd_F} (h : zC F G) : wC b F G := ⟨fun a x y _ => h.1 a x y, h.2.1, h.2.2⟩
theorem wC.up {b : Int} {F G : pd_F} (h : wC b F G) (hb : 5 ≤ b) {a i v : Int} (ha : b ≤ a ∧ a ≤ b + 107) : wC b F (pd_up G a i v) := ⟨fun c x y z => by rw [pu_a (by omega)]; exact h.1 c x y z, fun j x => by rw [pu_a (by omega)]; exact h.2.1 j x, fun j x => by rw [pu_a (by omega)]; exact h.2.2 j x⟩
theorem aB_5 {b : Int} (h : aB b) : 5 ≤ b ∧ b ≤ 259 := by rcases h with rfl | rfl <;> decide
theorem J.row {b : Int} {F G : pd_F} (h : J b F G) {a j v : Int} (ha : 369 ≤ a ∧ a ≤ 392) : J b F (pd_up G a j v) := h.r (h.2.1.up (rc_row ha)) (fun i _ => by rw [pu_a (by omega)]) (pu_a (by omega))
/-! what is told of persons, lists, highs, loans, settings -/
def Kp (b : Int) (F B : pd_F) : Prop := F b 9 = B 369 0 ∧ (0 ≤ B 369 0 ∧ B 369 0 ≤ 12) ∧ (∀ p, 0 ≤ p → p < B 369 0 → kP B F b p ∧ (0 ≤ B 375 p ∧ B 375 p ≤ 3) ∧ (B 377 p = 0 ∨ B 377 p = 1)) ∧ kM B F b ∧ F b 14 ≤ 3 * B 369 0
def Kl (b : Int) (F B : pd_F) : Prop := (F b 10 = B 370 0 ∧ 0 ≤ B 370 0 ∧ B 370 0 ≤ 5) ∧ (F b 11 = B 371 0 ∧ 0 ≤ B 371 0 ∧ B 371 0 ≤ 10) ∧ (∀ t, 0 ≤ t → t < B 370 0 → kG B F b t ∧ lOk (B 369 0) (B 381) (B 382) (B 383) t t) ∧
  ∀ a, 0 ≤ a → a < B 371 0 → kG B F b (5 + a) ∧ lOk (B 369 0) (B 381) (B 382) (B 383) (5 + a) (B 370 0) ∧ F (b + 4) a = B 380 a ∧ 0 ≤ B 380 a ∧ B 380 a ≤ 9999999
def Kh (b : Int) (F B : pd_F) : Prop := F b 12 = B 372 0 ∧ (0 ≤ B 372 0 ∧ B 372 0 ≤ 6) ∧ ∀ h, 0 ≤ h → h < B 372 0 → (F (b + 94 + h) 0 = B 384 h ∧ F (b + 94 + h) 1 = B 385 h ∧ F (b + 94 + h) 2 = B 386 h ∧ F (b + 94 + h) 3 = B 387 h) ∧ (0 ≤ B 384 h ∧ B 384 h < B 371 0) ∧ (0 ≤ B 385 h ∧ B 385 h ≤ 9999999) ∧ (0 ≤ B 386 h ∧ B 386 h ≤ 999) ∧ 0 ≤ B 387 h ∧ B 387 h ≤ 999
def Ko (b : Int) (F B : pd_F) : Prop := F b 13 = B 373 0 ∧ (0 ≤ B 373 0 ∧ B 373 0 ≤ 8) ∧ ∀ l, 0 ≤ l → l < B 373 0 → (F (b + 100 + l) 0 = B 388 l ∧ F (b + 100 + l) 1 = B 389 l ∧ F (b + 100 + l) 2 = B 390 l ∧ F (b + 100 + l) 3 = 999) ∧ (0 ≤ B 388 l ∧ B 388 l < B 369 0) ∧ 0 ≤ B 389 l ∧ B 389 l ≤ 9999999
def Ks (b : Int) (F B : pd_F) : Prop := ∀ w, 0 ≤ w → w < 3 → (B 392 w = 0 ∧ F (b + 7) w = -1) ∨ (B 392 w = 1 ∧ F (b + 7) w = B 391 w ∧ 0 ≤ B 391 w ∧ B 391 w ≤ tMx w)
def K (b : Int) (F B : pd_F) : Prop := Kp b F B ∧ Kl b F B ∧ Kh b F B ∧ Ko b F B ∧ Ks b F B ∧ jM b F B
/-- how many lines -/
def kN (B : pd_F) : Int := B 369 0 + B 370 0 + B 371 0 + B 372 0 + B 373 0 + B 392 0 + B 392 1 + B 392 2
section KF
variable {b : Int} {F F' B B' : pd_F}
theorem Kp.fr (h : Kp b F B) (e9 : F' b 9 = F b 9) (e14 : F' b 14 = F b 14) (e : ∀ a, b + 8 ≤ a → a ≤ b + 33 → F' a = F a) (r0 : B' 369 0 = B 369 0) (r4 : B' 374 = B 374) (r5 : B' 375 = B 375) (r6 : B' 376 = B 376) (r7 : B' 377 = B 377) : Kp b F' B' := by
  obtain ⟨h1, h2, h3, h4, h5⟩ := h
  unfold Kp
  rw [e9, e14, r0]
  refine ⟨h1, h2, fun p x y => ?_, ?_, h5⟩
  · have := h3 p x y
    unfold kP at this ⊢
    rw [e (b + 10 + 2 * p) (by omega) (by omega), e (b + 10 + 2 * p + 1) (by omega) (by omega), r4, r5, r6, r7]
    exact this
  · unfold kM isMk at h4 ⊢
    rw [e14, e (b + 8) (by omega) (by omega), e (b + 9) (by omega) (by omega), r0, r5, r6]
    exact h4
theorem lOk_mono {np np' l nt nt' : Int} {pm pt pw : Int → Int} (h : lOk np pm pt pw l nt) (e : np ≤ np') (e2 : nt ≤ nt') : lOk np' pm pt pw l nt' :=
  ⟨h.1, h.2.1, fun i a c => ⟨by have := (h.2.2 i a c).1; omega, (h.2.2 i a c).2⟩⟩
theorem kG.fr {l : Int} (h : kG B F b l) (e : ∀ a, b + 34 + 4 * l ≤ a → a ≤ b + 37 + 4 * l → F' a = F a) (r1 : B' 381 = B 381) (r2 : B' 382 = B 382) (r3 : B' 383 = B 383) : kG B' F' b l := by
  unfold kG at h ⊢
  rw [e (b + 34 + 4 * l) (by omega) (by omega), e (b + 34 + 4 * l + 1) (by omega) (by omega), e (b + 34 + 4 * l + 2) (by omega) (by omega), e (b + 34 + 4 * l + 3) (by omega) (by omega), r1, r2, r3]
  exact h
theorem Kl.fr (h : Kl b F B) (e10 : F' b 10 = F b 10) (e11 : F' b 11 = F b 11) (e4 : F' (b + 4) = F (b + 4)) (e : ∀ a, b + 34 ≤ a → a ≤ b + 93 → F' a = F a) (rp : B 369 0 ≤ B' 369 0) (rt : B' 370 0 = B 370 0) (ra : B' 371 0 = B 371 0) (r0 : B' 380 = B 380) (r1 : B' 381 = B 381) (r2 : B' 382 = B 382) (r3 : B' 383 = B 383) : Kl b F' B' := by
  obtain ⟨h1, h2, h3, h4⟩ := h
  unfold Kl
  rw [e10, e11, e4, rt, ra, r0]
  refine ⟨h1, h2, fun t x y => ?_, fun a x y => ?_⟩
  · obtain ⟨k1, k2⟩ := h3 t x y
    refine ⟨k1.fr (fun a u v => e a (by omega) (by omega)) r1 r2 r3, ?_⟩
    rw [r1, r2, r3]
    exact lOk_mono k2 rp (Int.le_refl _)
  · obtain ⟨k1, k2, k3⟩ := h4 a x y
    refine ⟨k1.fr (fun a u v => e a (by omega) (by omega)) r1 r2 r3, ?_, k3⟩
    rw [r1, r2, r3]
    exact lOk_mono k2 rp (Int.le_refl _)
theorem Kh.fr (h : Kh b F B) (e12 : F' b 12 = F b 12) (e : ∀ a, b + 94 ≤ a → a ≤ b + 99 → F' a = F a) (ra : B 371 0 ≤ B' 371 0) (rh : B' 372 0 = B 372 0) (r4 : B' 384 = B 384) (r5 : B' 385 = B 385) (r6 : B' 386 = B 386) (r7 : B' 387 = B 387) : Kh b F' B' := by
  obtain ⟨h1, h2, h3⟩ := h
  unfold Kh
  rw [e12, rh, r4, r5, r6, r7]
  refine ⟨h1, h2, fun k x y => ?_⟩
  rw [e (b + 94 + k) (by omega) (by omega)]
  obtain ⟨k1, k2, k3⟩ := h3 k x y
  exact ⟨k1, by omega, k3⟩
theorem Ko.fr (h : Ko b F B) (e13 : F' b 13 = F b 13) (e : ∀ a, b + 100 ≤ a → a ≤ b + 107 → F' a = F a) (rp : B 369 0 ≤ B' 369 0) (rl : B' 373 0 = B 373 0) (r8 : B' 388 = B 388) (r9 : B' 389 = B 389) (r0 : B' 390 = B 390) : Ko b F' B' := by
  obtain ⟨h1, h2, h3⟩ := h
  unfold Ko
  rw [e13, rl, r8, r9, r0]
  refine ⟨h1, h2, fun k x y => ?_⟩
  rw [e (b + 100 + k) (by omega) (by omega)]
  obtain ⟨k1, k2, k3⟩ := h3 k x y
  exact ⟨k1, by omega, k3⟩
theorem Ks.fr (h : Ks b F B) (e : F' (b + 7) = F (b + 7)) (r1 : B' 391 = B 391) (r2 : B' 392 = B 392) : Ks b F' B' := by
  unfold Ks
  rw [e, r1, r2]
  exact h
theorem K.eqv (h : K b F B) (e : rR B' B) (f : ∀ a, b ≤ a → a ≤ b + 107 → F' a = F a) : K b F' B' := by
  obtain ⟨h1, h2, h3, h4, h5, h6⟩ := h
  have n := h6.2.1
  have fb := f b (by omega) (by omega)
  refine ⟨h1.fr (by rw [fb]) (by rw [fb]) (fun a x y => f a (by omega) (by omega)) (by rw [e 369 (by decide)]) (e 374 (by decide)) (e 375 (by decide)) (e 376 (by decide)) (e 377 (by decide)),
    h2.fr (by rw [fb]) (by rw [fb]) (f _ (by omega) (by omega)) (fun a x y => f a (by omega) (by omega)) (by rw [e 369 (by decide)]; exact Int.le_refl _) (by rw [e 370 (by decide)]) (by rw [e 371 (by decide)]) (e 380 (by decide)) (e 381 (by decide)) (e 382 (by decide)) (e 383 (by decide)),
    h3.fr (by rw [fb]) (fun a x y => f a (by omega) (by omega)) (by rw [e 371 (by decide)]; exact Int.le_refl _) (by rw [e 372 (by decide)]) (e 384 (by decide)) (e 385 (by decide)) (e 386 (by decide)) (e 387 (by decide)),
    h4.fr (by rw [fb]) (fun a x y => f a (by omega) (by omega)) (by rw [e 369 (by decide)]; exact Int.le_refl _) (by rw [e 373 (by decide)]) (e 388 (by decide)) (e 389 (by decide)) (e 390 (by decide)),
    h5.fr (f _ (by omega) (by omega)) (e 391 (by decide)) (e 392 (by decide)),
    h6.fr ⟨by rw [fb], by rw [fb], by rw [fb]⟩ ⟨by rw [e 369 (by decide)], by rw [e 370 (by decide)], by rw [e 371 (by decide)]⟩ (fun p x y => ⟨by rw [f _ (by omega) (by omega)], by rw [e 374 (by decide)]⟩) (fun p x y => ⟨by rw [f _ (by omega) (by omega)], by rw [e 378 (by decide)]⟩) (fun p x y => ⟨by rw [f _ (by omega) (by omega)], by rw [e 379 (by decide)]⟩)⟩
theorem kN_e (e : rR B' B) : kN B' = kN B := by
  unfold kN
  rw [e 369 (by decide), e 370 (by decide), e 371 (by decide), e 372 (by decide), e 373 (by decide), e 392 (by decide)]
theorem kN_bd (h : K b F B) : 0 ≤ kN B ∧ kN B ≤ 44 := by
  obtain ⟨h1, h2, h3, h4, h5, h6⟩ := h
  have a1 := h6.2.1
  have a2 := h3.2.1
  have a3 := h4.2.1
  have w0 := h5 0 (by decide) (by decide)
  have w1 := h5 1 (by decide) (by decide)
  have w2 := h5 2 (by decide) (by decide)
  unfold kN
  omega
theorem jM.z {G G' : pd_F} (h : jM b F (bn G)) (hb : 5 ≤ b) (z : zC F F') (y : zR G G') : jM b F' (bn G') := by
  have n := h.2.1
  have e : rR (bn G') (bn G) := (show rR G' G from y.1).bn
  have fb := z.1 b (by omega) (by omega)
  exact h.fr ⟨by rw [fb], by rw [fb], by rw [fb]⟩ ⟨by rw [e 369 (by decide)], by rw [e 370 (by decide)], by rw [e 371 (by decide)]⟩ (fun p x y => ⟨by rw [z.1 _ (by omega) (by omega)], by rw [e 374 (by decide)]⟩) (fun p x y => ⟨by rw [z.1 _ (by omega) (by omega)], by rw [e 378 (by decide)]⟩) (fun p x y => ⟨by rw [z.1 _ (by omega) (by omega)], by rw [e 379 (by decide)]⟩)
end KF
/-- a line read by both -/
def jL (b : Int) (F G : pd_F) (c r : Option (Int × pd_F)) : Prop := ∃ F' G' v, c = some (v, F') ∧ r = some (v, G') ∧ wC b F F' ∧ wR G G' ∧ ((v = 1 ∧ J b F' G' ∧ K b F' (bn G') ∧ kN (bn G') = kN (bn G) + 1) ∨ (v = 0 ∧ jF F' G'))
theorem jL.x {b : Int} {F G F' G' : pd_F} (c : wC b F F') (r : wR G G') (f : jF F' G') : jL b F G (some (0, F')) (some (0, G')) := ⟨F', G', 0, rfl, rfl, c, r, Or.inr ⟨rfl, f⟩⟩
/-- the end of the reference's line -/
def rL (o : Option (Int × pd_F)) : Option (Int × pd_F) := Option.bind o fun q => pd_l q.1 fun r14 => pd_l q.2 fun F13 => if r14 ≠ 0 then pfX12_lineHere_b156 pd_SH 5000 F13 367 else some (0, F13)
theorem rL_0 {G : pd_F} : rL (some (0, G)) = some (0, G) := by
  unfold rL
  simp only [pl_l, pl_b, pl_iT, pl_t, pl_f]
  rw [if_neg (by decide)]
theorem rL_1 {G : pd_F} : rL (some (1, G)) = pfX12_lineHere_b156 pd_SH 5000 G 367 := by
  unfold rL
  simp only [pl_l, pl_b, pl_iT, pl_t, pl_f]
  rw [if_pos (by decide)]
section SL
variable {b : Int} {F G : pd_F}
/-- a setting told -/
theorem j_setting (h : J b F G) (hK : K b F (bn G)) (h4 : F 3 4 = 1) {w : Int} (hw : 0 ≤ w ∧ w < 3) : jL b F G (pfX6_readSetting pd_SH 5000 F 2 w) (rL (pfX12_onceLine pd_SH 5000 G 367 w)) := by
  obtain ⟨h1, h2, h3, h5, -⟩ := id h
  have b5 := aB_5 h3
  obtain ⟨s0, -, -, -, -, -, -, s7, -⟩ := sh_b h3
  have l6 : ∀ {H : pd_F}, pd_Ly H → H b 6 = b + 7 := fun hH => (ly_b hH h3).2.2.2.2.2.2.1
  have hs := hK.2.2.2.2.1 w hw.1 hw.2
  rw [bn_392, bn_391] at hs
  unfold pfX6_readSetting pfX12_onceLine
  simp only [pl_l, pl_b, pl_iT, pl_t, pl_f, gx_367, gx_368, gx_369, gx_370, gx_371, gx_372, gx_373, gx_374, gx_375, gx_376, gx_377, gx_378, gx_379, gx_380, gx_381, gx_382, gx_383, gx_384, gx_385, gx_386, gx_387, gx_388, gx_389, gx_390, gx_391, gx_392, gx_393, gx_394, gx_395, gx_396, gx_397, gx_398, gx_399, gx_400, gx_401, gx_402, gx_403, gn_368, gn_369, gn_370, gn_371, gn_372, gn_373, gn_374, gn_375, gn_376, gn_377, gn_378, gn_379, gn_380, gn_381, gn_382, gn_383, gn_384, gn_385, gn_386, gn_387, gn_388, gn_389, gn_390, gn_391, gn_392, gn_393, gn_394, gn_395, gn_396, gn_397, gn_398, gn_399, gn_400, gn_401, gn_402, gn_403, gx_1, gx_2, gx_3, gx_4, gx_113, gx_114, gx_115, gx_116, gx_212, gx_213, gx_224, gn_4, gn_114, gn_115, gn_116, gn_213, gn_224, lx_1_0 h1, lx_1_1 h1, lx_1_2 h1, lx_1_3 h1, lx_1_4 h1, lx_1_5 h1, lx_1_6 h1, lx_1_7 h1, lx_2_0 h1, lx_3_0 h1, lx_113_0 h1, lx_113_1 h1, lx_113_2 h1, lx_212_0 h1, lx_212_1 h1, lm_1 h2, lm_14 h2, lm_15 h2, lm_16 h2, lm_17 h2, lm_18 h2, lm_19 h2, lm_20 h2, lm_21 h2, lm_22 h2, lm_23 h2, lm_24 h2, lm_25 h2, lm_26 h2, lm_27 h2, lm_28 h2, lm_29 h2, lm_30 h2, lm_31 h2, lm_32 h2, lm_33 h2, lm_34 h2, lm_35 h2, lm_36 h2, lm_37 h2, lm_39 h2, lm_40 h2, lm_42 h2, lm_43 h2, lm_44 h2, lm_45 h2, lm_47 h2, lm_48 h2, lm_49 h2, lm_50 h2, lm_51 h2, h5, pl_ob s0, l6 h1, pl_ib s7]
  rw [pl_i (by omega), pl_i (by omega)]
  rcases hs with ⟨o0, o1⟩ | ⟨o0, o1, o2⟩
  · rw [if_pos o1, if_neg (show ¬ G 392 w ≠ 0 from fun e => e o0)]
    unfold pfX12_onceLine_b15
    have m := j_must h (v := 1) (k := 2) (by decide)
    have J1 := h.row (a := 392) (j := w) (v := 1) (by decide)
    have r1 : rR (pd_up G 392 w 1) (pd_up G 392 w 1) := fun _ _ => rfl
    have w1 : wR G (pd_up G 392 w 1) := (wR.rf G).up (by decide) (by rw [show bs 392 = 0 by decide]; exact hw.1)
    obtain ⟨F1, G1, a1, a2, J2, z2, y2, -⟩ := J1.adv (by omega)
    simp only [pl_l, pl_b, pl_iT, pl_t, pl_f, gx_367, gx_368, gx_369, gx_370, gx_371, gx_372, gx_373, gx_374, gx_375, gx_376, gx_377, gx_378, gx_379, gx_380, gx_381, gx_382, gx_383, gx_384, gx_385, gx_386, gx_387, gx_388, gx_389, gx_390, gx_391, gx_392, gx_393, gx_394, gx_395, gx_396, gx_397, gx_398, gx_399, gx_400, gx_401, gx_402, gx_403, gn_368, gn_369, gn_370, gn_371, gn_372, gn_373, gn_374, gn_375, gn_376, gn_377, gn_378, gn_379, gn_380, gn_381, gn_382, gn_383, gn_384, gn_385, gn_386, gn_387, gn_388, gn_389, gn_390, gn_391, gn_392, gn_393, gn_394, gn_395, gn_396, gn_397, gn_398, gn_399, gn_400, gn_401, gn_402, gn_403, m, lm_1 h2, lm_14 h2, lm_15 h2, lm_16 h2, lm_17 h2, lm_18 h2, lm_19 h2, lm_20 h2, lm_21 h2, lm_22 h2, lm_23 h2, lm_24 h2, lm_25 h2, lm_26 h2, lm_27 h2, lm_28 h2, lm_29 h2, lm_30 h2, lm_31 h2, lm_32 h2, lm_33 h2, lm_34 h2, lm_35 h2, lm_36 h2, lm_37 h2, lm_39 h2, lm_40 h2, lm_42 h2, lm_43 h2, lm_44 h2, lm_45 h2, lm_47 h2, lm_48 h2, lm_49 h2, lm_50 h2, lm_51 h2]
    rw [if_pos (show (1 : Int) ≠ 0 by decide), pl_i (by omega)]
    simp only [pl_l, pl_b, pl_iT, pl_t, pl_f, a1, a2]
    have eg : pfX11_greatestOf pd_SH 5000 F1 w = some (tMx w, F1) := by
      unfold pfX11_greatestOf tMx
      by_cases k : w = 0
      · rw [if_neg (fun e => e k), if_pos k]
      · rw [if_pos k, if_neg k]
    have e50 : (if w ≠ 0 then pfX12_onceLine_b50 pd_SH 5000 G1 367 w 9999999 0 367 else pfX12_onceLine_b50 pd_SH 5000 G1 367 w 999 0 367) = pfX12_onceLine_b50 pd_SH 5000 G1 367 w (tMx w) 0 367 := by
      unfold tMx
      by_cases k : w = 0
      · rw [if_neg (fun e => e k), if_pos k]
      · rw [if_pos k, if_neg k]
    rw [e50]
    unfold pfX12_onceLine_b50
    obtain ⟨F2, G2, v, r, c1, c2, z3, y3, -, hr⟩ := j_num J2 (lo := 0) (hi := tMx w) (by decide)
    simp only [pl_l, pl_b, pl_iT, pl_t, pl_f, gx_367, gx_368, gx_369, gx_370, gx_371, gx_372, gx_373, gx_374, gx_375, gx_376, gx_377, gx_378, gx_379, gx_380, gx_381, gx_382, gx_383, gx_384, gx_385, gx_386, gx_387, gx_388, gx_389, gx_390, gx_391, gx_392, gx_393, gx_394, gx_395, gx_396, gx_397, gx_398, gx_399, gx_400, gx_401, gx_402, gx_403, gn_368, gn_369, gn_370, gn_371, gn_372, gn_373, gn_374, gn_375, gn_376, gn_377, gn_378, gn_379, gn_380, gn_381, gn_382, gn_383, gn_384, gn_385, gn_386, gn_387, gn_388, gn_389, gn_390, gn_391, gn_392, gn_393, gn_394, gn_395, gn_396, gn_397, gn_398, gn_399, gn_400, gn_401, gn_402, gn_403, eg, c1, c2]
    rcases hr with ⟨rfl, v1, v2, J3⟩ | ⟨rfl, rfl, J3⟩
    · have g2 := J3.2.1
      have f2 := J3.1
      rw [if_neg (show ¬ v = -1 by omega), if_pos (show (1 : Int) ≠ 0 by decide)]
      simp only [lm_1 g2, lm_14 g2, lm_15 g2, lm_16 g2, lm_17 g2, lm_18 g2, lm_19 g2, lm_20 g2, lm_21 g2, lm_22 g2, lm_23 g2, lm_24 g2, lm_25 g2, lm_26 g2, lm_27 g2, lm_28 g2, lm_29 g2, lm_30 g2, lm_31 g2, lm_32 g2, lm_33 g2, lm_34 g2, lm_35 g2, lm_36 g2, lm_37 g2, lm_39 g2, lm_40 g2, lm_42 g2, lm_43 g2, lm_44 g2, lm_45 g2, lm_47 g2, lm_48 g2, lm_49 g2, lm_50 g2, lm_51 g2, gx_367, gx_368, gx_369, gx_370, gx_371, gx_372, gx_373, gx_374, gx_375, gx_376, gx_377, gx_378, gx_379, gx_380, gx_381, gx_382, gx_383, gx_384, gx_385, gx_386, gx_387, gx_388, gx_389, gx_390, gx_391, gx_392, gx_393, gx_394, gx_395, gx_396, gx_397, gx_398, gx_399, gx_400, gx_401, gx_402, gx_403, gn_368, gn_369, gn_370, gn_371, gn_372, gn_373, gn_374, gn_375, gn_376, gn_377, gn_378, gn_379, gn_380, gn_381, gn_382, gn_383, gn_384, gn_385, gn_386, gn_387, gn_388, gn_389, gn_390, gn_391, gn_392, gn_393, gn_394, gn_395, gn_396, gn_397, gn_398, gn_399, gn_400, gn_401, gn_402, gn_403, v2]
      rw [pl_i (by omega), rL_1]
      have J4 := J3.row (a := 391) (j := w) (v := v) (by decide)
      obtain ⟨F3, G3, u, d1, d2, z4, y4, he⟩ := j_end J4
      simp only [pl_l, pl_b, pl_iT, pl_t, pl_f, d1, d2]
      have wg : wR G G3 := ((((w1.z y2).z y3).up (a := 391) (i := w) (v := v) (by decide) (by rw [show bs 391 = 0 by decide]; exact hw.1)).z y4)
      have wc : wC b F F3 := ((z2.tr z3).tr z4).w
      rcases he with ⟨rfl, J5⟩ | ⟨rfl, J5⟩
      · have f3 := J5.1
        have e5 := J5.2.2.2.1
        rw [if_pos (show (1 : Int) ≠ 0 by decide)]
        simp only [lx_1_0 f3, lx_1_1 f3, lx_1_2 f3, lx_1_3 f3, lx_1_4 f3, lx_1_5 f3, lx_1_6 f3, lx_1_7 f3, lx_2_0 f3, lx_3_0 f3, lx_113_0 f3, lx_113_1 f3, lx_113_2 f3, lx_212_0 f3, lx_212_1 f3, gx_1, gx_2, gx_3, gx_4, gx_113, gx_114, gx_115, gx_116, gx_212, gx_213, gx_224, gn_4, gn_114, gn_115, gn_116, gn_213, gn_224, pl_l, pl_b, pl_iT, pl_t, pl_f, e5, pl_ob s0, l6 f3, pl_ib s7]
        rw [pl_i (by omega)]
        have f4 : pd_Ly (pd_up F3 (b + 7) w v) := f3.up (pl_rc0 s7 (by decide))
        have zz := (z2.tr z3).tr z4
        have rr : rR G3 (pd_up (pd_up G 392 w 1) 391 w v) := ((r1.z y2).z y3).up.z y4
        have rb := rr.bn
        rw [bn_up, bn_up, show bs 391 = 0 by decide, show bs 392 = 0 by decide, Int.sub_zero] at rb
        have hN : kN (pd_up (pd_up (bn G) 392 w 1) 391 w v) = kN (bn G) + 1 := by
          unfold kN
          rw [pu_a (by decide), pu_a (by decide), pu_a (by decide), pu_a (by decide), pu_a (by decide), pu_a (by decide), pu_a (by decide), pu_a (by decide), pu_a (by decide), pu_a (by decide), pu_a (by decide), pu_r, pu_r, pu_r]
          rw [← bn_392 (G := G)] at o0
          have c : w = 0 ∨ w = 1 ∨ w = 2 := by omega
          rcases c with rfl | rfl | rfl
          · rw [if_pos rfl, if_neg (by decide), if_neg (by decide)]; omega
          · rw [if_neg (by decide), if_pos rfl, if_neg (by decide)]; omega
          · rw [if_neg (by decide), if_neg (by decide), if_pos rfl]; omega
        refine ⟨_, _, 1, rfl, rfl, wc.up b5.1 (by omega), wg, Or.inl ⟨rfl, J5.c f4 (fun a x => pu_a (by omega)), K.eqv (F := pd_up F3 (b + 7) w v) ?_ rb (fun _ _ _ => rfl), (kN_e rb).trans hN⟩⟩
        have ff : ∀ a, b ≤ a → a ≠ b + 7 → pd_up F3 (b + 7) w v a = F a := fun a x y => by rw [pu_a y]; exact zz.1 a (by omega) (by omega)
        obtain ⟨k1, k2, k3, k4, k5, k6⟩ := hK
        have n := k6.2.1
        have fb := ff b (Int.le_refl _) (by omega)
        have ra : ∀ a, a ≠ 391 → a ≠ 392 → pd_up (pd_up (bn G) 392 w 1) 391 w v a = bn G a := fun a x y => by rw [pu_a x, pu_a y]
        refine ⟨k1.fr (by rw [fb]) (by rw [fb]) (fun a x y => ff a (by omega) (by omega)) (by rw [ra _ (by decide) (by decide)]) (ra _ (by decide) (by decide)) (ra _ (by decide) (by decide)) (ra _ (by decide) (by decide)) (ra _ (by decide) (by decide)),
          k2.fr (by rw [fb]) (by rw [fb]) (ff _ (by omega) (by omega)) (fun a x y => ff a (by omega) (by omega)) (by rw [ra _ (by decide) (by decide)]; exact Int.le_refl _) (by rw [ra _ (by decide) (by decide)]) (by rw [ra _ (by decide) (by decide)]) (ra _ (by decide) (by decide)) (ra _ (by decide) (by decide)) (ra _ (by decide) (by decide)) (ra _ (by decide) (by decide)),
          k3.fr (by rw [fb]) (fun a x y => ff a (by omega) (by omega)) (by rw [ra _ (by decide) (by decide)]; exact Int.le_refl _) (by rw [ra _ (by decide) (by decide)]) (ra _ (by decide) (by decide)) (ra _ (by decide) (by decide)) (ra _ (by decide) (by decide)) (ra _ (by decide) (by decide)),
          k4.fr (by rw [fb]) (fun a x y => ff a (by omega) (by omega)) (by rw [ra _ (by decide) (by decide)]; exact Int.le_refl _) (by rw [ra _ (by decide) (by decide)]) (ra _ (by decide) (by decide)) (ra _ (by decide) (by decide)) (ra _ (by decide) (by decide)), fun x x0 x1 => ?_,
          k6.fr ⟨by rw [fb], by rw [fb], by rw [fb]⟩ ⟨by rw [ra _ (by decide) (by decide)], by rw [ra _ (by decide) (by decide)], by rw [ra _ (by decide) (by decide)]⟩ (fun p x y => ⟨by rw [ff _ (by omega) (by omega)], by rw [ra _ (by decide) (by decide)]⟩) (fun p x y => ⟨by rw [ff _ (by omega) (by omega)], by rw [ra _ (by decide) (by decide)]⟩) (fun p x y => ⟨by rw [ff _ (by omega) (by omega)], by rw [ra _ (by decide) (by decide)]⟩)⟩
        rw [pu_a (show (392 : Int) ≠ 391 by decide), pu_r, pu_r, pu_r, pu_a (show (391 : Int) ≠ 392 by decide)]
        by_cases e : x = w
        · subst e
          rw [if_pos rfl, if_pos rfl, if_pos rfl]
          exact Or.inr ⟨rfl, rfl, v1⟩
        · rw [if_neg e, if_neg e, if_neg e, zz.1 _ (by omega) (by omega)]
          exact k5 x x0 x1
      · rw [if_neg (show ¬ (0 : Int) ≠ 0 by decide)]
        exact jL.x wc wg J5
    · rw [if_pos rfl, if_neg (show ¬ (0 : Int) ≠ 0 by decide), rL_0]
      exact jL.x (z2.tr z3).w ((w1.z y2).z y3) J3
  · rw [if_neg (by omega), if_pos (show G 392 w ≠ 0 by omega)]
    obtain ⟨F', G', a1, a2, a3, a4, a5⟩ := j_fail h (k := 2) (by decide)
    unfold pfX12_onceLine_b15
    simp only [pl_l, pl_b, pl_iT, pl_t, pl_f, gx_367, gx_368, gx_369, gx_370, gx_371, gx_372, gx_373, gx_374, gx_375, gx_376, gx_377, gx_378, gx_379, gx_380, gx_381, gx_382, gx_383, gx_384, gx_385, gx_386, gx_387, gx_388, gx_389, gx_390, gx_391, gx_392, gx_393, gx_394, gx_395, gx_396, gx_397, gx_398, gx_399, gx_400, gx_401, gx_402, gx_403, gn_368, gn_369, gn_370, gn_371, gn_372, gn_373, gn_374, gn_375, gn_376, gn_377, gn_378, gn_379, gn_380, gn_381, gn_382, gn_383, gn_384, gn_385, gn_386, gn_387, gn_388, gn_389, gn_390, gn_391, gn_392, gn_393, gn_394, gn_395, gn_396, gn_397, gn_398, gn_399, gn_400, gn_401, gn_402, gn_403, a1, a2]
    rw [pl_i (by decide), if_neg (show ¬ (0 : Int) ≠ 0 by decide), rL_0]
    exact jL.x a4.w ((wR.rf G).z a5) a3
end SL

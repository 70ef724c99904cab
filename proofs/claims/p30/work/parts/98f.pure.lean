variable {sT : pd_S}
/-! the book told so far, of both; frames -/
theorem aB_5 {b : Int} (h : aB b) : 5 ≤ b ∧ b ≤ 259 := by rcases h with rfl | rfl <;> decide
/-! what is told of persons, lists, highs, loans, settings -/
def Kp (b : Int) (F B : pd_F) : Prop := F b 9 = B 369 0 ∧ (0 ≤ B 369 0 ∧ B 369 0 ≤ 12) ∧ (∀ p, 0 ≤ p → p < B 369 0 → kP B F b p ∧ (0 ≤ B 375 p ∧ B 375 p ≤ 3) ∧ (B 377 p = 0 ∨ B 377 p = 1)) ∧ kM B F b ∧ F b 14 ≤ 3 * B 369 0
def Kl (b : Int) (F B : pd_F) : Prop := (F b 10 = B 370 0 ∧ 0 ≤ B 370 0 ∧ B 370 0 ≤ 5) ∧ (F b 11 = B 371 0 ∧ 0 ≤ B 371 0 ∧ B 371 0 ≤ 10) ∧ (∀ t, 0 ≤ t → t < B 370 0 → kG B F b t ∧ lOk (B 369 0) (B 381) (B 382) (B 383) t t) ∧
  ∀ a, 0 ≤ a → a < B 371 0 → kG B F b (5 + a) ∧ lOk (B 369 0) (B 381) (B 382) (B 383) (5 + a) (B 370 0) ∧ F (b + 4) a = B 380 a ∧ 0 ≤ B 380 a ∧ B 380 a ≤ 9999999
def Kh (b : Int) (F B : pd_F) : Prop := F b 12 = B 372 0 ∧ (0 ≤ B 372 0 ∧ B 372 0 ≤ 6) ∧ ∀ h, 0 ≤ h → h < B 372 0 → (F (b + 94 + h) 0 = B 384 h ∧ F (b + 94 + h) 1 = B 385 h ∧ F (b + 94 + h) 2 = B 386 h ∧ F (b + 94 + h) 3 = B 387 h) ∧ (0 ≤ B 384 h ∧ B 384 h < B 371 0) ∧ (0 ≤ B 385 h ∧ B 385 h ≤ 9999999) ∧ (0 ≤ B 386 h ∧ B 386 h ≤ 999) ∧ 0 ≤ B 387 h ∧ B 387 h ≤ 999
def Ko (b : Int) (F B : pd_F) : Prop := F b 13 = B 373 0 ∧ (0 ≤ B 373 0 ∧ B 373 0 ≤ 8) ∧ ∀ l, 0 ≤ l → l < B 373 0 → (F (b + 100 + l) 0 = B 388 l ∧ F (b + 100 + l) 1 = B 389 l ∧ F (b + 100 + l) 2 = B 390 l ∧ F (b + 100 + l) 3 = 999) ∧ (0 ≤ B 388 l ∧ B 388 l < B 369 0) ∧ 0 ≤ B 389 l ∧ B 389 l ≤ 9999999
def Ks (b : Int) (F B : pd_F) : Prop := ∀ w, 0 ≤ w → w < 3 → (B 392 w = 0 ∧ F (b + 7) w = -1) ∨ (B 392 w = 1 ∧ F (b + 7) w = B 391 w ∧ 0 ≤ B 391 w ∧ B 391 w ≤ tMx w)
def K (b : Int) (F B : pd_F) : Prop := Kp b F B ∧ Kl b F B ∧ Kh b F B ∧ Ko b F B ∧ Ks b F B ∧ jM b F B
section KF
variable {b : Int} {F F' B B' : pd_F}
theorem Kp.fr (h : Kp b F B) (e9 : F' b 9 = F b 9) (e14 : F' b 14 = F b 14) (e : ∀ a, b + 8 ≤ a → a ≤ b + 33 → F' a = F a) (r0 : B' 369 0 = B 369 0) (r4 : B' 374 = B 374) (r5 : B' 375 = B 375) (r6 : B' 376 = B 376) (r7 : B' 377 = B 377) : Kp b F' B' := by
  obtain ⟨h1, h2, h3, h4, h5⟩ := h
  unfold Kp
  rw [e9, e14, r0]
  refine ⟨h1, h2, fun p x y => ?_, ?_, h5⟩
  · have := h3 p x y
    unfold kP at this ⊢
    rw [e (b + 10 + 2 * p) (by omega) (by omega), e (b + 10 + 2 * p + 1) (by omega) (by omega), r4, r5, r6, r7]
    exact this
  · unfold kM isMk at h4 ⊢
    rw [e14, e (b + 8) (by omega) (by omega), e (b + 9) (by omega) (by omega), r0, r5, r6]
    exact h4
theorem lOk_mono {np np' l nt nt' : Int} {pm pt pw : Int → Int} (h : lOk np pm pt pw l nt) (e : np ≤ np') (e2 : nt ≤ nt') : lOk np' pm pt pw l nt' :=
  ⟨h.1, h.2.1, fun i a c => ⟨by have := (h.2.2 i a c).1; omega, (h.2.2 i a c).2⟩⟩
theorem kG.fr {l : Int} (h : kG B F b l) (e : ∀ a, b + 34 + 4 * l ≤ a → a ≤ b + 37 + 4 * l → F' a = F a) (r1 : B' 381 = B 381) (r2 : B' 382 = B 382) (r3 : B' 383 = B 383) : kG B' F' b l := by
  unfold kG at h ⊢
  rw [e (b + 34 + 4 * l) (by omega) (by omega), e (b + 34 + 4 * l + 1) (by omega) (by omega), e (b + 34 + 4 * l + 2) (by omega) (by omega), e (b + 34 + 4 * l + 3) (by omega) (by omega), r1, r2, r3]
  exact h
theorem Kl.fr (h : Kl b F B) (e10 : F' b 10 = F b 10) (e11 : F' b 11 = F b 11) (e4 : F' (b + 4) = F (b + 4)) (e : ∀ a, b + 34 ≤ a → a ≤ b + 93 → F' a = F a) (rp : B 369 0 ≤ B' 369 0) (rt : B' 370 0 = B 370 0) (ra : B' 371 0 = B 371 0) (r0 : B' 380 = B 380) (r1 : B' 381 = B 381) (r2 : B' 382 = B 382) (r3 : B' 383 = B 383) : Kl b F' B' := by
  obtain ⟨h1, h2, h3, h4⟩ := h
  unfold Kl
  rw [e10, e11, e4, rt, ra, r0]
  refine ⟨h1, h2, fun t x y => ?_, fun a x y => ?_⟩
  · obtain ⟨k1, k2⟩ := h3 t x y
    refine ⟨k1.fr (fun a u v => e a (by omega) (by omega)) r1 r2 r3, ?_⟩
    rw [r1, r2, r3]
    exact lOk_mono k2 rp (Int.le_refl _)
  · obtain ⟨k1, k2, k3⟩ := h4 a x y
    refine ⟨k1.fr (fun a u v => e a (by omega) (by omega)) r1 r2 r3, ?_, k3⟩
    rw [r1, r2, r3]
    exact lOk_mono k2 rp (Int.le_refl _)
theorem Kh.fr (h : Kh b F B) (e12 : F' b 12 = F b 12) (e : ∀ a, b + 94 ≤ a → a ≤ b + 99 → F' a = F a) (ra : B 371 0 ≤ B' 371 0) (rh : B' 372 0 = B 372 0) (r4 : B' 384 = B 384) (r5 : B' 385 = B 385) (r6 : B' 386 = B 386) (r7 : B' 387 = B 387) : Kh b F' B' := by
  obtain ⟨h1, h2, h3⟩ := h
  unfold Kh
  rw [e12, rh, r4, r5, r6, r7]
  refine ⟨h1, h2, fun k x y => ?_⟩
  rw [e (b + 94 + k) (by omega) (by omega)]
  obtain ⟨k1, k2, k3⟩ := h3 k x y
  exact ⟨k1, by omega, k3⟩
theorem Ko.fr (h : Ko b F B) (e13 : F' b 13 = F b 13) (e : ∀ a, b + 100 ≤ a → a ≤ b + 107 → F' a = F a) (rp : B 369 0 ≤ B' 369 0) (rl : B' 373 0 = B 373 0) (r8 : B' 388 = B 388) (r9 : B' 389 = B 389) (r0 : B' 390 = B 390) : Ko b F' B' := by
  obtain ⟨h1, h2, h3⟩ := h
  unfold Ko
  rw [e13, rl, r8, r9, r0]
  refine ⟨h1, h2, fun k x y => ?_⟩
  rw [e (b + 100 + k) (by omega) (by omega)]
  obtain ⟨k1, k2, k3⟩ := h3 k x y
  exact ⟨k1, by omega, k3⟩
theorem Ks.fr (h : Ks b F B) (e : F' (b + 7) = F (b + 7)) (r1 : B' 391 = B 391) (r2 : B' 392 = B 392) : Ks b F' B' := by
  unfold Ks
  rw [e, r1, r2]
  exact h
end KF
section SL
variable {b : Int} {F G : pd_F}
end SL

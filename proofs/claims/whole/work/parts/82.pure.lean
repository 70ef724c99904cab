/-! the class: states and their past -/
theorem pl_cg {sh : pd_S} {a i b j n : Int} {x y : Nat} (ha : pd_sh sh a = some (0, 0, x)) (hb : pd_sh sh b = some (0, 0, y)) : (pd_cg sh a i b j n = true) = (0 ≤ i ∧ 0 ≤ j ∧ 0 ≤ n ∧ i + n ≤ (x : Int) ∧ j + n ≤ (y : Int)) := by
  unfold pd_cg
  rw [pl_ln ha, pl_ln hb]
  simp
theorem cp_a {F : pd_F} {a i b j n c : Int} (h : c ≠ b) : pd_cp F a i b j n c = F c := by
  funext q
  unfold pd_cp
  rw [if_neg (fun z => h z.1)]
theorem cp_r {F : pd_F} {a b n q : Int} (h0 : 0 ≤ q) (h1 : q < n) : pd_cp F a 0 b 0 n b q = F a q := by
  unfold pd_cp
  rw [if_pos (by omega)]
  congr 1
  omega
theorem pd_Ly.cp {F : pd_F} {a i b j n : Int} (h : pd_Ly F) (hr : ∀ q, pd_rc b q = false) : pd_Ly (pd_cp F a i b j n) := by
  intro c q hc
  have : c ≠ b := fun e => by rw [e, hr q] at hc; cases hc
  rw [cp_a this]; exact h c q hc
theorem aS_ap {x y : Int} (hx : aS x) (hy : aS y) (h : x ≠ y) : x + 5 ≤ y ∨ y + 5 ≤ x := by
  rcases hx with rfl | rfl | ⟨j, j0, j1, rfl⟩ <;> rcases hy with rfl | rfl | ⟨k, k0, k1, rfl⟩ <;> omega
/-- the state d is as s was -/
def stE (F F' : pd_F) (d s : Int) : Prop := F' d 4 = F s 4 ∧ F' d 5 = F s 5 ∧ (∀ i, 0 ≤ i → i < 10 → F' (d + 1) i = F (s + 1) i) ∧ (∀ i, 0 ≤ i → i < 3 → F' (d + 2) i = F (s + 2) i) ∧ (∀ i, 0 ≤ i → i < 31 → F' (d + 3) i = F (s + 3) i) ∧ ∀ i, 0 ≤ i → i < 31 → F' (d + 4) i = F (s + 4) i
section ST
variable {F : pd_F}
theorem c_copyFrom (hL : pd_Ly F) {d s : Int} (hd : aS d) (hs : aS s) (h : d ≠ s) : ∃ F', pfX8_copyFrom pd_SH 5000 F d s = some F' ∧ pd_Ly F' ∧ (∀ a, (a < d ∨ d + 4 < a) → F' a = F a) ∧ stE F F' d s := by
  obtain ⟨d0, d1, d2, d3, d4⟩ := sh_s hd
  obtain ⟨s0, s1, s2, s3, s4⟩ := sh_s hs
  have ap := aS_ap hd hs h
  have g1 : pd_Ly (pd_cp F (s + 1) 0 (d + 1) 0 10) := hL.cp (fun q => pl_rc0 d1 (by decide))
  have g2 : pd_Ly (pd_cp (pd_cp F (s + 1) 0 (d + 1) 0 10) (s + 2) 0 (d + 2) 0 3) := g1.cp (fun q => pl_rc0 d2 (by decide))
  have g3 : pd_Ly (pd_cp (pd_cp (pd_cp F (s + 1) 0 (d + 1) 0 10) (s + 2) 0 (d + 2) 0 3) (s + 3) 0 (d + 3) 0 31) := g2.cp (fun q => pl_rc0 d3 (by decide))
  have g4 : pd_Ly (pd_cp (pd_cp (pd_cp (pd_cp F (s + 1) 0 (d + 1) 0 10) (s + 2) 0 (d + 2) 0 3) (s + 3) 0 (d + 3) 0 31) (s + 4) 0 (d + 4) 0 31) := g3.cp (fun q => pl_rc0 d4 (by decide))
  obtain ⟨e0, -, -, -⟩ := ly_s hL hd
  obtain ⟨f0, -, -, -⟩ := ly_s hL hs
  obtain ⟨-, e1, -, -⟩ := ly_s g1 hd
  obtain ⟨-, f1, -, -⟩ := ly_s g1 hs
  obtain ⟨-, -, e2, -⟩ := ly_s g2 hd
  obtain ⟨-, -, f2, -⟩ := ly_s g2 hs
  obtain ⟨-, -, -, e3⟩ := ly_s g3 hd
  obtain ⟨-, -, -, f3⟩ := ly_s g3 hs
  have k4 : pd_cp (pd_cp (pd_cp (pd_cp F (s + 1) 0 (d + 1) 0 10) (s + 2) 0 (d + 2) 0 3) (s + 3) 0 (d + 3) 0 31) (s + 4) 0 (d + 4) 0 31 s = F s := by rw [cp_a (by omega), cp_a (by omega), cp_a (by omega), cp_a (by omega)]
  generalize hG : pd_cp (pd_cp (pd_cp (pd_cp F (s + 1) 0 (d + 1) 0 10) (s + 2) 0 (d + 2) 0 3) (s + 3) 0 (d + 3) 0 31) (s + 4) 0 (d + 4) 0 31 = G at g4 k4
  refine ⟨pd_up (pd_up G d 4 (F s 4)) d 5 (F s 5), ?_, (g4.up (pl_rc4 d0 (by decide))).up (pl_rc4 d0 (by decide)), fun a ha => ?_, ?_, ?_, fun i a b => ?_, fun i a b => ?_, fun i a b => ?_, fun i a b => ?_⟩
  · unfold pfX8_copyFrom
    simp only [pl_l, pl_b, pl_iT, pl_t, pl_f, pl_ob d0, pl_ob s0, e0, f0, e1, f1, e2, f2, e3, f3, pl_cg s1 d1, pl_cg s2 d2, pl_cg s3 d3, pl_cg s4 d4, hG, k4]
    rw [pl_i (by omega), pl_i (by omega), pl_i (by omega), pl_i (by omega), pu_a (show s ≠ d by omega), k4]
  · rw [pu_a (by omega), pu_a (by omega), ← hG, cp_a (by omega), cp_a (by omega), cp_a (by omega), cp_a (by omega)]
  · rw [pu_r, if_neg (by decide), pu_r, if_pos rfl]
  · rw [pu_r, if_pos rfl]
  · rw [pu_a (by omega), pu_a (by omega), ← hG, cp_a (by omega), cp_a (by omega), cp_a (by omega), cp_r a b]
  · rw [pu_a (by omega), pu_a (by omega), ← hG, cp_a (by omega), cp_a (by omega), cp_r a b, cp_a (by omega)]
  · rw [pu_a (by omega), pu_a (by omega), ← hG, cp_a (by omega), cp_r a b, cp_a (by omega), cp_a (by omega)]
  · rw [pu_a (by omega), pu_a (by omega), ← hG, cp_r a b, cp_a (by omega), cp_a (by omega), cp_a (by omega)]
theorem c_begin (hL : pd_Ly F) {d b : Int} (hd : aS d) (hb : aB b) : ∃ F', pfX8_begin pd_SH 5000 F d b = some F' ∧ pd_Ly F' ∧ (∀ a, (a < d ∨ d + 4 < a) → F' a = F a) ∧ F' d 4 = 0 ∧ F' d 5 = 0 ∧ (∀ i, 0 ≤ i → i < 10 → F' (d + 1) i = F (b + 4) i) ∧ ∀ i, 0 ≤ i → i < 3 → F' (d + 2) i = F (b + 7) i := by
  obtain ⟨d0, d1, d2, d3, d4⟩ := sh_s hd
  obtain ⟨b0, -, -, -, b4, -, -, b7, -, -⟩ := sh_b hb
  have ap : (b + 9 < d ∨ d + 4 < b) := by
    rcases hb with rfl | rfl <;> rcases hd with rfl | rfl | ⟨j, j0, j1, rfl⟩ <;> omega
  have g1 : pd_Ly (pd_cp F (b + 4) 0 (d + 1) 0 10) := hL.cp (fun q => pl_rc0 d1 (by decide))
  have g2 : pd_Ly (pd_cp (pd_cp F (b + 4) 0 (d + 1) 0 10) (b + 7) 0 (d + 2) 0 3) := g1.cp (fun q => pl_rc0 d2 (by decide))
  obtain ⟨e0, -, -, -⟩ := ly_s hL hd
  obtain ⟨-, e1, -, -⟩ := ly_s g1 hd
  obtain ⟨-, -, -, f3, -, -, -, -, -⟩ := ly_b hL hb
  obtain ⟨-, -, -, -, -, -, f6, -, -⟩ := ly_b g1 hb
  refine ⟨pd_up (pd_up (pd_cp (pd_cp F (b + 4) 0 (d + 1) 0 10) (b + 7) 0 (d + 2) 0 3) d 4 0) d 5 0, ?_, (g2.up (pl_rc4 d0 (by decide))).up (pl_rc4 d0 (by decide)), fun a ha => ?_, ?_, ?_, fun i a b => ?_, fun i a b => ?_⟩
  · unfold pfX8_begin
    simp only [pl_l, pl_b, pl_iT, pl_t, pl_f, pl_ob d0, pl_ob b0, e0, e1, f3, f6, pl_cg b4 d1, pl_cg b7 d2]
    rw [pl_i (by omega), pl_i (by omega)]
  · rw [pu_a (by omega), pu_a (by omega), cp_a (by omega), cp_a (by omega)]
  · rw [pu_r, if_neg (by decide), pu_r, if_pos rfl]
  · rw [pu_r, if_pos rfl]
  · rw [pu_a (by omega), pu_a (by omega), cp_a (by omega), cp_r a b]
  · rw [pu_a (by omega), pu_a (by omega), cp_r a b, cp_a (by omega)]
/-- the state st of the class is the row s of acts, of the book b -/
def sR (D F : pd_F) (b st : Int) (s : Int → Int) : Prop := aOk D s ∧ jOk D s ∧ dst s ∧ (0 ≤ s 71 ∧ s 71 ≤ 999) ∧ (∀ m, Ou s m → ∃ i, 0 ≤ i ∧ i < F b 14 ∧ F (b + 8) i = m) ∧
  (∀ a, 0 ≤ a → a < D 371 0 → F (st + 1) a = s a) ∧ (F (st + 2) 0 = s 71 ∧ F (st + 2) 1 = s 72 ∧ F (st + 2) 2 = s 73) ∧ F st 4 = s 70 ∧ (∀ k, 0 ≤ k → k < s 70 → F (st + 3) k = s (10 + 2 * k) ∧ F (st + 4) k = s (11 + 2 * k)) ∧
  lR (F st 5) ∧ (∀ i, 0 ≤ i → i < 36 → (tb (F st 5) i ↔ i < F b 14 ∧ Ou s (F (b + 8) i))) ∧ s 110 = Sm (fun i => ci (tb (F st 5) i) 1 0) 36
theorem sR_row {D : pd_F} {b st : Int} {s s' : Int → Int} (hb : bOk D) (h : sR D F b st s) (e : ∀ j, 0 ≤ j → j < 111 → s' j = s j) : sR D F b st s' := by
  obtain ⟨h1, h2, h3, h4, h5, h6, h7, h8, h9, h10, h11, h12⟩ := h
  have n := hb.1.2.2.2.2.2.1
  have e110 := e 110 (by decide) (by decide)
  have e70 := e 70 (by decide) (by decide)
  have n110 := h1.2.2.1
  have n70 := h1.2.1
  have ou : ∀ m, Ou s' m ↔ Ou s m := fun m => by
    unfold Ou
    rw [e110]
    exact ⟨fun ⟨i, a, b, c⟩ => ⟨i, a, b, by rw [← e (74 + i) (by omega) (by omega)]; exact c⟩, fun ⟨i, a, b, c⟩ => ⟨i, a, b, by rw [e (74 + i) (by omega) (by omega)]; exact c⟩⟩
  refine ⟨⟨fun a x y => ?_, ?_, ?_, ?_, ?_⟩, fun k x y => ?_, fun i j a b c d w => ?_, ?_, fun m w => h5 m ((ou m).mp w), fun a x y => ?_, ?_, ?_, fun k x y => ?_, h10, fun i x y => ?_, ?_⟩
  · rw [e a (by omega) (by omega)]; exact h1.1 a x y
  · rw [e70]; exact n70
  · rw [e110]; exact n110
  · rw [e 72 (by decide) (by decide)]; exact h1.2.2.2.1
  · rw [e 73 (by decide) (by decide)]; exact h1.2.2.2.2
  · rw [e70] at y
    rw [e (10 + 2 * k) (by omega) (by omega), e (11 + 2 * k) (by omega) (by omega)]; exact h2 k x y
  · rw [e110] at b d
    rw [e (74 + i) (by omega) (by omega), e (74 + j) (by omega) (by omega)] at w
    exact h3 i j a b c d w
  · rw [e 71 (by decide) (by decide)]; exact h4
  · rw [e a (by omega) (by omega)]; exact h6 a x y
  · rw [e 71 (by decide) (by decide), e 72 (by decide) (by decide), e 73 (by decide) (by decide)]; exact h7
  · rw [e70]; exact h8
  · rw [e70] at y
    rw [e (10 + 2 * k) (by omega) (by omega), e (11 + 2 * k) (by omega) (by omega)]; exact h9 k x y
  · rw [ou]; exact h11 i x y
  · rw [e110]; exact h12
/-- the relation moves with the cells -/
theorem sR_st {D F' : pd_F} {b st d : Int} {s : Int → Int} (hb : bOk D) (h : sR D F b st s) (eb : F' b = F b ∧ F' (b + 8) = F (b + 8)) (e : stE F F' d st) : sR D F' b d s := by
  obtain ⟨h1, h2, h3, h4, h5, h6, h7, h8, h9, h10, h11, h12⟩ := h
  obtain ⟨e4, e5, ea, eb2, ec, ed⟩ := e
  have n := hb.1.2.2.2.2.2.1
  have n70 := h1.2.1
  refine ⟨h1, h2, h3, h4, fun m w => by rw [eb.1, eb.2]; exact h5 m w, fun a x y => by rw [ea a x (by omega)]; exact h6 a x y, by rw [eb2 0 (by decide) (by decide), eb2 1 (by decide) (by decide), eb2 2 (by decide) (by decide)]; exact h7, by rw [e4]; exact h8, fun k x y => by rw [ec k x (by omega), ed k x (by omega)]; exact h9 k x y, by rw [e5]; exact h10, fun i x y => by rw [e5, eb.1, eb.2]; exact h11 i x y, by rw [e5]; exact h12⟩
theorem sR_fr {D F' : pd_F} {b st : Int} {s : Int → Int} (h : sR D F b st s) (eb : F' b = F b ∧ F' (b + 8) = F (b + 8)) (e : ∀ a, st ≤ a → a ≤ st + 4 → F' a = F a) : sR D F' b st s := by
  unfold sR
  rw [eb.1, eb.2, e st (by omega) (by omega), e (st + 1) (by omega) (by omega), e (st + 2) (by omega) (by omega), e (st + 3) (by omega) (by omega), e (st + 4) (by omega) (by omega)]
  exact h
theorem c_addJoin (hL : pd_Ly F) {st p o : Int} (hs : aS st) (hn : 0 ≤ F st 4 ∧ F st 4 < 31) : ∃ F', pfX8_addJoin pd_SH 5000 F st p o = some F' ∧ pd_Ly F' ∧ (∀ a, a ≠ st → a ≠ st + 3 → a ≠ st + 4 → F' a = F a) ∧ F' st = ru (F st) 4 (F st 4 + 1) ∧ F' (st + 3) = ru (F (st + 3)) (F st 4) p ∧ F' (st + 4) = ru (F (st + 4)) (F st 4) o := by
  obtain ⟨d0, d1, d2, d3, d4⟩ := sh_s hs
  obtain ⟨-, -, e2, e3⟩ := ly_s hL hs
  have g1 : pd_Ly (pd_up F (st + 3) (F st 4) p) := hL.up (pl_rc0 d3 (by decide))
  obtain ⟨-, -, -, f3⟩ := ly_s g1 hs
  have a1 : pd_up F (st + 3) (F st 4) p st = F st := pu_a (by omega)
  have a2 : pd_up (pd_up F (st + 3) (F st 4) p) (st + 4) (F st 4) o st = F st := by rw [pu_a (by omega)]; exact a1
  refine ⟨pd_up (pd_up (pd_up F (st + 3) (F st 4) p) (st + 4) (F st 4) o) st 4 (F st 4 + 1), ?_, (g1.up (pl_rc0 d4 (by decide))).up (pl_rc4 d0 (by decide)), fun a x y z => by rw [pu_a x, pu_a z, pu_a y], by rw [pu_row, a2], by rw [pu_a (by omega), pu_a (by omega), pu_row], by rw [pu_a (by omega), pu_row, pu_a (by omega)]⟩
  unfold pfX8_addJoin
  simp only [pl_l, pl_b, pl_iT, pl_t, pl_f, pl_ob d0, pl_ln d3, pl_ib d3, pl_ib d4, e2, f3, a1, a2]
  rw [pl_i (by omega), if_neg (by omega), pl_i (by omega), pl_i (by omega), pl_w (by omega)]
theorem c_leaveOut (hL : pd_Ly F) {st i out : Int} (hs : aS st) : ∃ F', pfX8_leaveOut pd_SH 5000 F st i out = some F' ∧ pd_Ly F' ∧ (∀ a, a ≠ st → F' a = F a) ∧ F' st = ru (F st) 5 (if out = 0 then pd_And (F st 5) (pd_Xor (pd_Shl 1 i) (-1)) else pd_Or (F st 5) (pd_Shl 1 i)) := by
  obtain ⟨d0, -⟩ := sh_s hs
  unfold pfX8_leaveOut
  simp only [pl_l, pl_b, pl_iT, pl_t, pl_f, pl_ob d0]
  by_cases k : out = 0
  · rw [if_pos k, if_pos k]
    exact ⟨_, rfl, hL.up (pl_rc4 d0 (by decide)), fun a h => pu_a h, pu_row⟩
  · rw [if_neg k, if_neg k]
    exact ⟨_, rfl, hL.up (pl_rc4 d0 (by decide)), fun a h => pu_a h, pu_row⟩
theorem c_latestJoin (hL : pd_Ly F) {st p : Int} (hs : aS st) (hn : 0 ≤ F st 4 ∧ F st 4 ≤ 31) : ∃ k, pfX8_latestJoinOf pd_SH 5000 F st p = some (k, F) ∧ ((0 ≤ k ∧ k < F st 4 ∧ (F (st + 3) k = p ∨ F (st + 4) k = p) ∧ ∀ j, k < j → j < F st 4 → ¬ (F (st + 3) j = p ∨ F (st + 4) j = p)) ∨ (k = -1 ∧ ∀ j, 0 ≤ j → j < F st 4 → ¬ (F (st + 3) j = p ∨ F (st + 4) j = p))) := by
  obtain ⟨d0, d1, d2, d3, d4⟩ := sh_s hs
  obtain ⟨-, -, e2, e3⟩ := ly_s hL hs
  unfold pfX8_latestJoinOf
  simp only [pl_l, pl_b, pl_iT, pl_t, pl_f, pl_ob d0]
  rw [pl_w (by omega)]
  refine pl_whl (f := fun j (q : Int) => pfX8_latestJoinOf_b7 pd_SH 5000 j F st p q) (P := fun m q => q = (m : Int) - 1 ∧ (m : Int) ≤ F st 4 ∧ ∀ j, (m : Int) ≤ j → j < F st 4 → ¬ (F (st + 3) j = p ∨ F (st + 4) j = p))
    (res := fun o => ∃ k, o = some (k, F) ∧ ((0 ≤ k ∧ k < F st 4 ∧ (F (st + 3) k = p ∨ F (st + 4) k = p) ∧ ∀ j, k < j → j < F st 4 → ¬ (F (st + 3) j = p ∨ F (st + 4) j = p)) ∨ (k = -1 ∧ ∀ j, 0 ≤ j → j < F st 4 → ¬ (F (st + 3) j = p ∨ F (st + 4) j = p)))) ?_ 5000 (F st 4).toNat (F st 4 - 1) (by omega) ⟨by omega, by omega, fun j a b => by omega⟩
  intro j m q ⟨e, h1, h2⟩
  match m with
  | 0 =>
    right
    have : q = -1 := by omega
    subst this
    refine ⟨-1, ?_, Or.inr ⟨rfl, fun j a b => h2 j (by omega) b⟩⟩
    show pfX8_latestJoinOf_b7 pd_SH 5000 (j + 1) F st p (-1) = _
    simp (disch := omega) only [pfX8_latestJoinOf_b7, if_pos]
  | m + 1 =>
    have eq : q = (m : Int) := by omega
    subst eq
    by_cases z : F (st + 3) m = p ∨ F (st + 4) m = p
    · right
      refine ⟨m, ?_, Or.inl ⟨by omega, by omega, z, fun j a b => h2 j (by omega) b⟩⟩
      show pfX8_latestJoinOf_b7 pd_SH 5000 (j + 1) F st p m = _
      by_cases z1 : F (st + 3) m = p
      · simp (disch := omega) only [pfX8_latestJoinOf_b7, pl_l, pl_b, pl_iT, pl_t, pl_f, pl_ob d0, e2, e3, pl_ib d3, pl_ib d4, pl_i, if_pos, if_neg]
      · have z2 := z.resolve_left z1
        simp (disch := omega) only [pfX8_latestJoinOf_b7, pl_l, pl_b, pl_iT, pl_t, pl_f, pl_ob d0, e2, e3, pl_ib d3, pl_ib d4, pl_i, if_pos, if_neg]
    · left
      refine ⟨m, (m : Int) - 1, by omega, ⟨rfl, by omega, fun j a b => ?_⟩, ?_⟩
      · by_cases c : j = m
        · rw [c]; exact z
        · exact h2 j (by omega) b
      · show pfX8_latestJoinOf_b7 pd_SH 5000 (j + 1) F st p m = _
        have z1 : F (st + 3) m ≠ p := fun w => z (Or.inl w)
        have z2 : F (st + 4) m ≠ p := fun w => z (Or.inr w)
        simp (disch := omega) only [pfX8_latestJoinOf_b7, pl_l, pl_b, pl_iT, pl_t, pl_f, pl_ob d0, e2, e3, pl_ib d3, pl_ib d4, pl_w, pl_i, if_pos, if_neg]
        rw [show (m : Int) + -1 = m - 1 by omega]
theorem c_partner (hL : pd_Ly F) {st k p : Int} (hs : aS st) (hk : 0 ≤ k ∧ k < F st 4) (hn : F st 4 ≤ 31) : pfX8_partner pd_SH 5000 F st k p = some (if F (st + 3) k = p then F (st + 4) k else F (st + 3) k, F) := by
  obtain ⟨d0, d1, d2, d3, d4⟩ := sh_s hs
  obtain ⟨-, -, e2, e3⟩ := ly_s hL hs
  unfold pfX8_partner
  simp only [pl_l, pl_b, pl_iT, pl_t, pl_f, pl_ob d0, e2, e3, pl_ib d3, pl_ib d4]
  rw [if_neg (by omega), if_pos hk.2, pl_i (by omega)]
  by_cases z : F (st + 3) k = p
  · rw [if_neg (fun w => w z), pl_i (by omega), if_pos z]
  · rw [if_pos z, if_neg z]
theorem c_removeJoin (hL : pd_Ly F) {st k : Int} (hs : aS st) (hk : 0 ≤ k ∧ k < F st 4) (hn : F st 4 ≤ 31) : ∃ F', pfX8_removeJoin pd_SH 5000 F st k = some F' ∧ pd_Ly F' ∧ (∀ a, a ≠ st → a ≠ st + 3 → a ≠ st + 4 → F' a = F a) ∧ F' st = ru (F st) 4 (F st 4 - 1) ∧ (∀ j, 0 ≤ j → j < F st 4 - 1 → F' (st + 3) j = F (st + 3) (if j < k then j else j + 1)) ∧ ∀ j, 0 ≤ j → j < F st 4 - 1 → F' (st + 4) j = F (st + 4) (if j < k then j else j + 1) := by
  obtain ⟨d0, d1, d2, d3, d4⟩ := sh_s hs
  unfold pfX8_removeJoin
  simp only [pl_l, pl_b, pl_iT, pl_t, pl_f, pl_ob d0]
  rw [if_neg (by omega), if_pos hk.2, pl_w (by omega)]
  generalize hm : F st 4 - 1 = m
  refine pl_for (f := fun j (q : pd_F) i => pfX8_removeJoin_b25 pd_SH 5000 j q st i) (P := fun i q => k ≤ i ∧ pd_Ly q ∧ (∀ a, a ≠ st → a ≠ st + 3 → a ≠ st + 4 → q a = F a) ∧ q st = ru (F st) 4 m ∧ (∀ j, 0 ≤ j → j < 31 → q (st + 3) j = F (st + 3) (if j < k ∨ i ≤ j then j else j + 1)) ∧ ∀ j, 0 ≤ j → j < 31 → q (st + 4) j = F (st + 4) (if j < k ∨ i ≤ j then j else j + 1)) (N := m)
    (res := fun o => ∃ F', o = some F' ∧ pd_Ly F' ∧ (∀ a, a ≠ st → a ≠ st + 3 → a ≠ st + 4 → F' a = F a) ∧ F' st = ru (F st) 4 m ∧ (∀ j, 0 ≤ j → j < m → F' (st + 3) j = F (st + 3) (if j < k then j else j + 1)) ∧ ∀ j, 0 ≤ j → j < m → F' (st + 4) j = F (st + 4) (if j < k then j else j + 1)) ?_ ?_ 5000 (pd_up F st 4 m) k hk.1 (by omega) (by omega)
    ⟨Int.le_refl _, hL.up (pl_rc4 d0 (by decide)), fun a x _ _ => pu_a x, pu_row, fun j a b => by rw [pu_a (by omega), if_pos (by omega)], fun j a b => by rw [pu_a (by omega), if_pos (by omega)]⟩
  · intro j G i a b ⟨q0, q1, q2, q3, q4, q5⟩
    obtain ⟨-, -, e2, e3⟩ := ly_s q1 hs
    have em : G st 4 = m := by rw [q3, ru_e]
    have v3 := q4 (i + 1) (by omega) (by omega)
    have v4 := q5 (i + 1) (by omega) (by omega)
    rw [if_pos (by omega)] at v3 v4
    have g1 : pd_Ly (pd_up G (st + 3) i (F (st + 3) (i + 1))) := q1.up (pl_rc0 d3 (by decide))
    obtain ⟨-, -, -, f3⟩ := ly_s g1 hs
    have w4 : pd_up G (st + 3) i (F (st + 3) (i + 1)) (st + 4) (i + 1) = F (st + 4) (i + 1) := by rw [pu_a (by omega)]; exact v4
    refine Or.inl ⟨pd_up (pd_up G (st + 3) i (F (st + 3) (i + 1))) (st + 4) i (F (st + 4) (i + 1)), ⟨by omega, g1.up (pl_rc0 d4 (by decide)), fun a x y z => by rw [pu_a z, pu_a y]; exact q2 a x y z, by rw [pu_a (by omega), pu_a (by omega)]; exact q3, fun j c d => ?_, fun j c d => ?_⟩, ?_⟩
    · rw [pu_a (by omega), pu_r]
      by_cases e : j = i
      · rw [if_pos e, if_neg (by omega), e]
      · rw [if_neg e, q4 j c d]
        by_cases z : j < k ∨ i ≤ j
        · rw [if_pos z, if_pos (by omega)]
        · rw [if_neg z, if_neg (by omega)]
    · rw [pu_r]
      by_cases e : j = i
      · rw [if_pos e, if_neg (by omega), e]
      · rw [if_neg e, pu_a (by omega), q5 j c d]
        by_cases z : j < k ∨ i ≤ j
        · rw [if_pos z, if_pos (by omega)]
        · rw [if_neg z, if_neg (by omega)]
    · show pfX8_removeJoin_b25 pd_SH 5000 (j + 1) G st i = _
      simp (disch := omega) only [pfX8_removeJoin_b25, pl_l, pl_b, pl_iT, pl_t, pl_f, pl_ob d0, e2, f3, em, v3, w4, pl_ib d3, pl_ib d4, pl_w, pl_i, if_neg]
  · intro j G ⟨q0, q1, q2, q3, q4, q5⟩
    have em : G st 4 = m := by rw [q3, ru_e]
    refine ⟨G, ?_, q1, q2, q3, fun j a b => ?_, fun j a b => ?_⟩
    · show pfX8_removeJoin_b25 pd_SH 5000 (_ + 1) G st m = _
      simp (disch := omega) only [pfX8_removeJoin_b25, pl_l, pl_b, pl_iT, pl_t, pl_f, pl_ob d0, em, if_pos]
    · rw [q4 j a (by omega)]
      by_cases z : j < k
      · rw [if_pos (by omega), if_pos z]
      · rw [if_neg (by omega), if_neg z]
    · rw [q5 j a (by omega)]
      by_cases z : j < k
      · rw [if_pos (by omega), if_pos z]
      · rw [if_neg (by omega), if_neg z]
/-- the past: the ring, the next place, how many -/
theorem aS_pa {j : Int} (h0 : 0 ≤ j) (h1 : j < 16) : aS (117 + 5 * j) := Or.inr (Or.inr ⟨j, h0, by omega, rfl⟩)
theorem aS_ke {k : Int} (h0 : 0 ≤ k) (h1 : k < 3) : aS (117 + 5 * (16 + k)) := Or.inr (Or.inr ⟨16 + k, by omega, by omega, rfl⟩)
theorem aS_now : aS 231 := Or.inl rfl
theorem aS_tri : aS 245 := Or.inr (Or.inl rfl)
/-- the place that many acts ago -/
def ring (nx j : Int) : Int := (nx - 1 - j) % 16
theorem c_remember (hL : pd_Ly F) (hn : 0 ≤ F 113 3 ∧ F 113 3 ≤ 16) (hu : 0 ≤ F 113 4 ∧ F 113 4 ≤ 16) {p : Int} (ep : p = if F 113 3 = 16 then 0 else F 113 3) : ∃ F', pfX3_remember pd_SH 5000 F 113 231 = some F' ∧ pd_Ly F' ∧ (∀ a, a ≠ 113 → (a < 117 + 5 * p ∨ 117 + 5 * p + 4 < a) → F' a = F a) ∧ F' 113 3 = p + 1 ∧ F' 113 4 = min (F 113 4 + 1) 16 ∧ stE F F' (117 + 5 * p) 231 := by
  have pb : 0 ≤ p ∧ p < 16 := by rw [ep]; split <;> omega
  have ew : pd_w (p + 1) = p + 1 := pl_w (by omega)
  have fin : ∀ G0 : pd_F, pd_Ly G0 → G0 113 3 = p → G0 113 4 = F 113 4 → (∀ a, a ≠ 113 → G0 a = F a) → ∃ F', pfX3_remember_b24 pd_SH 5000 G0 113 231 = some F' ∧ pd_Ly F' ∧ (∀ a, a ≠ 113 → (a < 117 + 5 * p ∨ 117 + 5 * p + 4 < a) → F' a = F a) ∧ F' 113 3 = p + 1 ∧ F' 113 4 = min (F 113 4 + 1) 16 ∧ stE F F' (117 + 5 * p) 231 := fun G0 g1 w3 w4 g0 => by
    have hp := fy_pa g1 pb.1 pb.2
    have hS := aS_pa pb.1 pb.2
    obtain ⟨p0, -⟩ := sh_s hS
    obtain ⟨G, f1, f2, f3, f4⟩ := c_copyFrom g1 hS aS_now (by omega)
    have e3 : G 113 = G0 113 := f3 113 (by omega)
    have g3 : pd_Ly (pd_up G 113 3 (p + 1)) := f2.up (pl_rc4 sx_113 (by decide))
    have u4 : pd_up G 113 3 (p + 1) 113 4 = F 113 4 := by rw [pu_r, if_neg (by decide), e3, w4]
    refine ⟨pd_up (pd_up G 113 3 (p + 1)) 113 4 (min (F 113 4 + 1) 16), ?_, g3.up (pl_rc4 sx_113 (by decide)), fun a x y => by rw [pu_a x, pu_a x, f3 a y]; exact g0 a x, by rw [pu_r, if_neg (by decide), pu_r, if_pos rfl], by rw [pu_r, if_pos rfl], ?_⟩
    · unfold pfX3_remember_b24
      simp only [pl_l, pl_b, pl_iT, pl_t, pl_f, gx_1, gx_2, gx_3, gx_4, gx_113, gx_114, gx_115, gx_116, gx_212, gx_213, gx_224, gn_4, gn_114, gn_115, gn_116, gn_213, gn_224, lx_1_0 g1, lx_1_1 g1, lx_1_2 g1, lx_1_3 g1, lx_1_4 g1, lx_1_5 g1, lx_1_6 g1, lx_1_7 g1, lx_2_0 g1, lx_3_0 g1, lx_113_0 g1, lx_113_1 g1, lx_113_2 g1, lx_212_0 g1, lx_212_1 g1, w3, hp, pl_ob p0, f1, e3, ew]
      rw [pl_i (by omega)]
      simp only [pl_l, pl_b, pl_iT, pl_t, pl_f, gx_1, gx_2, gx_3, gx_4, gx_113, gx_114, gx_115, gx_116, gx_212, gx_213, gx_224, gn_4, gn_114, gn_115, gn_116, gn_213, gn_224, lx_1_0 g3, lx_1_1 g3, lx_1_2 g3, lx_1_3 g3, lx_1_4 g3, lx_1_5 g3, lx_1_6 g3, lx_1_7 g3, lx_2_0 g3, lx_3_0 g3, lx_113_0 g3, lx_113_1 g3, lx_113_2 g3, lx_212_0 g3, lx_212_1 g3, u4]
      rw [pl_w (by omega), pl_i (by omega)]
    · unfold stE at f4 ⊢
      rw [pu_a (by omega), pu_a (by omega), pu_a (by omega), pu_a (by omega), pu_a (by omega), pu_a (by omega), pu_a (by omega), pu_a (by omega), pu_a (by omega), pu_a (by omega)]
      rw [g0 231 (by omega), g0 (231 + 1) (by omega), g0 (231 + 2) (by omega), g0 (231 + 3) (by omega), g0 (231 + 4) (by omega)] at f4
      exact f4
  unfold pfX3_remember
  simp only [pl_l, pl_b, pl_iT, pl_t, pl_f, gx_1, gx_2, gx_3, gx_4, gx_113, gx_114, gx_115, gx_116, gx_212, gx_213, gx_224, gn_4, gn_114, gn_115, gn_116, gn_213, gn_224, lx_1_0 hL, lx_1_1 hL, lx_1_2 hL, lx_1_3 hL, lx_1_4 hL, lx_1_5 hL, lx_1_6 hL, lx_1_7 hL, lx_2_0 hL, lx_3_0 hL, lx_113_0 hL, lx_113_1 hL, lx_113_2 hL, lx_212_0 hL, lx_212_1 hL]
  by_cases z : F 113 3 = 16
  · rw [if_neg (by omega), pl_i (by omega), if_neg (by omega)]
    unfold pfX3_remember_b19
    simp only [pl_l, pl_b, pl_iT, pl_t, pl_f, gx_1, gx_2, gx_3, gx_4, gx_113, gx_114, gx_115, gx_116, gx_212, gx_213, gx_224, gn_4, gn_114, gn_115, gn_116, gn_213, gn_224]
    exact fin (pd_up F 113 3 0) (hL.up (pl_rc4 sx_113 (by decide))) (by rw [pu_r, if_pos rfl, ep, if_pos z]) (by rw [pu_r, if_neg (by decide)]) (fun a h => pu_a h)
  · rw [if_neg (by omega), pl_i (by omega), if_pos (by omega)]
    exact fin F hL (by rw [ep, if_neg z]) rfl (fun _ _ => rfl)
theorem c_takeBack (hL : pd_Ly F) (hn : 0 ≤ F 113 3 ∧ F 113 3 ≤ 16) (hu : 0 ≤ F 113 4 ∧ F 113 4 ≤ 16) {p : Int} (ep : p = (if F 113 3 = 0 then 16 else F 113 3) - 1) : (F 113 4 = 0 ∧ pfX3_takeBack pd_SH 5000 F 113 231 = some (0, F)) ∨ (F 113 4 ≠ 0 ∧ ∃ F', pfX3_takeBack pd_SH 5000 F 113 231 = some (1, F') ∧ pd_Ly F' ∧ (∀ a, a ≠ 113 → (a < 231 ∨ 235 < a) → F' a = F a) ∧ F' 113 3 = p ∧ F' 113 4 = F 113 4 - 1 ∧ stE F F' 231 (117 + 5 * p)) := by
  have pb : 0 ≤ p ∧ p < 16 := by rw [ep]; split <;> omega
  have ew : pd_w (p + 1 - 1) = p := by rw [pl_w (by omega)]; omega
  have fin : F 113 4 ≠ 0 → ∀ G0 : pd_F, pd_Ly G0 → G0 113 3 = p + 1 → G0 113 4 = F 113 4 → (∀ a, a ≠ 113 → G0 a = F a) → ∃ F', pfX3_takeBack_b37 pd_SH 5000 G0 113 231 = some (1, F') ∧ pd_Ly F' ∧ (∀ a, a ≠ 113 → (a < 231 ∨ 235 < a) → F' a = F a) ∧ F' 113 3 = p ∧ F' 113 4 = F 113 4 - 1 ∧ stE F F' 231 (117 + 5 * p) := fun k G0 g1 w3 w4 g0 => by
    have g2 : pd_Ly (pd_up G0 113 3 p) := g1.up (pl_rc4 sx_113 (by decide))
    have v3 : pd_up G0 113 3 p 113 3 = p := by rw [pu_r, if_pos rfl]
    have hp := fy_pa g2 pb.1 pb.2
    have hS := aS_pa pb.1 pb.2
    obtain ⟨p0, -⟩ := sh_s hS
    obtain ⟨n0, -⟩ := sh_s aS_now
    obtain ⟨G, f1, f2, f3, f4⟩ := c_copyFrom g2 aS_now hS (by omega)
    have e4 : G 113 4 = F 113 4 := by rw [f3 113 (by omega), pu_r, if_neg (by decide), w4]
    have e3 : G 113 3 = p := by rw [f3 113 (by omega)]; exact v3
    refine ⟨pd_up G 113 4 (F 113 4 - 1), ?_, f2.up (pl_rc4 sx_113 (by decide)), fun a x y => by rw [pu_a x, f3 a (by omega), pu_a x]; exact g0 a x, by rw [pu_r, if_neg (by decide)]; exact e3, by rw [pu_r, if_pos rfl], ?_⟩
    · unfold pfX3_takeBack_b37
      simp only [pl_l, pl_b, pl_iT, pl_t, pl_f, gx_1, gx_2, gx_3, gx_4, gx_113, gx_114, gx_115, gx_116, gx_212, gx_213, gx_224, gn_4, gn_114, gn_115, gn_116, gn_213, gn_224, w3, ew, lx_1_0 g2, lx_1_1 g2, lx_1_2 g2, lx_1_3 g2, lx_1_4 g2, lx_1_5 g2, lx_1_6 g2, lx_1_7 g2, lx_2_0 g2, lx_3_0 g2, lx_113_0 g2, lx_113_1 g2, lx_113_2 g2, lx_212_0 g2, lx_212_1 g2, v3, hp, pl_ob n0, f1, e4]
      rw [pl_i (by omega), pl_w (by omega)]
    · unfold stE at f4 ⊢
      rw [pu_a (by omega), pu_a (by omega), pu_a (by omega), pu_a (by omega), pu_a (by omega)]
      rw [pu_a (by omega), pu_a (by omega), pu_a (by omega), pu_a (by omega), pu_a (by omega)] at f4
      rw [g0 (117 + 5 * p) (by omega), g0 (117 + 5 * p + 1) (by omega), g0 (117 + 5 * p + 2) (by omega), g0 (117 + 5 * p + 3) (by omega), g0 (117 + 5 * p + 4) (by omega)] at f4
      exact f4
  unfold pfX3_takeBack
  simp only [pl_l, pl_b, pl_iT, pl_t, pl_f, gx_1, gx_2, gx_3, gx_4, gx_113, gx_114, gx_115, gx_116, gx_212, gx_213, gx_224, gn_4, gn_114, gn_115, gn_116, gn_213, gn_224, lx_1_0 hL, lx_1_1 hL, lx_1_2 hL, lx_1_3 hL, lx_1_4 hL, lx_1_5 hL, lx_1_6 hL, lx_1_7 hL, lx_2_0 hL, lx_3_0 hL, lx_113_0 hL, lx_113_1 hL, lx_113_2 hL, lx_212_0 hL, lx_212_1 hL]
  by_cases k : F 113 4 = 0
  · rw [if_neg (fun w => w k)]
    exact Or.inl ⟨k, rfl⟩
  rw [if_pos k]
  right
  refine ⟨k, ?_⟩
  by_cases z : F 113 3 = 0
  · rw [if_pos (by omega)]
    rw [if_pos z] at ep
    unfold pfX3_takeBack_b28
    simp only [pl_l, pl_b, pl_iT, pl_t, pl_f, gx_1, gx_2, gx_3, gx_4, gx_113, gx_114, gx_115, gx_116, gx_212, gx_213, gx_224, gn_4, gn_114, gn_115, gn_116, gn_213, gn_224, lx_1_0 hL, lx_1_1 hL, lx_1_2 hL, lx_1_3 hL, lx_1_4 hL, lx_1_5 hL, lx_1_6 hL, lx_1_7 hL, lx_2_0 hL, lx_3_0 hL, lx_113_0 hL, lx_113_1 hL, lx_113_2 hL, lx_212_0 hL, lx_212_1 hL]
    rw [pl_i (by omega)]
    exact fin k (pd_up F 113 3 16) (hL.up (pl_rc4 sx_113 (by decide))) (by rw [pu_r, if_pos rfl]; omega) (by rw [pu_r, if_neg (by decide)]) (fun a h => pu_a h)
  · rw [if_neg (by omega), pl_i (by omega), if_pos (by omega)]
    rw [if_neg z] at ep
    exact fin k F hL (by omega) rfl (fun _ _ => rfl)
theorem c_forget (hL : pd_Ly F) : ∃ F', pfX3_forget pd_SH 5000 F 113 = some F' ∧ pd_Ly F' ∧ (∀ a, a ≠ 113 → a ≠ 116 → F' a = F a) ∧ F' 113 = ru (F 113) 4 0 ∧ ∀ k, 0 ≤ k → k < 3 → F' 116 k = 0 := by
  unfold pfX3_forget
  simp only [pl_l, pl_b, pl_iT, pl_t, pl_f, gx_1, gx_2, gx_3, gx_4, gx_113, gx_114, gx_115, gx_116, gx_212, gx_213, gx_224, gn_4, gn_114, gn_115, gn_116, gn_213, gn_224]
  refine pl_for (f := fun j (q : pd_F) i => pfX3_forget_b7 pd_SH 5000 j q 113 i) (P := fun i q => pd_Ly q ∧ (∀ a, a ≠ 113 → a ≠ 116 → q a = F a) ∧ q 113 = ru (F 113) 4 0 ∧ ∀ k, 0 ≤ k → k < i → q 116 k = 0) (N := 3)
    (res := fun o => ∃ F', o = some F' ∧ pd_Ly F' ∧ (∀ a, a ≠ 113 → a ≠ 116 → F' a = F a) ∧ F' 113 = ru (F 113) 4 0 ∧ ∀ k, 0 ≤ k → k < 3 → F' 116 k = 0) ?_ ?_ 5000 (pd_up F 113 4 0) 0 (by omega) (by omega) (by omega)
    ⟨hL.up (pl_rc4 sx_113 (by decide)), fun a x _ => pu_a x, pu_row, fun k a b => by omega⟩
  · intro j G i a b ⟨q1, q2, q3, q4⟩
    refine Or.inl ⟨pd_up G 116 i 0, ⟨q1.up (pl_rc0 sx_116 (by decide)), fun a x y => by rw [pu_a y]; exact q2 a x y, by rw [pu_a (by decide)]; exact q3, fun k c d => ?_⟩, ?_⟩
    · rw [pu_r]
      split
      · rfl
      · exact q4 k c (by omega)
    · show pfX3_forget_b7 pd_SH 5000 (j + 1) G 113 i = _
      simp (disch := omega) only [pfX3_forget_b7, pl_l, pl_b, pl_iT, pl_t, pl_f, gx_1, gx_2, gx_3, gx_4, gx_113, gx_114, gx_115, gx_116, gx_212, gx_213, gx_224, gn_4, gn_114, gn_115, gn_116, gn_213, gn_224, lx_1_0 q1, lx_1_1 q1, lx_1_2 q1, lx_1_3 q1, lx_1_4 q1, lx_1_5 q1, lx_1_6 q1, lx_1_7 q1, lx_2_0 q1, lx_3_0 q1, lx_113_0 q1, lx_113_1 q1, lx_113_2 q1, lx_212_0 q1, lx_212_1 q1, pl_w, pl_i, if_neg]
  · intro j G ⟨q1, q2, q3, q4⟩
    refine ⟨G, ?_, q1, q2, q3, q4⟩
    show pfX3_forget_b7 pd_SH 5000 (j + 1) G 113 _ = _
    simp (disch := omega) only [pfX3_forget_b7, pl_l, pl_b, pl_iT, pl_t, pl_f, gx_1, gx_2, gx_3, gx_4, gx_113, gx_114, gx_115, gx_116, gx_212, gx_213, gx_224, gn_4, gn_114, gn_115, gn_116, gn_213, gn_224, lx_1_0 q1, lx_1_1 q1, lx_1_2 q1, lx_1_3 q1, lx_1_4 q1, lx_1_5 q1, lx_1_6 q1, lx_1_7 q1, lx_2_0 q1, lx_3_0 q1, lx_113_0 q1, lx_113_1 q1, lx_113_2 q1, lx_212_0 q1, lx_212_1 q1, pl_i, if_pos]
theorem c_layKeep (hL : pd_Ly F) {k : Int} (h0 : 0 ≤ k) (h1 : k < 3) : ∃ F', pfX3_layKeep pd_SH 5000 F 113 k 231 = some F' ∧ pd_Ly F' ∧ (∀ a, a ≠ 116 → (a < 117 + 5 * (16 + k) ∨ 117 + 5 * (16 + k) + 4 < a) → F' a = F a) ∧ F' 116 = ru (F 116) k 1 ∧ stE F F' (117 + 5 * (16 + k)) 231 := by
  have hS := aS_ke h0 h1
  obtain ⟨p0, -⟩ := sh_s hS
  obtain ⟨G, f1, f2, f3, f4⟩ := c_copyFrom hL hS aS_now (by omega)
  refine ⟨pd_up G 116 k 1, ?_, f2.up (pl_rc0 sx_116 (by decide)), fun a x y => by rw [pu_a x]; exact f3 a y, by rw [pu_row, f3 116 (by omega)], ?_⟩
  · unfold pfX3_layKeep
    simp only [pl_l, pl_b, pl_iT, pl_t, pl_f, gx_1, gx_2, gx_3, gx_4, gx_113, gx_114, gx_115, gx_116, gx_212, gx_213, gx_224, gn_4, gn_114, gn_115, gn_116, gn_213, gn_224, lx_1_0 hL, lx_1_1 hL, lx_1_2 hL, lx_1_3 hL, lx_1_4 hL, lx_1_5 hL, lx_1_6 hL, lx_1_7 hL, lx_2_0 hL, lx_3_0 hL, lx_113_0 hL, lx_113_1 hL, lx_113_2 hL, lx_212_0 hL, lx_212_1 hL, fy_ke hL h0 h1, pl_ob p0, f1]
    rw [if_neg (by omega), pl_i (by omega), if_neg (by omega), pl_i (by omega)]
    simp only [gx_1, gx_2, gx_3, gx_4, gx_113, gx_114, gx_115, gx_116, gx_212, gx_213, gx_224, gn_4, gn_114, gn_115, gn_116, gn_213, gn_224, lx_1_0 f2, lx_1_1 f2, lx_1_2 f2, lx_1_3 f2, lx_1_4 f2, lx_1_5 f2, lx_1_6 f2, lx_1_7 f2, lx_2_0 f2, lx_3_0 f2, lx_113_0 f2, lx_113_1 f2, lx_113_2 f2, lx_212_0 f2, lx_212_1 f2]
    rw [pl_i (by omega)]
  · unfold stE at f4 ⊢
    rw [pu_a (by omega), pu_a (by omega), pu_a (by omega), pu_a (by omega), pu_a (by omega)]
    exact f4
theorem c_goBackTo (hL : pd_Ly F) {k : Int} (h0 : 0 ≤ k) (h1 : k < 3) : (F 116 k = 0 ∧ pfX3_goBackTo pd_SH 5000 F 113 k 231 = some (0, F)) ∨ (F 116 k ≠ 0 ∧ ∃ F', pfX3_goBackTo pd_SH 5000 F 113 k 231 = some (1, F') ∧ pd_Ly F' ∧ (∀ a, a ≠ 113 → (a < 231 ∨ 235 < a) → F' a = F a) ∧ F' 113 = ru (F 113) 4 0 ∧ stE F F' 231 (117 + 5 * (16 + k))) := by
  have hS := aS_ke h0 h1
  obtain ⟨n0, -⟩ := sh_s aS_now
  unfold pfX3_goBackTo
  simp only [pl_l, pl_b, pl_iT, pl_t, pl_f, gx_1, gx_2, gx_3, gx_4, gx_113, gx_114, gx_115, gx_116, gx_212, gx_213, gx_224, gn_4, gn_114, gn_115, gn_116, gn_213, gn_224, lx_1_0 hL, lx_1_1 hL, lx_1_2 hL, lx_1_3 hL, lx_1_4 hL, lx_1_5 hL, lx_1_6 hL, lx_1_7 hL, lx_2_0 hL, lx_3_0 hL, lx_113_0 hL, lx_113_1 hL, lx_113_2 hL, lx_212_0 hL, lx_212_1 hL, fy_ke hL h0 h1, pl_ob n0]
  rw [if_neg (by omega), pl_i (by omega), if_neg (by omega), pl_i (by omega)]
  by_cases z : F 116 k = 0
  · rw [if_neg (fun w => w z)]
    exact Or.inl ⟨z, rfl⟩
  rw [if_pos z, pl_i (by omega)]
  obtain ⟨G, f1, f2, f3, f4⟩ := c_copyFrom hL aS_now hS (by omega)
  rw [f1]
  simp only [pl_l, pl_b, pl_iT, pl_t, pl_f]
  refine Or.inr ⟨z, _, rfl, f2.up (pl_rc4 sx_113 (by decide)), fun a x y => by rw [pu_a x]; exact f3 a (by omega), by rw [pu_row, f3 113 (by omega)], ?_⟩
  unfold stE at f4 ⊢
  rw [pu_a (by omega), pu_a (by omega), pu_a (by omega), pu_a (by omega), pu_a (by omega)]
  exact f4
end ST

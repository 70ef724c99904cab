variable {sT : pd_S}
/-! the class: states and their past -/
theorem pl_cg {sh : pd_S} {a i b j n : Int} {x y : Nat} (ha : pd_sh sh a = some (0, 0, x)) (hb : pd_sh sh b = some (0, 0, y)) : (pd_cg sh a i b j n = true) = (0 ≤ i ∧ 0 ≤ j ∧ 0 ≤ n ∧ i + n ≤ (x : Int) ∧ j + n ≤ (y : Int)) := by
  unfold pd_cg pd_cgk
  rw [pl_ln ha, pl_ln hb]
  simp
theorem cp_a {F : pd_F} {a i b j n c : Int} (h : c ≠ b) : pd_cp F a i b j n c = F c := by
  funext q
  unfold pd_cp
  rw [if_neg (fun z => h z.1)]
theorem cp_r {F : pd_F} {a b n q : Int} (h0 : 0 ≤ q) (h1 : q < n) : pd_cp F a 0 b 0 n b q = F a q := by
  unfold pd_cp
  rw [if_pos (by omega)]
  congr 1
  omega
theorem pd_Ly.cp {F : pd_F} {a i b j n : Int} (h : pd_Ly F) (hr : ∀ q, pd_rc b q = false) : pd_Ly (pd_cp F a i b j n) := by
  intro c q hc
  have : c ≠ b := fun e => by rw [e, hr q] at hc; cases hc
  rw [cp_a this]; exact h c q hc
theorem aS_ap {x y : Int} (hx : aS x) (hy : aS y) (h : x ≠ y) : x + 5 ≤ y ∨ y + 5 ≤ x := by
  rcases hx with rfl | rfl | ⟨j, j0, j1, rfl⟩ <;> rcases hy with rfl | rfl | ⟨k, k0, k1, rfl⟩ <;> omega
/-- the state d is as s was -/
def stE (F F' : pd_F) (d s : Int) : Prop := F' d 4 = F s 4 ∧ F' d 5 = F s 5 ∧ (∀ i, 0 ≤ i → i < 10 → F' (d + 1) i = F (s + 1) i) ∧ (∀ i, 0 ≤ i → i < 3 → F' (d + 2) i = F (s + 2) i) ∧ (∀ i, 0 ≤ i → i < 31 → F' (d + 3) i = F (s + 3) i) ∧ ∀ i, 0 ≤ i → i < 31 → F' (d + 4) i = F (s + 4) i
section ST
variable {F : pd_F}
theorem c_copyFrom (hL : pd_Ly F) {d s : Int} (hd : aS d) (hs : aS s) (h : d ≠ s) : ∃ F', pfX8_copyFrom (pd_SH sT) 5000 F d s = some F' ∧ pd_Ly F' ∧ (∀ a, (a < d ∨ d + 4 < a) → F' a = F a) ∧ stE F F' d s := by
  obtain ⟨d0, d1, d2, d3, d4⟩ := sh_s (sT := sT) hd
  obtain ⟨s0, s1, s2, s3, s4⟩ := sh_s (sT := sT) hs
  have ap := aS_ap hd hs h
  have g1 : pd_Ly (pd_cp F (s + 1) 0 (d + 1) 0 10) := hL.cp (fun q => pl_rc0 d1 (by decide))
  have g2 : pd_Ly (pd_cp (pd_cp F (s + 1) 0 (d + 1) 0 10) (s + 2) 0 (d + 2) 0 3) := g1.cp (fun q => pl_rc0 d2 (by decide))
  have g3 : pd_Ly (pd_cp (pd_cp (pd_cp F (s + 1) 0 (d + 1) 0 10) (s + 2) 0 (d + 2) 0 3) (s + 3) 0 (d + 3) 0 31) := g2.cp (fun q => pl_rc0 d3 (by decide))
  have g4 : pd_Ly (pd_cp (pd_cp (pd_cp (pd_cp F (s + 1) 0 (d + 1) 0 10) (s + 2) 0 (d + 2) 0 3) (s + 3) 0 (d + 3) 0 31) (s + 4) 0 (d + 4) 0 31) := g3.cp (fun q => pl_rc0 d4 (by decide))
  obtain ⟨e0, -, -, -⟩ := ly_s hL hd
  obtain ⟨f0, -, -, -⟩ := ly_s hL hs
  obtain ⟨-, e1, -, -⟩ := ly_s g1 hd
  obtain ⟨-, f1, -, -⟩ := ly_s g1 hs
  obtain ⟨-, -, e2, -⟩ := ly_s g2 hd
  obtain ⟨-, -, f2, -⟩ := ly_s g2 hs
  obtain ⟨-, -, -, e3⟩ := ly_s g3 hd
  obtain ⟨-, -, -, f3⟩ := ly_s g3 hs
  have k4 : pd_cp (pd_cp (pd_cp (pd_cp F (s + 1) 0 (d + 1) 0 10) (s + 2) 0 (d + 2) 0 3) (s + 3) 0 (d + 3) 0 31) (s + 4) 0 (d + 4) 0 31 s = F s := by rw [cp_a (by omega), cp_a (by omega), cp_a (by omega), cp_a (by omega)]
  generalize hG : pd_cp (pd_cp (pd_cp (pd_cp F (s + 1) 0 (d + 1) 0 10) (s + 2) 0 (d + 2) 0 3) (s + 3) 0 (d + 3) 0 31) (s + 4) 0 (d + 4) 0 31 = G at g4 k4
  refine ⟨pd_up (pd_up G d 4 (F s 4)) d 5 (F s 5), ?_, (g4.up (pl_rc4 d0 (by decide))).up (pl_rc4 d0 (by decide)), fun a ha => ?_, ?_, ?_, fun i a b => ?_, fun i a b => ?_, fun i a b => ?_, fun i a b => ?_⟩
  · unfold pfX8_copyFrom
    simp only [pl_l, pl_b, pl_iT, pl_t, pl_f, pl_ob d0, pl_ob s0, e0, f0, e1, f1, e2, f2, e3, f3, pl_cg s1 d1, pl_cg s2 d2, pl_cg s3 d3, pl_cg s4 d4, hG, k4]
    rw [pl_i (by omega), pl_i (by omega), pl_i (by omega), pl_i (by omega), pu_a (show s ≠ d by omega), k4]
  · rw [pu_a (by omega), pu_a (by omega), ← hG, cp_a (by omega), cp_a (by omega), cp_a (by omega), cp_a (by omega)]
  · rw [pu_r, if_neg (by decide), pu_r, if_pos rfl]
  · rw [pu_r, if_pos rfl]
  · rw [pu_a (by omega), pu_a (by omega), ← hG, cp_a (by omega), cp_a (by omega), cp_a (by omega), cp_r a b]
  · rw [pu_a (by omega), pu_a (by omega), ← hG, cp_a (by omega), cp_a (by omega), cp_r a b, cp_a (by omega)]
  · rw [pu_a (by omega), pu_a (by omega), ← hG, cp_a (by omega), cp_r a b, cp_a (by omega), cp_a (by omega)]
  · rw [pu_a (by omega), pu_a (by omega), ← hG, cp_r a b, cp_a (by omega), cp_a (by omega), cp_a (by omega)]
theorem c_begin (hL : pd_Ly F) {d b : Int} (hd : aS d) (hb : aB b) : ∃ F', pfX8_begin (pd_SH sT) 5000 F d b = some F' ∧ pd_Ly F' ∧ (∀ a, (a < d ∨ d + 4 < a) → F' a = F a) ∧ F' d 4 = 0 ∧ F' d 5 = 0 ∧ (∀ i, 0 ≤ i → i < 10 → F' (d + 1) i = F (b + 4) i) ∧ ∀ i, 0 ≤ i → i < 3 → F' (d + 2) i = F (b + 7) i := by
  obtain ⟨d0, d1, d2, d3, d4⟩ := sh_s (sT := sT) hd
  obtain ⟨b0, -, -, -, b4, -, -, b7, -, -⟩ := sh_b (sT := sT) hb
  have ap : (b + 9 < d ∨ d + 4 < b) := by
    rcases hb with rfl | rfl <;> rcases hd with rfl | rfl | ⟨j, j0, j1, rfl⟩ <;> omega
  have g1 : pd_Ly (pd_cp F (b + 4) 0 (d + 1) 0 10) := hL.cp (fun q => pl_rc0 d1 (by decide))
  have g2 : pd_Ly (pd_cp (pd_cp F (b + 4) 0 (d + 1) 0 10) (b + 7) 0 (d + 2) 0 3) := g1.cp (fun q => pl_rc0 d2 (by decide))
  obtain ⟨e0, -, -, -⟩ := ly_s hL hd
  obtain ⟨-, e1, -, -⟩ := ly_s g1 hd
  obtain ⟨-, -, -, f3, -, -, -, -, -⟩ := ly_b hL hb
  obtain ⟨-, -, -, -, -, -, f6, -, -⟩ := ly_b g1 hb
  refine ⟨pd_up (pd_up (pd_cp (pd_cp F (b + 4) 0 (d + 1) 0 10) (b + 7) 0 (d + 2) 0 3) d 4 0) d 5 0, ?_, (g2.up (pl_rc4 d0 (by decide))).up (pl_rc4 d0 (by decide)), fun a ha => ?_, ?_, ?_, fun i a b => ?_, fun i a b => ?_⟩
  · unfold pfX8_begin
    simp only [pl_l, pl_b, pl_iT, pl_t, pl_f, pl_ob d0, pl_ob b0, e0, e1, f3, f6, pl_cg b4 d1, pl_cg b7 d2]
    rw [pl_i (by omega), pl_i (by omega)]
  · rw [pu_a (by omega), pu_a (by omega), cp_a (by omega), cp_a (by omega)]
  · rw [pu_r, if_neg (by decide), pu_r, if_pos rfl]
  · rw [pu_r, if_pos rfl]
  · rw [pu_a (by omega), pu_a (by omega), cp_a (by omega), cp_r a b]
  · rw [pu_a (by omega), pu_a (by omega), cp_r a b, cp_a (by omega)]
/-- the state st of the class is the row s of acts, of the book b -/
def sR (D F : pd_F) (b st : Int) (s : Int → Int) : Prop := aOk D s ∧ jOk D s ∧ dst s ∧ (0 ≤ s 71 ∧ s 71 ≤ 999) ∧ (∀ m, Ou s m → ∃ i, 0 ≤ i ∧ i < F b 14 ∧ F (b + 8) i = m) ∧
  (∀ a, 0 ≤ a → a < D 371 0 → F (st + 1) a = s a) ∧ (F (st + 2) 0 = s 71 ∧ F (st + 2) 1 = s 72 ∧ F (st + 2) 2 = s 73) ∧ F st 4 = s 70 ∧ (∀ k, 0 ≤ k → k < s 70 → F (st + 3) k = s (10 + 2 * k) ∧ F (st + 4) k = s (11 + 2 * k)) ∧
  lR (F st 5) ∧ (∀ i, 0 ≤ i → i < 36 → (tb (F st 5) i ↔ i < F b 14 ∧ Ou s (F (b + 8) i))) ∧ s 110 = Sm (fun i => ci (tb (F st 5) i) 1 0) 36
/-- the relation moves with the cells -/
theorem sR_st {D F' : pd_F} {b st d : Int} {s : Int → Int} (hb : bOk D) (h : sR D F b st s) (eb : F' b = F b ∧ F' (b + 8) = F (b + 8)) (e : stE F F' d st) : sR D F' b d s := by
  obtain ⟨h1, h2, h3, h4, h5, h6, h7, h8, h9, h10, h11, h12⟩ := h
  obtain ⟨e4, e5, ea, eb2, ec, ed⟩ := e
  have n := hb.1.2.2.2.2.2.1
  have n70 := h1.2.1
  refine ⟨h1, h2, h3, h4, fun m w => by rw [eb.1, eb.2]; exact h5 m w, fun a x y => by rw [ea a x (by omega)]; exact h6 a x y, by rw [eb2 0 (by decide) (by decide), eb2 1 (by decide) (by decide), eb2 2 (by decide) (by decide)]; exact h7, by rw [e4]; exact h8, fun k x y => by rw [ec k x (by omega), ed k x (by omega)]; exact h9 k x y, by rw [e5]; exact h10, fun i x y => by rw [e5, eb.1, eb.2]; exact h11 i x y, by rw [e5]; exact h12⟩
theorem sR_fr {D F' : pd_F} {b st : Int} {s : Int → Int} (h : sR D F b st s) (eb : F' b = F b ∧ F' (b + 8) = F (b + 8)) (e : ∀ a, st ≤ a → a ≤ st + 4 → F' a = F a) : sR D F' b st s := by
  unfold sR
  rw [eb.1, eb.2, e st (by omega) (by omega), e (st + 1) (by omega) (by omega), e (st + 2) (by omega) (by omega), e (st + 3) (by omega) (by omega), e (st + 4) (by omega) (by omega)]
  exact h
theorem c_addJoin (hL : pd_Ly F) {st p o : Int} (hs : aS st) (hn : 0 ≤ F st 4 ∧ F st 4 < 31) : ∃ F', pfX8_addJoin (pd_SH sT) 5000 F st p o = some F' ∧ pd_Ly F' ∧ (∀ a, a ≠ st → a ≠ st + 3 → a ≠ st + 4 → F' a = F a) ∧ F' st = ru (F st) 4 (F st 4 + 1) ∧ F' (st + 3) = ru (F (st + 3)) (F st 4) p ∧ F' (st + 4) = ru (F (st + 4)) (F st 4) o := by
  obtain ⟨d0, d1, d2, d3, d4⟩ := sh_s (sT := sT) hs
  obtain ⟨-, -, e2, e3⟩ := ly_s hL hs
  have g1 : pd_Ly (pd_up F (st + 3) (F st 4) p) := hL.up (pl_rc0 d3 (by decide))
  obtain ⟨-, -, -, f3⟩ := ly_s g1 hs
  have a1 : pd_up F (st + 3) (F st 4) p st = F st := pu_a (by omega)
  have a2 : pd_up (pd_up F (st + 3) (F st 4) p) (st + 4) (F st 4) o st = F st := by rw [pu_a (by omega)]; exact a1
  refine ⟨pd_up (pd_up (pd_up F (st + 3) (F st 4) p) (st + 4) (F st 4) o) st 4 (F st 4 + 1), ?_, (g1.up (pl_rc0 d4 (by decide))).up (pl_rc4 d0 (by decide)), fun a x y z => by rw [pu_a x, pu_a z, pu_a y], by rw [pu_row, a2], by rw [pu_a (by omega), pu_a (by omega), pu_row], by rw [pu_a (by omega), pu_row, pu_a (by omega)]⟩
  unfold pfX8_addJoin
  simp only [pl_l, pl_b, pl_iT, pl_t, pl_f, pl_ob d0, pl_ln d3, pl_ib d3, pl_ib d4, e2, f3, a1, a2]
  rw [pl_i (by omega), if_neg (by omega), pl_i (by omega), pl_i (by omega), pl_w (by omega)]
theorem c_leaveOut (hL : pd_Ly F) {st i out : Int} (hs : aS st) : ∃ F', pfX8_leaveOut (pd_SH sT) 5000 F st i out = some F' ∧ pd_Ly F' ∧ (∀ a, a ≠ st → F' a = F a) ∧ F' st = ru (F st) 5 (if out = 0 then pd_And (F st 5) (pd_Xor (pd_Shl 1 i) (-1)) else pd_Or (F st 5) (pd_Shl 1 i)) := by
  obtain ⟨d0, -⟩ := sh_s (sT := sT) hs
  unfold pfX8_leaveOut
  simp only [pl_l, pl_b, pl_iT, pl_t, pl_f, pl_ob d0]
  by_cases k : out = 0
  · rw [if_pos k, if_pos k]
    exact ⟨_, rfl, hL.up (pl_rc4 d0 (by decide)), fun a h => pu_a h, pu_row⟩
  · rw [if_neg k, if_neg k]
    exact ⟨_, rfl, hL.up (pl_rc4 d0 (by decide)), fun a h => pu_a h, pu_row⟩
/-- the past: the ring, the next place, how many -/
theorem aS_pa {j : Int} (h0 : 0 ≤ j) (h1 : j < 16) : aS (117 + 5 * j) := Or.inr (Or.inr ⟨j, h0, by omega, rfl⟩)
theorem aS_now : aS 231 := Or.inl rfl
/-- the place that many acts ago -/
def ring (nx j : Int) : Int := (nx - 1 - j) % 16
theorem c_remember (hL : pd_Ly F) (hn : 0 ≤ F 113 3 ∧ F 113 3 ≤ 16) (hu : 0 ≤ F 113 4 ∧ F 113 4 ≤ 16) {p : Int} (ep : p = if F 113 3 = 16 then 0 else F 113 3) : ∃ F', pfX3_remember (pd_SH sT) 5000 F 113 231 = some F' ∧ pd_Ly F' ∧ (∀ a, a ≠ 113 → (a < 117 + 5 * p ∨ 117 + 5 * p + 4 < a) → F' a = F a) ∧ F' 113 3 = p + 1 ∧ F' 113 4 = min (F 113 4 + 1) 16 ∧ stE F F' (117 + 5 * p) 231 := by
  have pb : 0 ≤ p ∧ p < 16 := by rw [ep]; split <;> omega
  have ew : pd_w (p + 1) = p + 1 := pl_w (by omega)
  have fin : ∀ G0 : pd_F, pd_Ly G0 → G0 113 3 = p → G0 113 4 = F 113 4 → (∀ a, a ≠ 113 → G0 a = F a) → ∃ F', pfX3_remember_b24 (pd_SH sT) 5000 G0 113 231 = some F' ∧ pd_Ly F' ∧ (∀ a, a ≠ 113 → (a < 117 + 5 * p ∨ 117 + 5 * p + 4 < a) → F' a = F a) ∧ F' 113 3 = p + 1 ∧ F' 113 4 = min (F 113 4 + 1) 16 ∧ stE F F' (117 + 5 * p) 231 := fun G0 g1 w3 w4 g0 => by
    have hp := fy_pa g1 pb.1 pb.2
    have hS := aS_pa pb.1 pb.2
    obtain ⟨p0, -⟩ := sh_s (sT := sT) hS
    obtain ⟨G, f1, f2, f3, f4⟩ := c_copyFrom (sT := sT) g1 hS aS_now (by omega)
    have e3 : G 113 = G0 113 := f3 113 (by omega)
    have g3 : pd_Ly (pd_up G 113 3 (p + 1)) := f2.up (pl_rc4 sx_113 (by decide))
    have u4 : pd_up G 113 3 (p + 1) 113 4 = F 113 4 := by rw [pu_r, if_neg (by decide), e3, w4]
    refine ⟨pd_up (pd_up G 113 3 (p + 1)) 113 4 (min (F 113 4 + 1) 16), ?_, g3.up (pl_rc4 sx_113 (by decide)), fun a x y => by rw [pu_a x, pu_a x, f3 a y]; exact g0 a x, by rw [pu_r, if_neg (by decide), pu_r, if_pos rfl], by rw [pu_r, if_pos rfl], ?_⟩
    · unfold pfX3_remember_b24
      simp only [pl_l, pl_b, pl_iT, pl_t, pl_f, gx_1, gx_2, gx_3, gx_4, gx_113, gx_114, gx_115, gx_116, gx_212, gx_213, gx_224, gn_4, gn_114, gn_115, gn_116, gn_213, gn_224, lx_1_0 g1, lx_1_1 g1, lx_1_2 g1, lx_1_3 g1, lx_1_4 g1, lx_1_5 g1, lx_1_6 g1, lx_1_7 g1, lx_2_0 g1, lx_3_0 g1, lx_113_0 g1, lx_113_1 g1, lx_113_2 g1, lx_212_0 g1, lx_212_1 g1, w3, hp, pl_ob p0, f1, e3, ew]
      rw [pl_i (by omega)]
      simp only [pl_l, pl_b, pl_iT, pl_t, pl_f, gx_1, gx_2, gx_3, gx_4, gx_113, gx_114, gx_115, gx_116, gx_212, gx_213, gx_224, gn_4, gn_114, gn_115, gn_116, gn_213, gn_224, lx_1_0 g3, lx_1_1 g3, lx_1_2 g3, lx_1_3 g3, lx_1_4 g3, lx_1_5 g3, lx_1_6 g3, lx_1_7 g3, lx_2_0 g3, lx_3_0 g3, lx_113_0 g3, lx_113_1 g3, lx_113_2 g3, lx_212_0 g3, lx_212_1 g3, u4]
      rw [pl_w (by omega), pl_i (by omega)]
    · unfold stE at f4 ⊢
      rw [pu_a (by omega), pu_a (by omega), pu_a (by omega), pu_a (by omega), pu_a (by omega), pu_a (by omega), pu_a (by omega), pu_a (by omega), pu_a (by omega), pu_a (by omega)]
      rw [g0 231 (by omega), g0 (231 + 1) (by omega), g0 (231 + 2) (by omega), g0 (231 + 3) (by omega), g0 (231 + 4) (by omega)] at f4
      exact f4
  unfold pfX3_remember
  simp only [pl_l, pl_b, pl_iT, pl_t, pl_f, gx_1, gx_2, gx_3, gx_4, gx_113, gx_114, gx_115, gx_116, gx_212, gx_213, gx_224, gn_4, gn_114, gn_115, gn_116, gn_213, gn_224, lx_1_0 hL, lx_1_1 hL, lx_1_2 hL, lx_1_3 hL, lx_1_4 hL, lx_1_5 hL, lx_1_6 hL, lx_1_7 hL, lx_2_0 hL, lx_3_0 hL, lx_113_0 hL, lx_113_1 hL, lx_113_2 hL, lx_212_0 hL, lx_212_1 hL]
  by_cases z : F 113 3 = 16
  · rw [if_neg (by omega), pl_i (by omega), if_neg (by omega)]
    unfold pfX3_remember_b19
    simp only [pl_l, pl_b, pl_iT, pl_t, pl_f, gx_1, gx_2, gx_3, gx_4, gx_113, gx_114, gx_115, gx_116, gx_212, gx_213, gx_224, gn_4, gn_114, gn_115, gn_116, gn_213, gn_224]
    exact fin (pd_up F 113 3 0) (hL.up (pl_rc4 sx_113 (by decide))) (by rw [pu_r, if_pos rfl, ep, if_pos z]) (by rw [pu_r, if_neg (by decide)]) (fun a h => pu_a h)
  · rw [if_neg (by omega), pl_i (by omega), if_pos (by omega)]
    exact fin F hL (by rw [ep, if_neg z]) rfl (fun _ _ => rfl)
theorem c_forget (hL : pd_Ly F) : ∃ F', pfX3_forget (pd_SH sT) 5000 F 113 = some F' ∧ pd_Ly F' ∧ (∀ a, a ≠ 113 → a ≠ 116 → F' a = F a) ∧ F' 113 = ru (F 113) 4 0 ∧ ∀ k, 0 ≤ k → k < 3 → F' 116 k = 0 := by
  unfold pfX3_forget
  simp only [pl_l, pl_b, pl_iT, pl_t, pl_f, gx_1, gx_2, gx_3, gx_4, gx_113, gx_114, gx_115, gx_116, gx_212, gx_213, gx_224, gn_4, gn_114, gn_115, gn_116, gn_213, gn_224]
  refine pl_for (f := fun j (q : pd_F) i => pfX3_forget_b7 (pd_SH sT) 5000 j q 113 i) (P := fun i q => pd_Ly q ∧ (∀ a, a ≠ 113 → a ≠ 116 → q a = F a) ∧ q 113 = ru (F 113) 4 0 ∧ ∀ k, 0 ≤ k → k < i → q 116 k = 0) (N := 3)
    (res := fun o => ∃ F', o = some F' ∧ pd_Ly F' ∧ (∀ a, a ≠ 113 → a ≠ 116 → F' a = F a) ∧ F' 113 = ru (F 113) 4 0 ∧ ∀ k, 0 ≤ k → k < 3 → F' 116 k = 0) ?_ ?_ 5000 (pd_up F 113 4 0) 0 (by omega) (by omega) (by omega)
    ⟨hL.up (pl_rc4 sx_113 (by decide)), fun a x _ => pu_a x, pu_row, fun k a b => by omega⟩
  · intro j G i a b ⟨q1, q2, q3, q4⟩
    refine Or.inl ⟨pd_up G 116 i 0, ⟨q1.up (pl_rc0 sx_116 (by decide)), fun a x y => by rw [pu_a y]; exact q2 a x y, by rw [pu_a (by decide)]; exact q3, fun k c d => ?_⟩, ?_⟩
    · rw [pu_r]
      split
      · rfl
      · exact q4 k c (by omega)
    · show pfX3_forget_b7 (pd_SH sT) 5000 (j + 1) G 113 i = _
      simp (disch := omega) only [pfX3_forget_b7, pl_l, pl_b, pl_iT, pl_t, pl_f, gx_1, gx_2, gx_3, gx_4, gx_113, gx_114, gx_115, gx_116, gx_212, gx_213, gx_224, gn_4, gn_114, gn_115, gn_116, gn_213, gn_224, lx_1_0 q1, lx_1_1 q1, lx_1_2 q1, lx_1_3 q1, lx_1_4 q1, lx_1_5 q1, lx_1_6 q1, lx_1_7 q1, lx_2_0 q1, lx_3_0 q1, lx_113_0 q1, lx_113_1 q1, lx_113_2 q1, lx_212_0 q1, lx_212_1 q1, pl_w, pl_i, if_neg]
  · intro j G ⟨q1, q2, q3, q4⟩
    refine ⟨G, ?_, q1, q2, q3, q4⟩
    show pfX3_forget_b7 (pd_SH sT) 5000 (j + 1) G 113 _ = _
    simp (disch := omega) only [pfX3_forget_b7, pl_l, pl_b, pl_iT, pl_t, pl_f, gx_1, gx_2, gx_3, gx_4, gx_113, gx_114, gx_115, gx_116, gx_212, gx_213, gx_224, gn_4, gn_114, gn_115, gn_116, gn_213, gn_224, lx_1_0 q1, lx_1_1 q1, lx_1_2 q1, lx_1_3 q1, lx_1_4 q1, lx_1_5 q1, lx_1_6 q1, lx_1_7 q1, lx_2_0 q1, lx_3_0 q1, lx_113_0 q1, lx_113_1 q1, lx_113_2 q1, lx_212_0 q1, lx_212_1 q1, pl_i, if_pos]
end ST

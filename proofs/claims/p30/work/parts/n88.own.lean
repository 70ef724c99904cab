/-! the class reads the law's text as a book -/
section BK
variable {sT : pd_S} {b : Int} {F F' B : pd_F} {T : Int → Int} {N p q np nt na nh nl c : Int} {w : List Int}
theorem ad_mk (hL : pd_Ly F) (h2 : F 3 2 = N) (n : 0 ≤ N ∧ N ≤ 1000) (h3 : F 3 3 = q) (hq : 0 ≤ q ∧ q ≤ N) (ht : ∀ j, 0 ≤ j → j < N → F 4 j = T j) : ∃ F', pfX9_advance (pd_SH sT) 5000 F 3 = some F' ∧ ad F' T N q ∧ jC F F' := by
  obtain ⟨F', a1, a2, a3, a4, a5⟩ := c_advance (sT := sT) hL (by omega) (by omega)
  have e4 : F' 4 = F 4 := a3.1 4 (by decide)
  rw [h2, h3] at a4
  exact ⟨F', a1, ⟨a2, ⟨by rw [a3.2 2 (by decide)]; exact h2, n.1, n.2⟩, fun j x y => by rw [e4]; exact ht j x y, hq, by rw [e4]; exact a4, fun x => by rw [e4]; exact a5 (by omega)⟩, a3⟩
theorem ZK_0 (e : ∀ j, 9 ≤ j → j ≤ 14 → F b j = 0) (e7 : ∀ w, 0 ≤ w → w < 3 → F (b + 7) w = -1) : ZK b F (fun _ _ => 0) 0 0 0 0 0 := by
  have e14 := e 14 (by decide) (by decide)
  have nM : ∀ m, ¬ isMk (fun _ _ => 0) m := fun m ⟨p, a, b, _⟩ => by
    have b : p < 0 := b
    omega
  refine ⟨⟨rfl, rfl, rfl, rfl, rfl⟩, ⟨e 9 (by decide) (by decide), by decide, fun p x y => ?_, ⟨by omega, fun i j x y => by omega, fun i x y => by omega, fun m z => absurd z (nM m), fun i x y => by omega⟩, by show F b 14 ≤ 3 * 0; omega⟩, ⟨⟨e 10 (by decide) (by decide), by decide, by decide⟩, ⟨e 11 (by decide) (by decide), by decide, by decide⟩, fun t x y => ?_, fun t x y => ?_⟩, ⟨e 12 (by decide) (by decide), by decide, fun t x y => ?_⟩, ⟨e 13 (by decide) (by decide), by decide, fun t x y => ?_⟩, fun w x y => Or.inl ⟨rfl, e7 w x y⟩, ⟨fun i x y => by omega, fun i x y => by omega, fun i x y => by omega⟩, fun p x y => by omega⟩
  all_goals
    exfalso
    first
    | (have y : p < 0 := y; omega)
    | (have y : t < 0 := y; omega)
theorem ZK.kf (h : ZK b F B np nt na nh nl) (hb : aB b) (e : ∀ a, a ≠ b + 7 → F' a = F a) (e7 : ∀ w, 0 ≤ w → w < 3 → F' (b + 7) w = if F (b + 7) w = -1 then dflt w else F (b + 7) w) : Kf b F' B := by
  obtain ⟨-, k1, k2, k3, k4, k5, -⟩ := h
  have b5 := aB_5 hb
  have eb := e b (by omega)
  refine ⟨k1.fr (by rw [eb]) (by rw [eb]) (fun a x y => e a (by omega)) rfl rfl rfl rfl rfl, k2.fr (by rw [eb]) (by rw [eb]) (e _ (by omega)) (fun a x y => e a (by omega)) (Int.le_refl _) rfl rfl rfl rfl rfl rfl, k3.fr (by rw [eb]) (fun a x y => e a (by omega)) (Int.le_refl _) rfl rfl rfl rfl rfl, k4.fr (by rw [eb]) (fun a x y => e a (by omega)) (Int.le_refl _) rfl rfl rfl rfl, fun w x y => ?_⟩
  rw [e7 w x y]
  unfold sv
  rcases k5 w x y with ⟨o1, o2⟩ | ⟨o1, o2, o3, o4⟩
  · rw [if_pos o2, if_pos o1]
    refine ⟨rfl, ?_⟩
    unfold dflt tMx
    have c : w = 0 ∨ w = 1 ∨ w = 2 := by omega
    rcases c with rfl | rfl | rfl <;> decide
  · rw [if_neg (by omega), if_neg (by omega)]
    exact ⟨o2, o3, o4⟩
/-- what reading leaves of the class outside the book -/
def wO (b : Int) (F F' : pd_F) : Prop := ∀ a, a ≠ 2 → a ≠ 3 → (a < b ∨ b + 107 < a) → F' a = F a
theorem z_read (hL : pd_Ly F) (hb : aB b) (h21 : F 2 1 = b) (hB : Bk np nt na nh c w) (hw : atl (F 4) 0 w) (hn : (w.length : Int) ≤ 1000) : ∃ F', pfX6_read (pd_SH sT) 5000 F 2 w.length = some (c, F') ∧ pd_Ly F' ∧ F' 2 1 = b ∧ wO b F F' ∧ 1 ≤ c ∧ ∃ B, Kf b F' B ∧ B 369 0 = np ∧ B 371 0 = na ∧ ∀ p, 0 ≤ p → p < np → 1 ≤ B 375 p := by
  have b5 := aB_5 hb
  obtain ⟨s0, -⟩ := sh_b (sT := sT) hb
  obtain ⟨F1, a1, a2, a3, a4, a5⟩ := c_clear (sT := sT) hL hb
  have u1 : pd_Ly (pd_up F1 2 2 0) := a2.up (pl_rc4 sx_2 (by decide))
  have u2 : pd_Ly (pd_up (pd_up F1 2 2 0) 3 2 w.length) := u1.up (pl_rc4 sx_3 (by decide))
  obtain ⟨P, hP⟩ : ∃ P, pd_up (pd_up (pd_up F1 2 2 0) 3 2 w.length) 3 3 0 = P := ⟨_, rfl⟩
  have fP : pd_Ly P := by rw [← hP]; exact u2.up (pl_rc4 sx_3 (by decide))
  have pa : ∀ a, a ≠ 2 → a ≠ 3 → P a = F1 a := fun a x y => by rw [← hP, pu_a y, pu_a y, pu_a x]
  have p21 : P 2 1 = b := by rw [← hP, pu_a (by decide), pu_a (by decide), pu_r, if_neg (by decide), a3 2 (by omega) (by omega)]; exact h21
  obtain ⟨F2, c1, c2, c3⟩ := ad_mk (sT := sT) (T := F 4) (N := w.length) (q := 0) fP (by rw [← hP, pu_r, if_neg (by decide), pu_r, if_pos rfl]) ⟨by omega, hn⟩ (by rw [← hP, pu_r, if_pos rfl]) ⟨by decide, by omega⟩ (fun j x y => by rw [pa 4 (by decide) (by decide), a3 4 (by omega) (by omega)])
  have f2 : ∀ a, a ≠ 2 → a ≠ 3 → F2 a = F1 a := fun a x y => (c3.1 a y).trans (pa a x y)
  have F221 : F2 2 1 = b := by rw [c3.1 2 (by decide)]; exact p21
  have Z2 : ZK b F2 (fun _ _ => 0) 0 0 0 0 0 := ZK_0 (fun j x y => by rw [f2 b (by omega) (by omega)]; exact a4 j x y) (fun w x y => by rw [f2 _ (by omega) (by omega)]; exact a5 w x y)
  obtain ⟨F3, B, d1, d2, d3, d4, ⟨cn, e1, e2, e3⟩, d6⟩ := hB _ (Qr_all (sT := sT) hb c2 F221 Z2 (fun w x y => by rw [f2 _ (by omega) (by omega)]; exact a5 w x y)) hw (Int.le_refl _)
  have bd := d3.bd
  have f3 := d1.1
  have k0 := d1.stop
  obtain ⟨F4, g1, g2, g3, g4⟩ := c_untold (sT := sT) f3 hb
  have hK := d3.kf hb g3 g4
  have e0 := e3 (5000 - cn)
  rw [show 5000 - cn + cn = 5000 by omega, pfX6_read_b27] at e0
  have fin : RD sT F2 5000 = some (c, F4) := by
    rw [e0]
    simp only [pl_l, pl_b, pl_iT, pl_t, pl_f, gx_1, gx_2, gx_3, gx_4, gx_113, gx_114, gx_115, gx_116, gx_212, gx_213, gx_224, gn_4, gn_114, gn_115, gn_116, gn_213, gn_224, lx_1_0 f3, lx_1_1 f3, lx_1_2 f3, lx_1_3 f3, lx_1_4 f3, lx_1_5 f3, lx_1_6 f3, lx_1_7 f3, lx_2_0 f3, lx_3_0 f3, lx_113_0 f3, lx_113_1 f3, lx_113_2 f3, lx_212_0 f3, lx_212_1 f3, k0]
    rw [if_neg (show ¬ (1 : Int) = 0 by decide), if_neg (show ¬ c - 1 > 44 by omega), if_neg (show ¬ (0 : Int) ≠ 0 by decide), pl_w (by omega), show c - 1 + 1 = c by omega]
    unfold pfX6_read_b50
    simp only [pl_l, pl_b, pl_iT, pl_t, pl_f, gx_1, gx_2, gx_3, gx_4, gx_113, gx_114, gx_115, gx_116, gx_212, gx_213, gx_224, gn_4, gn_114, gn_115, gn_116, gn_213, gn_224, d2, pl_ob s0, g1]
  refine ⟨F4, ?_, g2, by rw [g3 2 (by omega)]; exact d2, fun a x y z => ?_, by omega, B, hK, d3.1.1, d3.1.2.2.1, d3.2.2.2.2.2.2.2⟩
  · have X3 : F1 3 0 = 4 := lx_3_0 a2
    have X2 : F1 2 0 = 3 := lx_2_0 a2
    have Y2 : pd_up F1 2 2 0 2 0 = 3 := lx_2_0 u1
    have Y3 : pd_up F1 2 2 0 3 0 = 4 := lx_3_0 u1
    have mn : min (w.length : Int) 1000 = w.length := by omega
    have ln4 : pd_ln (pd_SH sT) 0 1 4 = 1000 := pl_ln (pd_shA (by decide +kernel))
    unfold RD at fin
    unfold pfX6_read pfX9_open
    simp only [pl_l, pl_b, pl_iT, pl_t, pl_f, gx_1, gx_2, gx_3, gx_4, gx_113, gx_114, gx_115, gx_116, gx_212, gx_213, gx_224, gn_4, gn_114, gn_115, gn_116, gn_213, gn_224, h21, pl_ob s0, a1, Y2, Y3, ln4, mn, hP, c1]
    rw [pl_i (by decide)]
    exact fin
  · rw [g3 a (by omega), d4.1 a y z, f2 a x y, a3 a (by omega) (by omega)]
/-- the class with the law's text as its book -/
theorem z_book (hL : pd_Ly F) (hb0 : aB (F 1 8)) (hb : aB b) (hne : F 1 8 ≠ b) (h21 : F 2 1 = b) (h113 : 0 ≤ F 113 3 ∧ F 113 3 ≤ 16) (hB : Bk np nt na nh c w) (hw : atl (F 4) 0 w) (hn : (w.length : Int) ≤ 1000) (h31 : (w.length : Int) ≤ F 3 1) : ∃ F1 D s, pfX11_book (pd_SH sT) 5000 F 1 w.length = some (c, F1) ∧ cS D s F1 ∧ (∃ R K KR, cH D F1 0 R K KR) ∧ F1 1 9 = 1 ∧ (s 70 = 0 ∧ s 110 = 0) ∧ D 369 0 = np ∧ D 371 0 = na ∧ ∀ p, 0 ≤ p → p < np → 1 ≤ D 375 p := by
  have b5 := aB_5 hb
  have out : F 1 8 < b ∨ b + 107 < F 1 8 := by rcases hb0 with x | x <;> rcases hb with rfl | rfl <;> omega
  have bb : b + 107 < 113 ∨ 244 < b := by rcases hb with rfl | rfl <;> decide
  obtain ⟨F', r1, r2, r3, r4, r5, B, kf, m1, m2, m3⟩ := z_read (sT := sT) hL hb h21 hB hw hn
  obtain ⟨o1, o2, o3⟩ := kf.ok
  have F'1 : F' 1 = F 1 := r4 1 (by decide) (by decide) (by omega)
  have F'113 : F' 113 = F 113 := r4 113 (by decide) (by decide) (by omega)
  obtain ⟨s, hs⟩ : ∃ s : Int → Int, (fun j => if j < 70 then F' (b + 4) j else if j = 71 then F' (b + 7) 0 else if j = 72 then F' (b + 7) 1 else if j = 73 then F' (b + 7) 2 else 0) = s := ⟨_, rfl⟩
  have sa : ∀ j, j < 70 → s j = F' (b + 4) j := fun j x => by rw [← hs]; exact if_pos x
  have s70 : s 70 = 0 := by rw [← hs]; rfl
  have s110 : s 110 = 0 := by rw [← hs]; rfl
  have s71 : s 71 = F' (b + 7) 0 := by rw [← hs]; rfl
  have s72 : s 72 = F' (b + 7) 1 := by rw [← hs]; rfl
  have s73 : s 73 = F' (b + 7) 2 := by rw [← hs]; rfl
  obtain ⟨kp, kl, kh, ko, st⟩ := id kf
  have t0 := st 0 (by decide) (by decide)
  have t1 := st 1 (by decide) (by decide)
  have t2 := st 2 (by decide) (by decide)
  have tm0 : tMx 0 = 999 := rfl
  have tm1 : tMx 1 = 9999999 := rfl
  have tm2 : tMx 2 = 9999999 := rfl
  have n10 := kl.2.1.2
  have hacc : ∀ a, 0 ≤ a → a < B 371 0 → F' (b + 4) a = s a := fun a x y => (sa a (by omega)).symm
  obtain ⟨F1, y1, y2, y3, y4, y5, y6, y7, y8, y9, y10, y11⟩ := c_bookOk (sT := sT) (D := B) (F' := F') (s := s) (n := w.length) (N := c) r2 ⟨by omega, h31⟩ hL r1 r5 hb r3 (by rw [F'1]; exact hb0) (by rw [F'1]; exact hne) o1 o2 ⟨⟨fun a x y => by rw [← hacc a x y]; have := (kl.2.2.2 a x y).2.2; omega, by omega, by omega, by omega, by omega⟩, s70, s110, by omega, hacc, fun w x y => by
    have cw : w = 0 ∨ w = 1 ∨ w = 2 := by omega
    rcases cw with rfl | rfl | rfl
    · exact s71.symm
    · exact s72.symm
    · exact s73.symm⟩ (by rw [F'113]; exact h113)
  refine ⟨F1, B, s, y1, y3, ⟨fun _ _ => 0, fun _ => 0, fun _ _ => 0, y8, y9, by decide, fun j x z => by omega, fun k x z => ⟨y10 k x z, fun q => absurd rfl q⟩⟩, y5, ⟨s70, s110⟩, m1, m2, m3⟩
end BK

/-! the law feeds its text, all of it, and books it -/
section FO
variable {sT : pd_S} {F : pd_F} {w : List Int} {np nt na nh c : Int} {b x1 : Int}
theorem pl_ib0 {T : pd_S} {n : Nat} {a i : Int} (h : pd_sh (pd_SH T) a = some (0, 0, n)) (hi : 0 ≤ i ∧ i < n) : pd_ib (pd_SH T) 0 0 a i = true := by rw [pl_ib h]; exact hi
theorem f_out (hp : pr w) (hl : (w.length : Int) ≤ 568) (ht0 : 366 < x1) : ∀ (d k : Nat) (sT : pd_S) (F : pd_F) (x3 : Int), (w.length : Int) ≤ x3 + 20 * d → d < k → 0 ≤ x3 → x3 ≤ w.length + 19 → tS (pd_SH sT) F x1 w → 366 < F x1 0 → pd_Ly F → F 3 1 = x3 → (∀ j, 0 ≤ j → j < x3 → j < w.length → F 4 j = w.getD j.toNat 0) →
    ∃ sT' F', pfL_feeds_b7 5000 k (pd_SH sT) F 1 x1 w.length x3 = pfL_feeds_b103 5000 (pd_SH sT') F' 1 w.length ∧ pd_Ly F' ∧ (∀ a, a ≤ 366 → a ≠ 3 → a ≠ 4 → F' a = F a) ∧ (w.length : Int) ≤ F' 3 1 ∧ atl (F' 4) 0 w ∧ ∃ U, pd_SH sT' = pd_SH sT ++ U := by
  intro d k
  induction k generalizing d with
  | zero => intro sT F x3 _ hk; omega
  | succ k ih =>
    intro sT F x3 hd hk h3 h3' ht h366 hL h31 hb
    by_cases c : x3 ≥ (w.length : Int)
    · refine ⟨sT, F, ?_, hL, fun _ _ _ _ => rfl, by omega, fun j hj => ?_, [], (List.append_nil _).symm⟩
      · rw [pfL_feeds_b7, if_pos c]
      · have := hb j (by omega) (by omega) (by omega)
        rw [show (0 : Int) + (j : Int) = j by omega, this]
        rfl
    · obtain ⟨d, rfl⟩ : ∃ d', d = d' + 1 := ⟨d - 1, by omega⟩
      obtain ⟨o, ho⟩ : ∃ o : Int, ((pd_SH sT).length : Int) + 1 = o := ⟨_, rfl⟩
      have ol : 366 < o := by rw [← ho, pd_SH_l]; omega
      obtain ⟨G, hG⟩ : ∃ G, pd_z F o = G := ⟨_, rfl⟩
      have ga : ∀ a, a ≠ o → G a = F a := fun a x => by rw [← hG]; funext j; unfold pd_z; rw [if_neg x]
      have go : ∀ j, G o j = 0 := fun j => by rw [← hG]; unfold pd_z; rw [if_pos rfl]
      have gL : pd_Ly G := fun a j x => by
        have : a ≠ o := fun e => by rw [e, pd_rc_hi (Or.inl ol)] at x; cases x
        rw [ga a this]; exact hL a j x
      have s4 : pd_sh (pd_SH (sT ++ [(0, 0, 5)])) o = some (0, 0, 5) := by rw [← pd_SH_app, ← ho]; exact sh_new
      have tb : x1 ≤ (pd_SH sT).length ∧ F x1 0 ≤ (pd_SH sT).length := by
        rcases ht with ⟨y, -⟩ | ⟨-, y1, -, y2, -⟩
        · omega
        · exact ⟨(sh_bd y1).2, (sh_bd y2).2⟩
      have ht1 : tS (pd_SH (sT ++ [(0, 0, 5)])) G x1 w := by
        rw [← pd_SH_app]
        exact ht.mono ex.one (fun a x => ga a (by omega))
      have gx : G x1 = F x1 := ga x1 (by omega)
      obtain ⟨H, i1, i2, i3⟩ := f_in (c7 := pfL_feeds_b7 5000 k) (x0 := 1) (n := 5000) (x3 := x3) s4 hp (by omega) (by omega) (by omega) (show o ≠ x1 by omega) 20 5000 G 0 (by decide) (by decide) (by decide) ht1 (by rw [gx]; omega) (fun i x y => by rw [go, show (min (max ((0 : Int) - 4 * i) 0) 4).toNat = 0 by omega]; rfl)
      have hL1 : pd_Ly H := fun a j x => by
        have : a ≠ o := fun e => by rw [e, pd_rc_hi (Or.inl ol)] at x; cases x
        rw [i2 a this]; exact gL a j x
      have hH : ∀ a, a ≠ o → H a = F a := fun a x => (i2 a x).trans (ga a x)
      have h31' : H 3 1 = x3 := by rw [hH 3 (by omega)]; exact h31
      rcases p_feed (sT := sT ++ [(0, 0, 5)]) hL1 h31' (by omega) (a := pkv (fch w x3) 0 4) (b := pkv (fch w x3) 1 4) (c := pkv (fch w x3) 2 4) (d := pkv (fch w x3) 3 4) (e := pkv (fch w x3) 4 4) with ⟨z, -⟩ | ⟨-, K, k1, k2, k3, k4, k5, k6⟩
      · omega
      have ht2 : tS (pd_SH (sT ++ [(0, 0, 5)])) K x1 w := by
        rcases ht1 with y | ⟨y1, y2, y3, y4, y5⟩
        · omega
        · have e1 : K x1 = G x1 := by rw [k3 x1 (by omega) (by omega), i2 x1 (by omega)]
          have e2 : K (G x1 0) = G (G x1 0) := by rw [gx, k3 _ (by omega) (by omega), i2 _ (by omega)]
          exact Or.inr ⟨y1, y2, by rw [e1]; exact y3, by rw [e1]; exact y4, fun j hj => by rw [e1, e2]; exact y5 j hj⟩
      have kx : K x1 = F x1 := by rw [k3 x1 (by omega) (by omega)]; exact hH x1 (by omega)
      have by4 : ∀ j, 0 ≤ j → j < x3 + 20 → K 4 j = if j < x3 then F 4 j else fch w x3 (j - x3) := fun j x y => by
        have cb : ∀ j, 32 ≤ fch w x3 j ∧ fch w x3 j < 127 := fun j => fch_bd hp
        rw [k6]
        unfold byR
        by_cases e : j < x3
        · rw [if_neg (by omega), if_neg (by omega), if_neg (by omega), if_neg (by omega), if_neg (by omega), if_pos e, hH 4 (by omega)]
        rw [if_neg e]
        by_cases e5 : x3 + 16 ≤ j
        · rw [if_pos (by omega), pk_byte cb (by omega)]; congr 1; omega
        rw [if_neg (by omega)]
        by_cases e4 : x3 + 12 ≤ j
        · rw [if_pos (by omega), pk_byte cb (by omega)]; congr 1; omega
        rw [if_neg (by omega)]
        by_cases e3 : x3 + 8 ≤ j
        · rw [if_pos (by omega), pk_byte cb (by omega)]; congr 1; omega
        rw [if_neg (by omega)]
        by_cases e2 : x3 + 4 ≤ j
        · rw [if_pos (by omega), pk_byte cb (by omega)]; congr 1; omega
        rw [if_neg (by omega), if_pos (by omega), pk_byte cb (by omega)]; congr 1; omega
      obtain ⟨sT', F', r1, r2, r3, r4, r5, U, r6⟩ := ih d (sT ++ [(0, 0, 5)]) K (x3 + 20) (by omega) (by omega) (by omega) (by omega) ht2 (by rw [kx]; exact h366) k2 k5 (fun j x y z => by
        rw [by4 j x y]
        by_cases e : j < x3
        · rw [if_pos e]; exact hb j x e z
        · rw [if_neg e]
          unfold fch
          rw [if_neg (by omega), show x3 + (j - x3) = j by omega])
      refine ⟨sT', F', ?_, r2, fun a x y z => by rw [r3 a x y z, k3 a y z, hH a (by omega)], r4, r5, [(0, 0, 5)] ++ U, by rw [r6, ← pd_SH_app, List.append_assoc]⟩
      rw [pfL_feeds_b7, if_neg c]
      simp only [pl_l, ho, hG, pd_SH_app]
      rw [pl_i (by omega), i1]
      unfold pfL_feeds_b72
      rw [pl_i (pl_ib0 s4 (by decide)), pl_i (pl_ib0 s4 (by decide)), pl_i (pl_ib0 s4 (by decide)), pl_i (pl_ib0 s4 (by decide)), pl_i (pl_ib0 s4 (by decide))]
      rw [i3 0 (by decide) (by decide), i3 1 (by decide) (by decide), i3 2 (by decide) (by decide), i3 3 (by decide) (by decide), i3 4 (by decide) (by decide)]
      simp only [gx_1, pl_iT, k1, pl_b, pl_l]
      rw [pl_w (by omega)]
      exact r1
theorem f_feeds (hp : pr w) (hl : (w.length : Int) ≤ 568) (ht0 : 366 < x1) (ht : tS (pd_SH sT) F x1 w) (h366 : 366 < F x1 0) (hL : pd_Ly F) (h31 : F 3 1 = 0) (hb0 : aB (F 1 8)) (hb : aB b) (hne : F 1 8 ≠ b) (h21 : F 2 1 = b) (h113 : 0 ≤ F 113 3 ∧ F 113 3 ≤ 16) (hB : Bk np nt na nh c w) :
    ∃ sT' F1 D s, pfL_feeds (pd_SH sT) 5000 F 1 x1 = some (c, pd_SH sT', F1) ∧ cS D s F1 ∧ (∃ R K KR, cH D F1 0 R K KR) ∧ F1 1 9 = 1 ∧ (s 70 = 0 ∧ s 110 = 0) ∧ D 369 0 = np ∧ D 371 0 = na ∧ ∀ p, 0 ≤ p → p < np → 1 ≤ D 375 p := by
  obtain ⟨o1, o2⟩ := s_len (n := 5000) ht (by omega) (by omega)
  obtain ⟨sT', F', r1, r2, r3, r4, r5, -⟩ := f_out hp hl ht0 29 51 sT F 0 (by omega) (by decide) (by decide) (by omega) ht h366 hL h31 (fun j x y => by omega)
  have e1 : F' 1 = F 1 := r3 1 (by decide) (by decide) (by decide)
  have e2 : F' 2 = F 2 := r3 2 (by decide) (by decide) (by decide)
  have e113 : F' 113 = F 113 := r3 113 (by decide) (by decide) (by decide)
  obtain ⟨F1, D, s, b1, b2, b3, b4, b8, b5, b6, b7⟩ := z_book (sT := sT') r2 (by rw [e1]; exact hb0) hb (by rw [e1]; exact hne) (by rw [e2]; exact h21) (by rw [e113]; exact h113) hB r5 (by omega) r4
  refine ⟨sT', F1, D, s, ?_, b2, b3, b4, b8, b5, b6, b7⟩
  unfold pfL_feeds
  rw [pl_i o1, o2]
  simp only [pl_b, pl_l]
  rw [r1]
  unfold pfL_feeds_b103
  simp only [gx_1, pl_iT, b1, pl_b, pl_l]
end FO

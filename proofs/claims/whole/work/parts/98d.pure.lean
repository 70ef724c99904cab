/-! both side by side at one token -/
def jS (F G : pd_F) : Prop := (0 ≤ F 3 2 ∧ F 3 2 ≤ 1000) ∧ jT G (F 4) (F 3 2)
def jK (F G : pd_F) : Prop := F 3 4 = G 367 6 ∧ F 3 5 = G 367 4 ∧ (0 ≤ F 3 5 ∧ F 3 5 ≤ F 3 2) ∧ (F 3 4 ≠ 4 → F 3 3 = G 367 5 ∧ 0 ≤ F 3 3 ∧ F 3 3 ≤ F 3 2) ∧ (F 3 4 = 2 → F 3 7 = G 367 7 ∧ 0 ≤ F 3 7 ∧ F 3 7 ≤ 9999999) ∧ (F 3 4 = 1 → nm (F 3 8) (G 367 8) (F 3 6 - 97))
theorem Tk_K {t : Int → Int} {N i kd pl nx nu wo kd' pl' nx' nu' wo' fi : Int} (hN : N ≤ 1000) (hi : 0 ≤ i ∧ i ≤ N) (h : Tk w8 t N i kd pl nx nu wo) (g : Tk w5 t N i kd' pl' nx' nu' wo') (hf : pl < N → fi = t pl) :
    kd = kd' ∧ pl = pl' ∧ (0 ≤ pl ∧ pl ≤ N) ∧ (kd ≠ 4 → nx = nx' ∧ 0 ≤ nx ∧ nx ≤ N) ∧ (kd = 2 → nu = nu' ∧ 0 ≤ nu ∧ nu ≤ 9999999) ∧ (kd = 1 → nm wo wo' (fi - 97)) := by
  obtain ⟨h1, h2, h3⟩ := h
  obtain ⟨g1, g2, g3⟩ := g
  have hb := En_bd (P := bkB t) hi.2
  rw [← g1] at h1
  subst h1
  rw [← g1] at hb
  by_cases k : pl < N
  · obtain ⟨a1, a2, a3, a4⟩ := h3 k
    obtain ⟨b1, b2, b3, b4⟩ := g3 k
    have hf := hf k
    by_cases zw : 97 ≤ t pl ∧ t pl ≤ 122
    · obtain ⟨x1, x2, x3⟩ := a1 zw
      obtain ⟨y1, y2, y3⟩ := b1 zw
      have eb := En_bd (P := ltB t) (N := N) (i := pl + 1) (by omega)
      have ec := En_bd (P := ltB t) (N := N) (i := pl) (by omega)
      rw [← En_s k (ltB_t.mpr zw), ← x1] at eb
      rw [← x1] at ec
      rw [← x1] at y1
      subst y1
      refine ⟨by rw [x2, y2], rfl, by omega, fun _ => ⟨rfl, by omega, by omega⟩, fun y => ?_, fun y => ?_⟩
      · rw [y] at x2
        split at x2 <;> omega
      · rw [y] at x2
        have e8 : nx' - pl ≤ 8 := by
          split at x2
          · assumption
          · omega
        refine ⟨_, (nx' - pl).toNat, by omega, fun j hj => ?_, x3 e8, y3 e8, ?_⟩
        · have := ltB_t.mp (ec.2.2 (pl + j) (by omega) (by omega))
          show 1 ≤ t (pl + j) - 96 ∧ t (pl + j) - 96 ≤ 26
          omega
        · show fi - 97 = t (pl + ((0 : Nat) : Int)) - 96 - 1
          rw [show pl + ((0 : Nat) : Int) = pl by omega, hf]
          omega
    by_cases zd : 48 ≤ t pl ∧ t pl ≤ 57
    · obtain ⟨x1, x2, x3⟩ := a2 zd
      obtain ⟨y1, y2, y3⟩ := b2 zd
      have ec := En_bd (P := dgB t) (N := N) (i := pl) (by omega)
      rw [← x1] at ec
      rw [← x1] at y1
      subst y1
      refine ⟨by rw [x2, y2], rfl, by omega, fun _ => ⟨rfl, by omega, by omega⟩, fun y => ?_, fun y => ?_⟩
      · rw [y] at x2
        have e8 : nx' - pl ≤ 7 := by
          split at x2
          · assumption
          · omega
        have n := nb_bd (c := fun k => t (pl + k) - 48) (n := (nx' - pl).toNat) (fun j hj => by
          have := dgB_t.mp (ec.2.2 (pl + j) (by omega) (by omega))
          show 0 ≤ t (pl + j) - 48 ∧ t (pl + j) - 48 ≤ 9
          omega)
        have p7 : 10 ^ (nx' - pl).toNat ≤ 10 ^ 7 := Nat.pow_le_pow_right (by decide) (by omega)
        rw [← x3 e8] at n
        exact ⟨by rw [x3 e8, y3 e8], by omega, by omega⟩
      · rw [y] at x2
        split at x2 <;> omega
    by_cases zs : t pl = 59
    · obtain ⟨x1, x2⟩ := a3 zs
      obtain ⟨y1, y2⟩ := b3 zs
      exact ⟨by omega, rfl, by omega, fun _ => by omega, fun y => by omega, fun y => by omega⟩
    · have x1 := a4 zw zd zs
      have y1 := b4 zw zd zs
      exact ⟨by omega, rfl, by omega, fun y => absurd x1 y, fun y => by omega, fun y => by omega⟩
  · obtain ⟨x1, x2⟩ := h2 (by omega)
    obtain ⟨y1, y2⟩ := g2 (by omega)
    exact ⟨by omega, rfl, by omega, fun _ => by omega, fun y => by omega, fun y => by omega⟩
section JA
variable {F G : pd_F} {b : Int}
theorem j_adv (hF : pd_Ly F) (hG : pd_Ly G) (hS : jS F G) (e : F 3 3 = G 367 5 ∧ 0 ≤ F 3 3 ∧ F 3 3 ≤ F 3 2) : ∃ F' G', pfX9_advance pd_SH 5000 F 3 = some F' ∧ pfX12_steps pd_SH 5000 G 367 = some G' ∧ pd_Ly F' ∧ pd_Ly G' ∧ jC F F' ∧ jR G G' ∧ jS F' G' ∧ jK F' G' := by
  obtain ⟨F', a1, a2, a3, a4, a5⟩ := c_advance hF hS.1 e.2
  obtain ⟨G', b1, b2, b3, b4⟩ := r_steps hG hS.2 (by rw [← e.1]; exact e.2)
  rw [← e.1] at b4
  have k := Tk_K hS.1.2 e.2 a4 b4 a5
  have e2 : F' 3 2 = F 3 2 := a3.2 2 (by decide)
  refine ⟨F', G', a1, b1, a2, b2, a3, b3, ⟨by rw [e2]; exact hS.1, ?_⟩, ?_⟩
  · rw [e2, a3.1 4 (by decide)]
    exact ⟨(b3.2 3 (by decide)).trans hS.2.1, hS.2.2.1, fun j x y => by rw [b3.1 368 (by decide)]; exact hS.2.2.2 j x y⟩
  · unfold jK
    rw [e2]
    exact k
/-- side by side within a line: no fault yet -/
def J (b : Int) (F G : pd_F) : Prop := pd_Ly F ∧ pd_Ly G ∧ aB b ∧ F 2 1 = b ∧ jS F G ∧ jK F G ∧ G 367 9 = 0 ∧ G 367 13 = 1
def zC (F F' : pd_F) : Prop := (∀ a, a ≠ 2 → a ≠ 3 → F' a = F a) ∧ (∀ j, j ≠ 2 → F' 2 j = F 2 j) ∧ ∀ j, (j < 3 ∨ 8 < j) → F' 3 j = F 3 j
def zR (G G' : pd_F) : Prop := (∀ a, a ≠ 367 → G' a = G a) ∧ ∀ j, (j < 4 ∨ 11 < j) → j ≠ 38 → G' 367 j = G 367 j
theorem zC.rf (F : pd_F) : zC F F := ⟨fun _ _ _ => rfl, fun _ _ => rfl, fun _ _ => rfl⟩
theorem zR.rf (G : pd_F) : zR G G := ⟨fun _ _ => rfl, fun _ _ _ => rfl⟩
theorem zC.tr {F1 F2 F3 : pd_F} (h : zC F1 F2) (g : zC F2 F3) : zC F1 F3 := ⟨fun a x y => (g.1 a x y).trans (h.1 a x y), fun j x => (g.2.1 j x).trans (h.2.1 j x), fun j x => (g.2.2 j x).trans (h.2.2 j x)⟩
theorem zR.tr {F1 F2 F3 : pd_F} (h : zR F1 F2) (g : zR F2 F3) : zR F1 F3 := ⟨fun a x => (g.1 a x).trans (h.1 a x), fun j x y => (g.2 j x y).trans (h.2 j x y)⟩
theorem jC.z {F F' : pd_F} (h : jC F F') : zC F F' := ⟨fun a _ x => h.1 a x, fun j _ => by rw [h.1 2 (by decide)], h.2⟩
theorem jR.z {F F' : pd_F} (h : jR F F') : zR F F' := ⟨h.1, fun j x _ => h.2 j (by omega)⟩
theorem zR.up {j v : Int} (hj : 9 ≤ j ∧ j ≤ 11 ∨ j = 38) : zR G (pd_up G 367 j v) := ⟨fun a x => pu_a x, fun i x y => by rw [pu_r, if_neg (by omega)]⟩
/-- another heap of the class with the same reader -/
theorem J.c {F' : pd_F} (h : J b F G) (hL : pd_Ly F') (e : ∀ a, a = 2 ∨ a = 3 ∨ a = 4 → F' a = F a) : J b F' G := by
  obtain ⟨h1, h2, h3, h4, h5, h6, h7, h8⟩ := h
  unfold J jS jK
  rw [e 2 (by omega), e 3 (by omega), e 4 (by omega)]
  exact ⟨hL, h2, h3, h4, h5, h6, h7, h8⟩
theorem J.r {G' : pd_F} (h : J b F G) (hL : pd_Ly G') (e : ∀ j, (3 ≤ j ∧ j ≤ 9) ∨ j = 13 → G' 367 j = G 367 j) (e2 : G' 368 = G 368) : J b F G' := by
  obtain ⟨h1, h2, h3, h4, h5, h6, h7, h8⟩ := h
  unfold J jS jK jT
  rw [e 3 (by omega), e 4 (by omega), e 5 (by omega), e 6 (by omega), e 7 (by omega), e 8 (by omega), e 9 (by omega), e 13 (by omega), e2]
  exact ⟨h1, hL, h3, h4, h5, h6, h7, h8⟩
theorem J.up {j v : Int} (h : J b F G) (hj : j = 11 ∨ j = 38) : J b F (pd_up G 367 j v) :=
  h.r (h.2.1.up (pl_rc4 sx_367 (by rcases hj with rfl | rfl <;> decide))) (fun i x => by rw [pu_r, if_neg (by omega)]) (pu_a (by decide))
/-- one token on -/
theorem J.adv (h : J b F G) (h4 : F 3 4 ≠ 4) : ∃ F' G', pfX9_advance pd_SH 5000 F 3 = some F' ∧ pfX12_steps pd_SH 5000 G 367 = some G' ∧ J b F' G' ∧ zC F F' ∧ zR G G' ∧ G' 367 11 = G 367 11 ∧ G' 367 38 = G 367 38 := by
  obtain ⟨h1, h2, h3, h5, h6, h7, h8, h9⟩ := h
  obtain ⟨F', G', a1, a2, a3, a4, a5, a6, a7, a8⟩ := j_adv h1 h2 h6 (h7.2.2.2.1 h4)
  exact ⟨F', G', a1, a2, ⟨a3, a4, h3, by rw [a5.1 2 (by decide)]; exact h5, a7, a8, by rw [a6.2 9 (by decide)]; exact h8, by rw [a6.2 13 (by decide)]; exact h9⟩, a5.z, a6.z, a6.2 11 (by decide), a6.2 38 (by decide)⟩
/-- both have the same fault -/
def jF (F G : pd_F) : Prop := pd_Ly F ∧ pd_Ly G ∧ F 2 2 = 8 * G 367 10 + G 367 9 ∧ (1 ≤ G 367 9 ∧ G 367 9 ≤ 5) ∧ 0 ≤ G 367 10 ∧ G 367 10 ≤ 1000
theorem j_fail (h : J b F G) {k : Int} (hk : 1 ≤ k ∧ k ≤ 5) : ∃ F' G', pfX6_fail pd_SH 5000 F 2 k = some (0, F') ∧ pfX12_must pd_SH 5000 G 367 0 k = some (0, G') ∧ jF F' G' ∧ zC F F' ∧ zR G G' := by
  obtain ⟨h1, h2, h3, h5, h6, h7, h8, h9⟩ := h
  have hp := h7.2.2.1
  have hN := h6.1
  have e := h7.2.1
  have g1 : pd_Ly (pd_up F 2 2 (8 * F 3 5 + k)) := h1.up (pl_rc4 sx_2 (by decide))
  have g2 : pd_Ly (pd_up (pd_up G 367 9 k) 367 10 (G 367 4)) := (h2.up (pl_rc4 sx_367 (by decide))).up (pl_rc4 sx_367 (by decide))
  have r9 : pd_up (pd_up G 367 9 k) 367 10 (G 367 4) 367 9 = k := by rw [pu_r, if_neg (by decide), pu_r, if_pos rfl]
  have r10 : pd_up (pd_up G 367 9 k) 367 10 (G 367 4) 367 10 = G 367 4 := by rw [pu_r, if_pos rfl]
  refine ⟨_, _, ?_, ?_, ⟨g1, g2, ?_, by rw [r9]; exact hk, by rw [r10]; omega⟩, ⟨fun a x y => pu_a x, fun j x => by rw [pu_r, if_neg x], fun j x => by rw [pu_a (by decide)]⟩, (zR.up (by decide)).tr (zR.up (by decide))⟩
  · unfold pfX6_fail
    simp only [pl_l, pl_b, pl_iT, pl_t, pl_f, gx_1, gx_2, gx_3, gx_4, gx_113, gx_114, gx_115, gx_116, gx_212, gx_213, gx_224, gn_4, gn_114, gn_115, gn_116, gn_213, gn_224, lx_1_0 h1, lx_1_1 h1, lx_1_2 h1, lx_1_3 h1, lx_1_4 h1, lx_1_5 h1, lx_1_6 h1, lx_1_7 h1, lx_2_0 h1, lx_3_0 h1, lx_113_0 h1, lx_113_1 h1, lx_113_2 h1, lx_212_0 h1, lx_212_1 h1]
    rw [pl_w (x := 8 * F 3 5) (by omega), pl_w (by omega)]
  · have e4 : pd_up G 367 9 k 367 4 = G 367 4 := by rw [pu_r, if_neg (by decide)]
    unfold pfX12_must pfX12_must_b24
    simp only [pl_l, pl_b, pl_iT, pl_t, pl_f, gx_367, gx_368, gx_369, gx_370, gx_371, gx_372, gx_373, gx_374, gx_375, gx_376, gx_377, gx_378, gx_379, gx_380, gx_381, gx_382, gx_383, gx_384, gx_385, gx_386, gx_387, gx_388, gx_389, gx_390, gx_391, gx_392, gx_393, gx_394, gx_395, gx_396, gx_397, gx_398, gx_399, gx_400, gx_401, gx_402, gx_403, gn_368, gn_369, gn_370, gn_371, gn_372, gn_373, gn_374, gn_375, gn_376, gn_377, gn_378, gn_379, gn_380, gn_381, gn_382, gn_383, gn_384, gn_385, gn_386, gn_387, gn_388, gn_389, gn_390, gn_391, gn_392, gn_393, gn_394, gn_395, gn_396, gn_397, gn_398, gn_399, gn_400, gn_401, gn_402, gn_403, h8, e4, r9]
    rw [if_neg (by decide), if_neg (by decide), if_pos (by omega)]
  · rw [r9, r10, pu_r, if_pos rfl, e]
theorem j_must (h : J b F G) {v k : Int} (hv : v ≠ 0) : pfX12_must pd_SH 5000 G 367 v k = some (1, G) := by
  have h8 := h.2.2.2.2.2.2.1
  unfold pfX12_must pfX12_must_b24
  simp only [pl_l, pl_b, pl_iT, pl_t, pl_f, gx_367, gx_368, gx_369, gx_370, gx_371, gx_372, gx_373, gx_374, gx_375, gx_376, gx_377, gx_378, gx_379, gx_380, gx_381, gx_382, gx_383, gx_384, gx_385, gx_386, gx_387, gx_388, gx_389, gx_390, gx_391, gx_392, gx_393, gx_394, gx_395, gx_396, gx_397, gx_398, gx_399, gx_400, gx_401, gx_402, gx_403, gn_368, gn_369, gn_370, gn_371, gn_372, gn_373, gn_374, gn_375, gn_376, gn_377, gn_378, gn_379, gn_380, gn_381, gn_382, gn_383, gn_384, gn_385, gn_386, gn_387, gn_388, gn_389, gn_390, gn_391, gn_392, gn_393, gn_394, gn_395, gn_396, gn_397, gn_398, gn_399, gn_400, gn_401, gn_402, gn_403, h8]
  rw [if_neg (by decide), if_pos hv, if_neg (by decide)]
/-! words told -/
theorem r_spelled {F : pd_F} {x0 : Int} {n : Nat} {c : Nat → Int} (hn : n ≤ 8) (hl : pd_slen x0 = n) (hc : ∀ k, k < n → pd_sch x0 k = c k + 96) (hb : ∀ k, k < n → 1 ≤ c k ∧ c k ≤ 26) : pfX12_spelled pd_SH 5000 F x0 = some (w5 c n, F) := by
  unfold pfX12_spelled
  refine pl_for (f := fun j (q : Int) i => pfX12_spelled_b4 pd_SH 5000 j F x0 q i) (P := fun i q => q = w5 c i.toNat) (N := (n : Int)) (res := fun o => o = some (w5 c n, F)) ?_ ?_ 5000 0 0 (by omega) (by omega) (by omega) rfl
  · intro k q i a0 b0 hq
    obtain ⟨m, rfl⟩ := Int.eq_ofNat_of_zero_le a0
    have hm : m < n := by omega
    have w := w5_bd (c := c) (n := m) (fun k hk => hb k (by omega))
    have p5 : 2 ^ (5 * m) ≤ 2 ^ 40 := Nat.pow_le_pow_right (by decide) (by omega)
    have cm := hb m hm
    rw [Int.toNat_natCast] at hq
    refine Or.inl ⟨w5 c m * 32 + c m, ?_, ?_⟩
    · show w5 c m * 32 + c m = w5 c ((m : Int) + 1).toNat
      rw [show ((m : Int) + 1).toNat = m + 1 by omega]
      rfl
    · show pfX12_spelled_b4 pd_SH 5000 (k + 1) F x0 q m = _
      subst hq
      simp only [pfX12_spelled_b4, pl_l, pl_b, pl_iT, pl_t, pl_f, hl, hc m hm]
      rw [pl_i (by omega), if_neg (by omega), pl_i (by omega), show c m + 96 - 96 = c m by omega, pl_W (by omega), pl_sh5 (by omega) (by omega), pl_w (by omega)]
  · intro k q hq
    show pfX12_spelled_b4 pd_SH 5000 (k + 1) F x0 q n = _
    rw [Int.toNat_natCast] at hq
    subst hq
    simp only [pfX12_spelled_b4, pl_l, pl_b, pl_iT, pl_t, pl_f, hl]
    rw [pl_i (by omega), if_pos (by omega)]
theorem nm_person : nm 123581014175598 542723566 15 := ⟨fun k => ([16, 5, 18, 19, 15, 14] : List Int).getD k 1, 6, by decide, by decide +kernel, by decide +kernel, by decide +kernel, by decide +kernel⟩
theorem sp_person {F : pd_F} : pfX12_spelled pd_SH 5000 F (-4) = some (542723566, F) := by
  have h := r_spelled (F := F) (x0 := -4) (n := 6) (c := fun k => ([16, 5, 18, 19, 15, 14] : List Int).getD k 1) (by decide) (by decide +kernel) (by decide +kernel) (by decide +kernel)
  rw [show w5 (fun k => ([16, 5, 18, 19, 15, 14] : List Int).getD k 1) 6 = 542723566 by decide +kernel] at h
  exact h
theorem nm_insider : nm 29676314523100530 10153660594 8 := ⟨fun k => ([9, 14, 19, 9, 4, 5, 18] : List Int).getD k 1, 7, by decide, by decide +kernel, by decide +kernel, by decide +kernel, by decide +kernel⟩
theorem sp_insider {F : pd_F} : pfX12_spelled pd_SH 5000 F (-12) = some (10153660594, F) := by
  have h := r_spelled (F := F) (x0 := -12) (n := 7) (c := fun k => ([9, 14, 19, 9, 4, 5, 18] : List Int).getD k 1) (by decide) (by decide +kernel) (by decide +kernel) (by decide +kernel)
  rw [show w5 (fun k => ([9, 14, 19, 9, 4, 5, 18] : List Int).getD k 1) 7 = 10153660594 by decide +kernel] at h
  exact h
theorem nm_trust : nm 500136506228 21583476 19 := ⟨fun k => ([20, 18, 21, 19, 20] : List Int).getD k 1, 5, by decide, by decide +kernel, by decide +kernel, by decide +kernel, by decide +kernel⟩
theorem sp_trust {F : pd_F} : pfX12_spelled pd_SH 5000 F (-5) = some (21583476, F) := by
  have h := r_spelled (F := F) (x0 := -5) (n := 5) (c := fun k => ([20, 18, 21, 19, 20] : List Int).getD k 1) (by decide) (by decide +kernel) (by decide +kernel) (by decide +kernel)
  rw [show w5 (fun k => ([20, 18, 21, 19, 20] : List Int).getD k 1) 5 = 21583476 by decide +kernel] at h
  exact h
theorem nm_account : nm 27412351463812724 1178064340 0 := ⟨fun k => ([1, 3, 3, 15, 21, 14, 20] : List Int).getD k 1, 7, by decide, by decide +kernel, by decide +kernel, by decide +kernel, by decide +kernel⟩
theorem sp_account {F : pd_F} : pfX12_spelled pd_SH 5000 F (-6) = some (1178064340, F) := by
  have h := r_spelled (F := F) (x0 := -6) (n := 7) (c := fun k => ([1, 3, 3, 15, 21, 14, 20] : List Int).getD k 1) (by decide) (by decide +kernel) (by decide +kernel) (by decide +kernel)
  rw [show w5 (fun k => ([1, 3, 3, 15, 21, 14, 20] : List Int).getD k 1) 7 = 1178064340 by decide +kernel] at h
  exact h
theorem nm_balance : nm 27691665836630885 2193668197 1 := ⟨fun k => ([2, 1, 12, 1, 14, 3, 5] : List Int).getD k 1, 7, by decide, by decide +kernel, by decide +kernel, by decide +kernel, by decide +kernel⟩
theorem sp_balance {F : pd_F} : pfX12_spelled pd_SH 5000 F (-13) = some (2193668197, F) := by
  have h := r_spelled (F := F) (x0 := -13) (n := 7) (c := fun k => ([2, 1, 12, 1, 14, 3, 5] : List Int).getD k 1) (by decide) (by decide +kernel) (by decide +kernel) (by decide +kernel)
  rw [show w5 (fun k => ([2, 1, 12, 1, 14, 3, 5] : List Int).getD k 1) 7 = 2193668197 by decide +kernel] at h
  exact h
theorem nm_high : nm 1751738216 271592 7 := ⟨fun k => ([8, 9, 7, 8] : List Int).getD k 1, 4, by decide, by decide +kernel, by decide +kernel, by decide +kernel, by decide +kernel⟩
theorem sp_high {F : pd_F} : pfX12_spelled pd_SH 5000 F (-7) = some (271592, F) := by
  have h := r_spelled (F := F) (x0 := -7) (n := 4) (c := fun k => ([8, 9, 7, 8] : List Int).getD k 1) (by decide) (by decide +kernel) (by decide +kernel) (by decide +kernel)
  rw [show w5 (fun k => ([8, 9, 7, 8] : List Int).getD k 1) 4 = 271592 by decide +kernel] at h
  exact h
theorem nm_from : nm 1718775661 215533 5 := ⟨fun k => ([6, 18, 15, 13] : List Int).getD k 1, 4, by decide, by decide +kernel, by decide +kernel, by decide +kernel, by decide +kernel⟩
theorem sp_from {F : pd_F} : pfX12_spelled pd_SH 5000 F (-14) = some (215533, F) := by
  have h := r_spelled (F := F) (x0 := -14) (n := 4) (c := fun k => ([6, 18, 15, 13] : List Int).getD k 1) (by decide) (by decide +kernel) (by decide +kernel) (by decide +kernel)
  rw [show w5 (fun k => ([6, 18, 15, 13] : List Int).getD k 1) 4 = 215533 by decide +kernel] at h
  exact h
theorem nm_to : nm 29807 655 19 := ⟨fun k => ([20, 15] : List Int).getD k 1, 2, by decide, by decide +kernel, by decide +kernel, by decide +kernel, by decide +kernel⟩
theorem sp_to {F : pd_F} : pfX12_spelled pd_SH 5000 F (-15) = some (655, F) := by
  have h := r_spelled (F := F) (x0 := -15) (n := 2) (c := fun k => ([20, 15] : List Int).getD k 1) (by decide) (by decide +kernel) (by decide +kernel) (by decide +kernel)
  rw [show w5 (fun k => ([20, 15] : List Int).getD k 1) 2 = 655 by decide +kernel] at h
  exact h
theorem nm_loan : nm 1819238766 408622 11 := ⟨fun k => ([12, 15, 1, 14] : List Int).getD k 1, 4, by decide, by decide +kernel, by decide +kernel, by decide +kernel, by decide +kernel⟩
theorem sp_loan {F : pd_F} : pfX12_spelled pd_SH 5000 F (-8) = some (408622, F) := by
  have h := r_spelled (F := F) (x0 := -8) (n := 4) (c := fun k => ([12, 15, 1, 14] : List Int).getD k 1) (by decide) (by decide +kernel) (by decide +kernel) (by decide +kernel)
  rw [show w5 (fun k => ([12, 15, 1, 14] : List Int).getD k 1) 4 = 408622 by decide +kernel] at h
  exact h
theorem nm_due : nm 6583653 4773 3 := ⟨fun k => ([4, 21, 5] : List Int).getD k 1, 3, by decide, by decide +kernel, by decide +kernel, by decide +kernel, by decide +kernel⟩
theorem sp_due {F : pd_F} : pfX12_spelled pd_SH 5000 F (-16) = some (4773, F) := by
  have h := r_spelled (F := F) (x0 := -16) (n := 3) (c := fun k => ([4, 21, 5] : List Int).getD k 1) (by decide) (by decide +kernel) (by decide +kernel) (by decide +kernel)
  rw [show w5 (fun k => ([4, 21, 5] : List Int).getD k 1) 3 = 4773 by decide +kernel] at h
  exact h
theorem nm_cover : nm 427071792498 3659954 2 := ⟨fun k => ([3, 15, 22, 5, 18] : List Int).getD k 1, 5, by decide, by decide +kernel, by decide +kernel, by decide +kernel, by decide +kernel⟩
theorem sp_cover {F : pd_F} : pfX12_spelled pd_SH 5000 F (-10) = some (3659954, F) := by
  have h := r_spelled (F := F) (x0 := -10) (n := 5) (c := fun k => ([3, 15, 22, 5, 18] : List Int).getD k 1) (by decide) (by decide +kernel) (by decide +kernel) (by decide +kernel)
  rw [show w5 (fun k => ([3, 15, 22, 5, 18] : List Int).getD k 1) 5 = 3659954 by decide +kernel] at h
  exact h
theorem nm_raise : nm 491260572517 18916965 17 := ⟨fun k => ([18, 1, 9, 19, 5] : List Int).getD k 1, 5, by decide, by decide +kernel, by decide +kernel, by decide +kernel, by decide +kernel⟩
theorem sp_raise {F : pd_F} : pfX12_spelled pd_SH 5000 F (-11) = some (18916965, F) := by
  have h := r_spelled (F := F) (x0 := -11) (n := 5) (c := fun k => ([18, 1, 9, 19, 5] : List Int).getD k 1) (by decide) (by decide +kernel) (by decide +kernel) (by decide +kernel)
  rw [show w5 (fun k => ([18, 1, 9, 19, 5] : List Int).getD k 1) 5 = 18916965 by decide +kernel] at h
  exact h
theorem nm_closed : nm 109317377451364 113757348 2 := ⟨fun k => ([3, 12, 15, 19, 5, 4] : List Int).getD k 1, 6, by decide, by decide +kernel, by decide +kernel, by decide +kernel, by decide +kernel⟩
theorem sp_closed {F : pd_F} : pfX12_spelled pd_SH 5000 F (-9) = some (113757348, F) := by
  have h := r_spelled (F := F) (x0 := -9) (n := 6) (c := fun k => ([3, 12, 15, 19, 5, 4] : List Int).getD k 1) (by decide) (by decide +kernel) (by decide +kernel) (by decide +kernel)
  rw [show w5 (fun k => ([3, 12, 15, 19, 5, 4] : List Int).getD k 1) 6 = 113757348 by decide +kernel] at h
  exact h
/-- at the word W -/
def jW (G : pd_F) (W : Int) : Prop := G 367 6 = 1 ∧ G 367 8 = W
theorem r_is {x0 W : Int} (hs : ∀ F : pd_F, pfX12_spelled pd_SH 5000 F x0 = some (W, F)) : pfX12_is pd_SH 5000 G 367 x0 = some (ci (jW G W) 1 0, G) := by
  unfold pfX12_is
  simp only [pl_l, pl_b, pl_iT, pl_t, pl_f, gx_367, gx_368, gx_369, gx_370, gx_371, gx_372, gx_373, gx_374, gx_375, gx_376, gx_377, gx_378, gx_379, gx_380, gx_381, gx_382, gx_383, gx_384, gx_385, gx_386, gx_387, gx_388, gx_389, gx_390, gx_391, gx_392, gx_393, gx_394, gx_395, gx_396, gx_397, gx_398, gx_399, gx_400, gx_401, gx_402, gx_403, gn_368, gn_369, gn_370, gn_371, gn_372, gn_373, gn_374, gn_375, gn_376, gn_377, gn_378, gn_379, gn_380, gn_381, gn_382, gn_383, gn_384, gn_385, gn_386, gn_387, gn_388, gn_389, gn_390, gn_391, gn_392, gn_393, gn_394, gn_395, gn_396, gn_397, gn_398, gn_399, gn_400, gn_401, gn_402, gn_403, hs]
  by_cases k : G 367 6 = 1
  · rw [if_neg (fun e => e k)]
    by_cases z : G 367 8 = W
    · rw [if_neg (fun e => e z), ci_t ⟨k, z⟩]
    · rw [if_pos z, ci_f (fun e => z e.2)]
  · rw [if_pos k, ci_f (fun e => k e.1)]
theorem c_at (hL : pd_Ly F) {w : Int} : pfX6_at pd_SH 5000 F 2 w = some (ci (F 3 4 = 1 ∧ F 3 8 = w) 1 0, F) := by
  unfold pfX6_at
  simp only [pl_l, pl_b, pl_iT, pl_t, pl_f, gx_1, gx_2, gx_3, gx_4, gx_113, gx_114, gx_115, gx_116, gx_212, gx_213, gx_224, gn_4, gn_114, gn_115, gn_116, gn_213, gn_224, lx_1_0 hL, lx_1_1 hL, lx_1_2 hL, lx_1_3 hL, lx_1_4 hL, lx_1_5 hL, lx_1_6 hL, lx_1_7 hL, lx_2_0 hL, lx_3_0 hL, lx_113_0 hL, lx_113_1 hL, lx_113_2 hL, lx_212_0 hL, lx_212_1 hL]
  by_cases k : F 3 4 = 1
  · rw [if_neg (fun e => e k)]
    by_cases z : F 3 8 = w
    · rw [if_neg (fun e => e z), ci_t ⟨k, z⟩]
    · rw [if_pos z, ci_f (fun e => z e.2)]
  · rw [if_pos k, ci_f (fun e => k e.1)]
theorem J.w (h : J b F G) {w W f : Int} (hn : nm w W f) : (F 3 4 = 1 ∧ F 3 8 = w) ↔ jW G W := by
  have k := h.2.2.2.2.2.1
  unfold jW
  rw [← k.1]
  constructor
  · rintro ⟨a, c⟩
    exact ⟨a, (nm_eq (k.2.2.2.2.2 a) hn).mp c⟩
  · rintro ⟨a, c⟩
    exact ⟨a, (nm_eq (k.2.2.2.2.2 a) hn).mpr c⟩
theorem J.at (h : J b F G) {w W f : Int} (hn : nm w W f) : pfX6_at pd_SH 5000 F 2 w = some (ci (jW G W) 1 0, F) := by rw [c_at h.1, ci_c (h.w hn)]
theorem is_person : pfX12_is pd_SH 5000 G 367 (-4) = some (ci (jW G 542723566) 1 0, G) := r_is (fun F => sp_person)
theorem is_insider : pfX12_is pd_SH 5000 G 367 (-12) = some (ci (jW G 10153660594) 1 0, G) := r_is (fun F => sp_insider)
theorem is_trust : pfX12_is pd_SH 5000 G 367 (-5) = some (ci (jW G 21583476) 1 0, G) := r_is (fun F => sp_trust)
theorem is_account : pfX12_is pd_SH 5000 G 367 (-6) = some (ci (jW G 1178064340) 1 0, G) := r_is (fun F => sp_account)
theorem is_balance : pfX12_is pd_SH 5000 G 367 (-13) = some (ci (jW G 2193668197) 1 0, G) := r_is (fun F => sp_balance)
theorem is_high : pfX12_is pd_SH 5000 G 367 (-7) = some (ci (jW G 271592) 1 0, G) := r_is (fun F => sp_high)
theorem is_from : pfX12_is pd_SH 5000 G 367 (-14) = some (ci (jW G 215533) 1 0, G) := r_is (fun F => sp_from)
theorem is_to : pfX12_is pd_SH 5000 G 367 (-15) = some (ci (jW G 655) 1 0, G) := r_is (fun F => sp_to)
theorem is_loan : pfX12_is pd_SH 5000 G 367 (-8) = some (ci (jW G 408622) 1 0, G) := r_is (fun F => sp_loan)
theorem is_due : pfX12_is pd_SH 5000 G 367 (-16) = some (ci (jW G 4773) 1 0, G) := r_is (fun F => sp_due)
theorem is_cover : pfX12_is pd_SH 5000 G 367 (-10) = some (ci (jW G 3659954) 1 0, G) := r_is (fun F => sp_cover)
theorem is_raise : pfX12_is pd_SH 5000 G 367 (-11) = some (ci (jW G 18916965) 1 0, G) := r_is (fun F => sp_raise)
theorem is_closed : pfX12_is pd_SH 5000 G 367 (-9) = some (ci (jW G 113757348) 1 0, G) := r_is (fun F => sp_closed)
def Kw5 (x : Int) : Prop := x = 542723566 ∨ x = 10153660594 ∨ x = 21583476 ∨ x = 1178064340 ∨ x = 2193668197 ∨ x = 271592 ∨ x = 215533 ∨ x = 655 ∨ x = 408622 ∨ x = 4773 ∨ x = 3659954 ∨ x = 18916965 ∨ x = 113757348
def Kw8 (x : Int) : Prop := x = 123581014175598 ∨ x = 29676314523100530 ∨ x = 500136506228 ∨ x = 27412351463812724 ∨ x = 27691665836630885 ∨ x = 1751738216 ∨ x = 1718775661 ∨ x = 29807 ∨ x = 1819238766 ∨ x = 6583653 ∨ x = 427071792498 ∨ x = 491260572517 ∨ x = 109317377451364
theorem r_isOwn (h : G 367 6 = 1) : pfX12_isOwn pd_SH 5000 G 367 = some (ci (Kw5 (G 367 8)) 1 0, G) := by
  have e : ∀ W, ci (jW G W) (1 : Int) 0 = ci (G 367 8 = W) 1 0 := fun W => ci_c ⟨fun x => x.2, fun x => ⟨h, x⟩⟩
  unfold pfX12_isOwn
  simp only [pl_l, pl_b, pl_iT, pl_t, pl_f, gx_367, gx_368, gx_369, gx_370, gx_371, gx_372, gx_373, gx_374, gx_375, gx_376, gx_377, gx_378, gx_379, gx_380, gx_381, gx_382, gx_383, gx_384, gx_385, gx_386, gx_387, gx_388, gx_389, gx_390, gx_391, gx_392, gx_393, gx_394, gx_395, gx_396, gx_397, gx_398, gx_399, gx_400, gx_401, gx_402, gx_403, gn_368, gn_369, gn_370, gn_371, gn_372, gn_373, gn_374, gn_375, gn_376, gn_377, gn_378, gn_379, gn_380, gn_381, gn_382, gn_383, gn_384, gn_385, gn_386, gn_387, gn_388, gn_389, gn_390, gn_391, gn_392, gn_393, gn_394, gn_395, gn_396, gn_397, gn_398, gn_399, gn_400, gn_401, gn_402, gn_403, is_person, is_insider, is_trust, is_account, is_balance, is_high, is_from, is_to, is_loan, is_due, is_cover, is_raise, is_closed, e]
  generalize G 367 8 = x
  by_cases h0 : x = 542723566
  · rw [ci_t h0]
    exact congrArg some (congrArg (fun v => (v, G)) (ci_t (p := Kw5 x) (Or.inl h0)).symm)
  by_cases h1 : x = 10153660594
  · rw [ci_f h0, ci_t h1]
    exact congrArg some (congrArg (fun v => (v, G)) (ci_t (p := Kw5 x) (Or.inr (Or.inl h1))).symm)
  by_cases h2 : x = 21583476
  · rw [ci_f h0, ci_f h1, ci_t h2]
    exact congrArg some (congrArg (fun v => (v, G)) (ci_t (p := Kw5 x) (Or.inr (Or.inr (Or.inl h2)))).symm)
  by_cases h3 : x = 1178064340
  · rw [ci_f h0, ci_f h1, ci_f h2, ci_t h3]
    exact congrArg some (congrArg (fun v => (v, G)) (ci_t (p := Kw5 x) (Or.inr (Or.inr (Or.inr (Or.inl h3))))).symm)
  by_cases h4 : x = 2193668197
  · rw [ci_f h0, ci_f h1, ci_f h2, ci_f h3, ci_t h4]
    exact congrArg some (congrArg (fun v => (v, G)) (ci_t (p := Kw5 x) (Or.inr (Or.inr (Or.inr (Or.inr (Or.inl h4)))))).symm)
  by_cases h5 : x = 271592
  · rw [ci_f h0, ci_f h1, ci_f h2, ci_f h3, ci_f h4, ci_t h5]
    exact congrArg some (congrArg (fun v => (v, G)) (ci_t (p := Kw5 x) (Or.inr (Or.inr (Or.inr (Or.inr (Or.inr (Or.inl h5))))))).symm)
  by_cases h6 : x = 215533
  · rw [ci_f h0, ci_f h1, ci_f h2, ci_f h3, ci_f h4, ci_f h5, ci_t h6]
    exact congrArg some (congrArg (fun v => (v, G)) (ci_t (p := Kw5 x) (Or.inr (Or.inr (Or.inr (Or.inr (Or.inr (Or.inr (Or.inl h6)))))))).symm)
  by_cases h7 : x = 655
  · rw [ci_f h0, ci_f h1, ci_f h2, ci_f h3, ci_f h4, ci_f h5, ci_f h6, ci_t h7]
    exact congrArg some (congrArg (fun v => (v, G)) (ci_t (p := Kw5 x) (Or.inr (Or.inr (Or.inr (Or.inr (Or.inr (Or.inr (Or.inr (Or.inl h7))))))))).symm)
  by_cases h8 : x = 408622
  · rw [ci_f h0, ci_f h1, ci_f h2, ci_f h3, ci_f h4, ci_f h5, ci_f h6, ci_f h7, ci_t h8]
    exact congrArg some (congrArg (fun v => (v, G)) (ci_t (p := Kw5 x) (Or.inr (Or.inr (Or.inr (Or.inr (Or.inr (Or.inr (Or.inr (Or.inr (Or.inl h8)))))))))).symm)
  by_cases h9 : x = 4773
  · rw [ci_f h0, ci_f h1, ci_f h2, ci_f h3, ci_f h4, ci_f h5, ci_f h6, ci_f h7, ci_f h8, ci_t h9]
    exact congrArg some (congrArg (fun v => (v, G)) (ci_t (p := Kw5 x) (Or.inr (Or.inr (Or.inr (Or.inr (Or.inr (Or.inr (Or.inr (Or.inr (Or.inr (Or.inl h9))))))))))).symm)
  by_cases h10 : x = 3659954
  · rw [ci_f h0, ci_f h1, ci_f h2, ci_f h3, ci_f h4, ci_f h5, ci_f h6, ci_f h7, ci_f h8, ci_f h9, ci_t h10]
    exact congrArg some (congrArg (fun v => (v, G)) (ci_t (p := Kw5 x) (Or.inr (Or.inr (Or.inr (Or.inr (Or.inr (Or.inr (Or.inr (Or.inr (Or.inr (Or.inr (Or.inl h10)))))))))))).symm)
  by_cases h11 : x = 18916965
  · rw [ci_f h0, ci_f h1, ci_f h2, ci_f h3, ci_f h4, ci_f h5, ci_f h6, ci_f h7, ci_f h8, ci_f h9, ci_f h10, ci_t h11]
    exact congrArg some (congrArg (fun v => (v, G)) (ci_t (p := Kw5 x) (Or.inr (Or.inr (Or.inr (Or.inr (Or.inr (Or.inr (Or.inr (Or.inr (Or.inr (Or.inr (Or.inr (Or.inl h11))))))))))))).symm)
  by_cases h12 : x = 113757348
  · rw [ci_f h0, ci_f h1, ci_f h2, ci_f h3, ci_f h4, ci_f h5, ci_f h6, ci_f h7, ci_f h8, ci_f h9, ci_f h10, ci_f h11, ci_t h12]
    exact congrArg some (congrArg (fun v => (v, G)) (ci_t (p := Kw5 x) (Or.inr (Or.inr (Or.inr (Or.inr (Or.inr (Or.inr (Or.inr (Or.inr (Or.inr (Or.inr (Or.inr (Or.inr h12))))))))))))).symm)
  rw [ci_f h0, ci_f h1, ci_f h2, ci_f h3, ci_f h4, ci_f h5, ci_f h6, ci_f h7, ci_f h8, ci_f h9, ci_f h10, ci_f h11, ci_f h12]
  exact congrArg some (congrArg (fun v => (v, G)) (ci_f (p := Kw5 x) (fun z => by unfold Kw5 at z; omega)).symm)
theorem c_isTaken {x : Int} : pfX6_isTaken pd_SH 5000 F x = some (ci (Kw8 x) 1 0, F) := by
  unfold pfX6_isTaken
  by_cases h0 : x = 123581014175598
  · rw [if_pos h0]
    exact congrArg some (congrArg (fun v => (v, F)) (ci_t (p := Kw8 x) (Or.inl h0)).symm)
  rw [if_neg h0]
  by_cases h1 : x = 29676314523100530
  · rw [if_pos h1]
    exact congrArg some (congrArg (fun v => (v, F)) (ci_t (p := Kw8 x) (Or.inr (Or.inl h1))).symm)
  rw [if_neg h1]
  by_cases h2 : x = 500136506228
  · rw [if_pos h2]
    exact congrArg some (congrArg (fun v => (v, F)) (ci_t (p := Kw8 x) (Or.inr (Or.inr (Or.inl h2)))).symm)
  rw [if_neg h2]
  by_cases h3 : x = 27412351463812724
  · rw [if_pos h3]
    exact congrArg some (congrArg (fun v => (v, F)) (ci_t (p := Kw8 x) (Or.inr (Or.inr (Or.inr (Or.inl h3))))).symm)
  rw [if_neg h3]
  by_cases h4 : x = 27691665836630885
  · rw [if_pos h4]
    exact congrArg some (congrArg (fun v => (v, F)) (ci_t (p := Kw8 x) (Or.inr (Or.inr (Or.inr (Or.inr (Or.inl h4)))))).symm)
  rw [if_neg h4]
  by_cases h5 : x = 1751738216
  · rw [if_pos h5]
    exact congrArg some (congrArg (fun v => (v, F)) (ci_t (p := Kw8 x) (Or.inr (Or.inr (Or.inr (Or.inr (Or.inr (Or.inl h5))))))).symm)
  rw [if_neg h5]
  by_cases h6 : x = 1718775661
  · rw [if_pos h6]
    exact congrArg some (congrArg (fun v => (v, F)) (ci_t (p := Kw8 x) (Or.inr (Or.inr (Or.inr (Or.inr (Or.inr (Or.inr (Or.inl h6)))))))).symm)
  rw [if_neg h6]
  by_cases h7 : x = 29807
  · rw [if_pos h7]
    exact congrArg some (congrArg (fun v => (v, F)) (ci_t (p := Kw8 x) (Or.inr (Or.inr (Or.inr (Or.inr (Or.inr (Or.inr (Or.inr (Or.inl h7))))))))).symm)
  rw [if_neg h7]
  by_cases h8 : x = 1819238766
  · rw [if_pos h8]
    exact congrArg some (congrArg (fun v => (v, F)) (ci_t (p := Kw8 x) (Or.inr (Or.inr (Or.inr (Or.inr (Or.inr (Or.inr (Or.inr (Or.inr (Or.inl h8)))))))))).symm)
  rw [if_neg h8]
  by_cases h9 : x = 6583653
  · rw [if_pos h9]
    exact congrArg some (congrArg (fun v => (v, F)) (ci_t (p := Kw8 x) (Or.inr (Or.inr (Or.inr (Or.inr (Or.inr (Or.inr (Or.inr (Or.inr (Or.inr (Or.inl h9))))))))))).symm)
  rw [if_neg h9]
  by_cases h10 : x = 427071792498
  · rw [if_pos h10]
    exact congrArg some (congrArg (fun v => (v, F)) (ci_t (p := Kw8 x) (Or.inr (Or.inr (Or.inr (Or.inr (Or.inr (Or.inr (Or.inr (Or.inr (Or.inr (Or.inr (Or.inl h10)))))))))))).symm)
  rw [if_neg h10]
  by_cases h11 : x = 491260572517
  · rw [if_pos h11]
    exact congrArg some (congrArg (fun v => (v, F)) (ci_t (p := Kw8 x) (Or.inr (Or.inr (Or.inr (Or.inr (Or.inr (Or.inr (Or.inr (Or.inr (Or.inr (Or.inr (Or.inr (Or.inl h11))))))))))))).symm)
  rw [if_neg h11]
  by_cases h12 : x = 109317377451364
  · rw [if_neg (fun e => e h12)]
    exact congrArg some (congrArg (fun v => (v, F)) (ci_t (p := Kw8 x) (Or.inr (Or.inr (Or.inr (Or.inr (Or.inr (Or.inr (Or.inr (Or.inr (Or.inr (Or.inr (Or.inr (Or.inr h12))))))))))))).symm)
  rw [if_pos h12]
  exact congrArg some (congrArg (fun v => (v, F)) (ci_f (p := Kw8 x) (fun z => by unfold Kw8 at z; omega)).symm)
/-- at a name -/
def jN (G : pd_F) : Prop := G 367 6 = 1 ∧ ¬ Kw5 (G 367 8)
theorem r_isName : pfX12_isName pd_SH 5000 G 367 = some (ci (jN G) 1 0, G) := by
  unfold pfX12_isName
  simp only [pl_l, pl_b, pl_iT, pl_t, pl_f, gx_367, gx_368, gx_369, gx_370, gx_371, gx_372, gx_373, gx_374, gx_375, gx_376, gx_377, gx_378, gx_379, gx_380, gx_381, gx_382, gx_383, gx_384, gx_385, gx_386, gx_387, gx_388, gx_389, gx_390, gx_391, gx_392, gx_393, gx_394, gx_395, gx_396, gx_397, gx_398, gx_399, gx_400, gx_401, gx_402, gx_403, gn_368, gn_369, gn_370, gn_371, gn_372, gn_373, gn_374, gn_375, gn_376, gn_377, gn_378, gn_379, gn_380, gn_381, gn_382, gn_383, gn_384, gn_385, gn_386, gn_387, gn_388, gn_389, gn_390, gn_391, gn_392, gn_393, gn_394, gn_395, gn_396, gn_397, gn_398, gn_399, gn_400, gn_401, gn_402, gn_403]
  by_cases k : G 367 6 = 1
  · rw [if_neg (fun e => e k)]
    simp only [r_isOwn k, pl_l, pl_b, pl_iT, pl_t, pl_f]
    by_cases z : Kw5 (G 367 8)
    · rw [ci_t z, if_pos (by decide), ci_f (fun e => e.2 z)]
    · rw [ci_f z, if_neg (by decide), ci_t ⟨k, z⟩]
  · rw [if_pos k, ci_f (fun e => k e.1)]
theorem c_atName (hL : pd_Ly F) : pfX6_atName pd_SH 5000 F 2 = some (ci (F 3 4 = 1 ∧ ¬ Kw8 (F 3 8)) 1 0, F) := by
  unfold pfX6_atName
  simp only [pl_l, pl_b, pl_iT, pl_t, pl_f, gx_1, gx_2, gx_3, gx_4, gx_113, gx_114, gx_115, gx_116, gx_212, gx_213, gx_224, gn_4, gn_114, gn_115, gn_116, gn_213, gn_224, lx_1_0 hL, lx_1_1 hL, lx_1_2 hL, lx_1_3 hL, lx_1_4 hL, lx_1_5 hL, lx_1_6 hL, lx_1_7 hL, lx_2_0 hL, lx_3_0 hL, lx_113_0 hL, lx_113_1 hL, lx_113_2 hL, lx_212_0 hL, lx_212_1 hL, c_isTaken]
  by_cases k : F 3 4 = 1
  · rw [if_neg (fun e => e k)]
    by_cases z : Kw8 (F 3 8)
    · rw [ci_t z, if_pos (by decide), ci_f (fun e => e.2 z)]
    · rw [ci_f z, if_neg (by decide), ci_t ⟨k, z⟩]
  · rw [if_pos k, ci_f (fun e => k e.1)]
theorem Kw_eq {x8 x5 f : Int} (h : nm x8 x5 f) : Kw8 x8 ↔ Kw5 x5 := by
  unfold Kw8 Kw5
  rw [nm_eq h nm_person, nm_eq h nm_insider, nm_eq h nm_trust, nm_eq h nm_account, nm_eq h nm_balance, nm_eq h nm_high, nm_eq h nm_from, nm_eq h nm_to, nm_eq h nm_loan, nm_eq h nm_due, nm_eq h nm_cover, nm_eq h nm_raise, nm_eq h nm_closed]
theorem J.name (h : J b F G) : pfX6_atName pd_SH 5000 F 2 = some (ci (jN G) 1 0, F) := by
  rw [c_atName h.1]
  have k := h.2.2.2.2.2.1
  refine congrArg some (congrArg (fun v => (v, F)) (ci_c ?_))
  unfold jN
  rw [← k.1]
  exact ⟨fun ⟨a, c⟩ => ⟨a, fun z => c ((Kw_eq (k.2.2.2.2.2 a)).mpr z)⟩, fun ⟨a, c⟩ => ⟨a, fun z => c ((Kw_eq (k.2.2.2.2.2 a)).mp z)⟩⟩
/-! what lines are made of -/
theorem j_pass (h : J b F G) {w W f x0 : Int} (hn : nm w W f) (hs : pfX12_is pd_SH 5000 G 367 x0 = some (ci (jW G W) 1 0, G)) : ∃ F' G' v, pfX6_pass pd_SH 5000 F 2 w = some (v, F') ∧ pfX12_takes pd_SH 5000 G 367 x0 = some (v, G') ∧ zC F F' ∧ zR G G' ∧ ((v = 1 ∧ J b F' G') ∨ (v = 0 ∧ jF F' G')) := by
  unfold pfX6_pass pfX12_takes
  simp only [pl_l, pl_b, pl_iT, pl_t, pl_f, gx_367, gx_368, gx_369, gx_370, gx_371, gx_372, gx_373, gx_374, gx_375, gx_376, gx_377, gx_378, gx_379, gx_380, gx_381, gx_382, gx_383, gx_384, gx_385, gx_386, gx_387, gx_388, gx_389, gx_390, gx_391, gx_392, gx_393, gx_394, gx_395, gx_396, gx_397, gx_398, gx_399, gx_400, gx_401, gx_402, gx_403, gn_368, gn_369, gn_370, gn_371, gn_372, gn_373, gn_374, gn_375, gn_376, gn_377, gn_378, gn_379, gn_380, gn_381, gn_382, gn_383, gn_384, gn_385, gn_386, gn_387, gn_388, gn_389, gn_390, gn_391, gn_392, gn_393, gn_394, gn_395, gn_396, gn_397, gn_398, gn_399, gn_400, gn_401, gn_402, gn_403, gx_1, gx_2, gx_3, gx_4, gx_113, gx_114, gx_115, gx_116, gx_212, gx_213, gx_224, gn_4, gn_114, gn_115, gn_116, gn_213, gn_224, h.at hn, hs]
  by_cases k : jW G W
  · rw [ci_t k, if_pos (by decide)]
    have h4 : F 3 4 = 1 := by rw [h.2.2.2.2.2.1.1]; exact k.1
    obtain ⟨F', G', a1, a2, a3, a4, a5, -⟩ := h.adv (by omega)
    have m := j_must h (v := 1) (k := 1) (by decide)
    simp only [lx_1_0 h.1, lx_1_1 h.1, lx_1_2 h.1, lx_1_3 h.1, lx_1_4 h.1, lx_1_5 h.1, lx_1_6 h.1, lx_1_7 h.1, lx_2_0 h.1, lx_3_0 h.1, lx_113_0 h.1, lx_113_1 h.1, lx_113_2 h.1, lx_212_0 h.1, lx_212_1 h.1, gx_1, gx_2, gx_3, gx_4, gx_113, gx_114, gx_115, gx_116, gx_212, gx_213, gx_224, gn_4, gn_114, gn_115, gn_116, gn_213, gn_224, pl_l, pl_b, pl_iT, pl_t, pl_f, a1, m, a2]
    rw [if_pos (by decide)]
    exact ⟨F', G', 1, rfl, rfl, a4, a5, Or.inl ⟨rfl, a3⟩⟩
  · rw [ci_f k, if_neg (by decide)]
    obtain ⟨F', G', a1, a2, a3, a4, a5⟩ := j_fail h (k := 1) (by decide)
    simp only [a1, a2, pl_l, pl_b, pl_iT, pl_t, pl_f]
    rw [pl_i (by decide), if_neg (by decide)]
    exact ⟨F', G', 0, rfl, rfl, a4, a5, Or.inr ⟨rfl, a3⟩⟩
theorem j_num (h : J b F G) {lo hi : Int} (hl : 0 ≤ lo) : ∃ F' G' v r, pfX6_takeNumberIn pd_SH 5000 F 2 lo hi 1 = some (v, F') ∧ pfX12_takesNumber pd_SH 5000 G 367 lo hi = some (r, G') ∧ zC F F' ∧ zR G G' ∧ G' 367 38 = G 367 38 ∧ ((r = 1 ∧ (lo ≤ v ∧ v ≤ hi) ∧ G' 367 11 = v ∧ J b F' G') ∨ (r = 0 ∧ v = -1 ∧ jF F' G')) := by
  obtain ⟨h1, h2, h3, h5, h6, h7, h8, h9⟩ := id h
  unfold pfX6_takeNumberIn pfX12_takesNumber
  simp only [pl_l, pl_b, pl_iT, pl_t, pl_f, gx_367, gx_368, gx_369, gx_370, gx_371, gx_372, gx_373, gx_374, gx_375, gx_376, gx_377, gx_378, gx_379, gx_380, gx_381, gx_382, gx_383, gx_384, gx_385, gx_386, gx_387, gx_388, gx_389, gx_390, gx_391, gx_392, gx_393, gx_394, gx_395, gx_396, gx_397, gx_398, gx_399, gx_400, gx_401, gx_402, gx_403, gn_368, gn_369, gn_370, gn_371, gn_372, gn_373, gn_374, gn_375, gn_376, gn_377, gn_378, gn_379, gn_380, gn_381, gn_382, gn_383, gn_384, gn_385, gn_386, gn_387, gn_388, gn_389, gn_390, gn_391, gn_392, gn_393, gn_394, gn_395, gn_396, gn_397, gn_398, gn_399, gn_400, gn_401, gn_402, gn_403, gx_1, gx_2, gx_3, gx_4, gx_113, gx_114, gx_115, gx_116, gx_212, gx_213, gx_224, gn_4, gn_114, gn_115, gn_116, gn_213, gn_224, lx_1_0 h1, lx_1_1 h1, lx_1_2 h1, lx_1_3 h1, lx_1_4 h1, lx_1_5 h1, lx_1_6 h1, lx_1_7 h1, lx_2_0 h1, lx_3_0 h1, lx_113_0 h1, lx_113_1 h1, lx_113_2 h1, lx_212_0 h1, lx_212_1 h1]
  have f38 : ∀ {k : Int} {G' : pd_F}, pfX12_must pd_SH 5000 G 367 0 k = some (0, G') → G' 367 38 = G 367 38 := fun {k G'} e => by
    unfold pfX12_must pfX12_must_b24 at e
    simp only [pl_l, pl_b, pl_iT, pl_t, pl_f, gx_367, gx_368, gx_369, gx_370, gx_371, gx_372, gx_373, gx_374, gx_375, gx_376, gx_377, gx_378, gx_379, gx_380, gx_381, gx_382, gx_383, gx_384, gx_385, gx_386, gx_387, gx_388, gx_389, gx_390, gx_391, gx_392, gx_393, gx_394, gx_395, gx_396, gx_397, gx_398, gx_399, gx_400, gx_401, gx_402, gx_403, gn_368, gn_369, gn_370, gn_371, gn_372, gn_373, gn_374, gn_375, gn_376, gn_377, gn_378, gn_379, gn_380, gn_381, gn_382, gn_383, gn_384, gn_385, gn_386, gn_387, gn_388, gn_389, gn_390, gn_391, gn_392, gn_393, gn_394, gn_395, gn_396, gn_397, gn_398, gn_399, gn_400, gn_401, gn_402, gn_403, h8] at e
    rw [if_neg (by decide), if_neg (by decide)] at e
    have e4 : pd_up (pd_up G 367 9 k) 367 10 (pd_up G 367 9 k 367 4) 367 38 = G 367 38 := by rw [pu_r, if_neg (by decide), pu_r, if_neg (by decide)]
    split at e
    · rw [← e4, (Prod.mk.inj (Option.some.inj e)).2]
    · exact absurd (Prod.mk.inj (Option.some.inj e)).1 (by decide)
  by_cases k : F 3 4 = 2
  · have kG : G 367 6 = 2 := by rw [← h7.1]; exact k
    obtain ⟨n1, n2, n3⟩ := h7.2.2.2.2.1 k
    have m := j_must h (v := 1) (k := 1) (by decide)
    rw [if_pos k, if_neg (show ¬ G 367 6 ≠ 2 from fun e => e kG)]
    unfold pfX12_takesNumber_b14
    simp only [pl_l, pl_b, pl_iT, pl_t, pl_f, gx_367, gx_368, gx_369, gx_370, gx_371, gx_372, gx_373, gx_374, gx_375, gx_376, gx_377, gx_378, gx_379, gx_380, gx_381, gx_382, gx_383, gx_384, gx_385, gx_386, gx_387, gx_388, gx_389, gx_390, gx_391, gx_392, gx_393, gx_394, gx_395, gx_396, gx_397, gx_398, gx_399, gx_400, gx_401, gx_402, gx_403, gn_368, gn_369, gn_370, gn_371, gn_372, gn_373, gn_374, gn_375, gn_376, gn_377, gn_378, gn_379, gn_380, gn_381, gn_382, gn_383, gn_384, gn_385, gn_386, gn_387, gn_388, gn_389, gn_390, gn_391, gn_392, gn_393, gn_394, gn_395, gn_396, gn_397, gn_398, gn_399, gn_400, gn_401, gn_402, gn_403, m, r_within, ← n1]
    rw [if_neg (show ¬ (1 : Int) = 0 by decide)]
    by_cases z : lo ≤ F 3 7 ∧ F 3 7 ≤ hi
    · rw [if_neg (show ¬ F 3 7 < lo by omega), if_pos z.2, if_pos (show (1 : Int) ≠ 0 by decide), if_pos z]
      have m4 := j_must h (v := 1) (k := 4) (by decide)
      have hu := h.up (j := 11) (v := F 3 7) (by decide)
      obtain ⟨F', G', a1, a2, a3, a4, a5, a6, a7⟩ := hu.adv (by omega)
      simp only [pl_l, pl_b, pl_iT, pl_t, pl_f, m4, a1, a2, ← n1]
      rw [if_pos (show (1 : Int) ≠ 0 by decide)]
      refine ⟨F', G', F 3 7, 1, rfl, rfl, a4, (zR.up (by decide)).tr a5, ?_, Or.inl ⟨rfl, z, ?_, a3⟩⟩
      · rw [a7, pu_r, if_neg (by decide)]
      · rw [a6, pu_r, if_pos rfl]
    · obtain ⟨F', G', a1, a2, a3, a4, a5⟩ := j_fail h (k := 4) (by decide)
      have e41 : pfX6_takeNumberIn_b41 pd_SH 5000 F 2 = some (-1, F') := by
        unfold pfX6_takeNumberIn_b41
        simp only [pl_l, pl_b, pl_iT, pl_t, pl_f, gx_1, gx_2, gx_3, gx_4, gx_113, gx_114, gx_115, gx_116, gx_212, gx_213, gx_224, gn_4, gn_114, gn_115, gn_116, gn_213, gn_224, a1]
      rw [if_neg z]
      simp only [pl_l, pl_b, pl_iT, pl_t, pl_f, a2]
      rw [if_neg (show ¬ (0 : Int) ≠ 0 by decide)]
      refine ⟨F', G', -1, 0, ?_, rfl, a4, a5, f38 a2, Or.inr ⟨rfl, rfl, a3⟩⟩
      by_cases y : F 3 7 < lo
      · rw [if_pos y]; exact e41
      · rw [if_neg y, if_neg (by omega)]; exact e41
  · rw [if_neg k, if_pos (fun e => k (by rw [h7.1]; exact e))]
    obtain ⟨F', G', a1, a2, a3, a4, a5⟩ := j_fail h (k := 1) (by decide)
    unfold pfX12_takesNumber_b14
    simp only [pl_l, pl_b, pl_iT, pl_t, pl_f, gx_367, gx_368, gx_369, gx_370, gx_371, gx_372, gx_373, gx_374, gx_375, gx_376, gx_377, gx_378, gx_379, gx_380, gx_381, gx_382, gx_383, gx_384, gx_385, gx_386, gx_387, gx_388, gx_389, gx_390, gx_391, gx_392, gx_393, gx_394, gx_395, gx_396, gx_397, gx_398, gx_399, gx_400, gx_401, gx_402, gx_403, gn_368, gn_369, gn_370, gn_371, gn_372, gn_373, gn_374, gn_375, gn_376, gn_377, gn_378, gn_379, gn_380, gn_381, gn_382, gn_383, gn_384, gn_385, gn_386, gn_387, gn_388, gn_389, gn_390, gn_391, gn_392, gn_393, gn_394, gn_395, gn_396, gn_397, gn_398, gn_399, gn_400, gn_401, gn_402, gn_403, a1, a2]
    exact ⟨F', G', -1, 0, rfl, rfl, a4, a5, f38 a2, Or.inr ⟨rfl, rfl, a3⟩⟩
theorem j_end (h : J b F G) : ∃ F' G' v, pfX6_passEnd pd_SH 5000 F 2 = some (v, F') ∧ pfX12_lineHere_b156 pd_SH 5000 G 367 = some (v, G') ∧ zC F F' ∧ zR G G' ∧ ((v = 1 ∧ J b F' G') ∨ (v = 0 ∧ jF F' G')) := by
  obtain ⟨h1, h2, h3, h5, h6, h7, h8, h9⟩ := id h
  unfold pfX6_passEnd pfX12_lineHere_b156
  simp only [pl_l, pl_b, pl_iT, pl_t, pl_f, gx_367, gx_368, gx_369, gx_370, gx_371, gx_372, gx_373, gx_374, gx_375, gx_376, gx_377, gx_378, gx_379, gx_380, gx_381, gx_382, gx_383, gx_384, gx_385, gx_386, gx_387, gx_388, gx_389, gx_390, gx_391, gx_392, gx_393, gx_394, gx_395, gx_396, gx_397, gx_398, gx_399, gx_400, gx_401, gx_402, gx_403, gn_368, gn_369, gn_370, gn_371, gn_372, gn_373, gn_374, gn_375, gn_376, gn_377, gn_378, gn_379, gn_380, gn_381, gn_382, gn_383, gn_384, gn_385, gn_386, gn_387, gn_388, gn_389, gn_390, gn_391, gn_392, gn_393, gn_394, gn_395, gn_396, gn_397, gn_398, gn_399, gn_400, gn_401, gn_402, gn_403, gx_1, gx_2, gx_3, gx_4, gx_113, gx_114, gx_115, gx_116, gx_212, gx_213, gx_224, gn_4, gn_114, gn_115, gn_116, gn_213, gn_224, lx_1_0 h1, lx_1_1 h1, lx_1_2 h1, lx_1_3 h1, lx_1_4 h1, lx_1_5 h1, lx_1_6 h1, lx_1_7 h1, lx_2_0 h1, lx_3_0 h1, lx_113_0 h1, lx_113_1 h1, lx_113_2 h1, lx_212_0 h1, lx_212_1 h1]
  by_cases k : F 3 4 = 3
  · rw [if_pos k, if_neg (fun e => e (by rw [← h7.1]; exact k))]
    obtain ⟨F', G', a1, a2, a3, a4, a5, -⟩ := h.adv (by omega)
    have m := j_must h (v := 1) (k := 1) (by decide)
    unfold pfX12_lineHere_b170
    simp only [pl_l, pl_b, pl_iT, pl_t, pl_f, gx_367, gx_368, gx_369, gx_370, gx_371, gx_372, gx_373, gx_374, gx_375, gx_376, gx_377, gx_378, gx_379, gx_380, gx_381, gx_382, gx_383, gx_384, gx_385, gx_386, gx_387, gx_388, gx_389, gx_390, gx_391, gx_392, gx_393, gx_394, gx_395, gx_396, gx_397, gx_398, gx_399, gx_400, gx_401, gx_402, gx_403, gn_368, gn_369, gn_370, gn_371, gn_372, gn_373, gn_374, gn_375, gn_376, gn_377, gn_378, gn_379, gn_380, gn_381, gn_382, gn_383, gn_384, gn_385, gn_386, gn_387, gn_388, gn_389, gn_390, gn_391, gn_392, gn_393, gn_394, gn_395, gn_396, gn_397, gn_398, gn_399, gn_400, gn_401, gn_402, gn_403, a1, m, a2]
    rw [if_pos (by decide)]
    exact ⟨F', G', 1, rfl, rfl, a4, a5, Or.inl ⟨rfl, a3⟩⟩
  · rw [if_neg k, if_pos (fun e => k (by rw [h7.1]; exact e))]
    obtain ⟨F', G', a1, a2, a3, a4, a5⟩ := j_fail h (k := 1) (by decide)
    unfold pfX12_lineHere_b170
    simp only [pl_l, pl_b, pl_iT, pl_t, pl_f, gx_367, gx_368, gx_369, gx_370, gx_371, gx_372, gx_373, gx_374, gx_375, gx_376, gx_377, gx_378, gx_379, gx_380, gx_381, gx_382, gx_383, gx_384, gx_385, gx_386, gx_387, gx_388, gx_389, gx_390, gx_391, gx_392, gx_393, gx_394, gx_395, gx_396, gx_397, gx_398, gx_399, gx_400, gx_401, gx_402, gx_403, gn_368, gn_369, gn_370, gn_371, gn_372, gn_373, gn_374, gn_375, gn_376, gn_377, gn_378, gn_379, gn_380, gn_381, gn_382, gn_383, gn_384, gn_385, gn_386, gn_387, gn_388, gn_389, gn_390, gn_391, gn_392, gn_393, gn_394, gn_395, gn_396, gn_397, gn_398, gn_399, gn_400, gn_401, gn_402, gn_403, a1, a2]
    rw [pl_i (by decide), if_neg (by decide)]
    exact ⟨F', G', 0, rfl, rfl, a4, a5, Or.inr ⟨rfl, a3⟩⟩
end JA

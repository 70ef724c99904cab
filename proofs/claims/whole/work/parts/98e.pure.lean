/-! names found -/
/-- where the cells of the book being read begin -/
def bs (a : Int) : Int := if a ≤ 373 then 1 else if a = 376 then 36 else if a ≤ 377 then 12 else if a = 378 then 5 else if a ≤ 380 then 10 else if a = 381 then 15 else if a ≤ 383 then 75 else if a ≤ 387 then 6 else if a ≤ 390 then 8 else 0
/-- the book being read, as a book -/
def bn (G : pd_F) : pd_F := fun a j => G a (bs a + j)
theorem bs_1 {a : Int} (h : a ≤ 373) : bs a = 1 := by unfold bs; rw [if_pos h]
theorem bn_e {G : pd_F} {a j k : Int} (h : bs a = k) : bn G a j = G a (k + j) := by unfold bn; rw [h]
theorem bn_369 {G : pd_F} : bn G 369 0 = G 369 1 := bn_e (k := 1) (by decide)
theorem bn_370 {G : pd_F} : bn G 370 0 = G 370 1 := bn_e (k := 1) (by decide)
theorem bn_371 {G : pd_F} : bn G 371 0 = G 371 1 := bn_e (k := 1) (by decide)
theorem bn_372 {G : pd_F} : bn G 372 0 = G 372 1 := bn_e (k := 1) (by decide)
theorem bn_373 {G : pd_F} : bn G 373 0 = G 373 1 := bn_e (k := 1) (by decide)
theorem bn_374 {G : pd_F} {j : Int} : bn G 374 j = G 374 (12 + j) := bn_e (by decide)
theorem bn_375 {G : pd_F} {j : Int} : bn G 375 j = G 375 (12 + j) := bn_e (by decide)
theorem bn_376 {G : pd_F} {j : Int} : bn G 376 j = G 376 (36 + j) := bn_e (by decide)
theorem bn_377 {G : pd_F} {j : Int} : bn G 377 j = G 377 (12 + j) := bn_e (by decide)
theorem bn_378 {G : pd_F} {j : Int} : bn G 378 j = G 378 (5 + j) := bn_e (by decide)
theorem bn_379 {G : pd_F} {j : Int} : bn G 379 j = G 379 (10 + j) := bn_e (by decide)
theorem bn_380 {G : pd_F} {j : Int} : bn G 380 j = G 380 (10 + j) := bn_e (by decide)
theorem bn_381 {G : pd_F} {j : Int} : bn G 381 j = G 381 (15 + j) := bn_e (by decide)
theorem bn_382 {G : pd_F} {j : Int} : bn G 382 j = G 382 (75 + j) := bn_e (by decide)
theorem bn_383 {G : pd_F} {j : Int} : bn G 383 j = G 383 (75 + j) := bn_e (by decide)
theorem bn_384 {G : pd_F} {j : Int} : bn G 384 j = G 384 (6 + j) := bn_e (by decide)
theorem bn_385 {G : pd_F} {j : Int} : bn G 385 j = G 385 (6 + j) := bn_e (by decide)
theorem bn_386 {G : pd_F} {j : Int} : bn G 386 j = G 386 (6 + j) := bn_e (by decide)
theorem bn_387 {G : pd_F} {j : Int} : bn G 387 j = G 387 (6 + j) := bn_e (by decide)
theorem bn_388 {G : pd_F} {j : Int} : bn G 388 j = G 388 (8 + j) := bn_e (by decide)
theorem bn_389 {G : pd_F} {j : Int} : bn G 389 j = G 389 (8 + j) := bn_e (by decide)
theorem bn_390 {G : pd_F} {j : Int} : bn G 390 j = G 390 (8 + j) := bn_e (by decide)
theorem bn_391 {G : pd_F} {j : Int} : bn G 391 j = G 391 j := (bn_e (k := 0) (by decide)).trans (by rw [Int.zero_add])
theorem bn_392 {G : pd_F} {j : Int} : bn G 392 j = G 392 j := (bn_e (k := 0) (by decide)).trans (by rw [Int.zero_add])
theorem bn_row {G G' : pd_F} {a : Int} (h : G' a = G a) : bn G' a = bn G a := by funext j; unfold bn; rw [h]
/-- v is the first below N with Q, or none -/
def fI (Q : Int → Prop) (N v : Int) : Prop := (0 ≤ v ∧ v < N ∧ Q v ∧ ∀ j, 0 ≤ j → j < v → ¬ Q j) ∨ (v = -1 ∧ ∀ j, 0 ≤ j → j < N → ¬ Q j)
theorem fI_c {Q R : Int → Prop} {N v : Int} (h : fI Q N v) (e : ∀ j, 0 ≤ j → j < N → (Q j ↔ R j)) : fI R N v := by
  rcases h with ⟨a, b, c, d⟩ | ⟨a, b⟩
  · exact Or.inl ⟨a, b, (e v a b).mp c, fun j x y z => d j x y ((e j x (by omega)).mpr z)⟩
  · exact Or.inr ⟨a, fun j x y z => b j x y ((e j x y).mpr z)⟩
theorem fI_ex (Q : Int → Prop) {N : Int} (hN : 0 ≤ N) : ∃ v, fI Q N v := by
  obtain ⟨n, rfl⟩ := Int.eq_ofNat_of_zero_le hN
  clear hN
  induction n with
  | zero => exact ⟨-1, Or.inr ⟨rfl, fun j a b => by omega⟩⟩
  | succ n ih =>
    obtain ⟨v, ⟨a, b, c, d⟩ | ⟨a, b⟩⟩ := ih
    · exact ⟨v, Or.inl ⟨a, by omega, c, d⟩⟩
    · rcases Classical.em (Q n) with k | k
      · exact ⟨n, Or.inl ⟨by omega, by omega, k, b⟩⟩
      · refine ⟨-1, Or.inr ⟨rfl, fun j x y => ?_⟩⟩
        by_cases e : j = n
        · rw [e]; exact k
        · exact b j x (by omega)
theorem fI_bd {Q : Int → Prop} {N v : Int} (h : fI Q N v) : (0 ≤ v ∧ v < N) ∨ v = -1 := by
  rcases h with ⟨a, b, _⟩ | ⟨a, _⟩
  · exact Or.inl ⟨a, b⟩
  · exact Or.inr a
theorem pl_fi {R : Type} {f : Nat → Int → Option R} {Q : Int → Prop} {hit : Int → Option R} {miss : Option R} {N v : Int} (hN : 0 ≤ N)
    (hh : ∀ k i, 0 ≤ i → i < N → Q i → f (k + 1) i = hit i) (hm : ∀ k i, 0 ≤ i → i < N → ¬ Q i → f (k + 1) i = f k (i + 1)) (he : ∀ k, f (k + 1) N = miss) (k : Nat) (hk : N < k) (h : fI Q N v) : f k 0 = if 0 ≤ v then hit v else miss := by
  rcases pl_find hN hh hm he k hk with ⟨i, a, b, c, d, e⟩ | ⟨c, e⟩
  · rcases h with ⟨x, y, z, w⟩ | ⟨x, y⟩
    · have : i = v := by
        rcases Int.lt_trichotomy i v with q | q | q
        · exact absurd c (w i a q)
        · exact q
        · exact absurd z (d v x q)
      rw [e, if_pos x, this]
    · exact absurd c (y i a b)
  · rcases h with ⟨x, y, z, w⟩ | ⟨x, y⟩
    · exact absurd z (c v x y)
    · rw [e, if_neg (by omega)]
section NF
variable {F G : pd_F} {b : Int}
theorem c_find (hL : pd_Ly F) (hb : aB b) {w p t a : Int} (n9 : 0 ≤ F b 9 ∧ F b 9 ≤ 12) (n10 : 0 ≤ F b 10 ∧ F b 10 ≤ 5) (n11 : 0 ≤ F b 11 ∧ F b 11 ≤ 10) (hp : fI (fun k => F (b + 10 + 2 * k) 2 = w) (F b 9) p) (ht : fI (fun k => F (b + 34 + 4 * k) 4 = w) (F b 10) t) (ha : fI (fun k => F (b + 34 + 4 * (5 + k)) 4 = w) (F b 11) a) :
    pfX0_find pd_SH 5000 F b w = some (if 0 ≤ p then p else if 0 ≤ t then 12 + t else if 0 ≤ a then 17 + a else -1, F) := by
  obtain ⟨s0, s1, s2, s3, s4, s5, s6, s7, s8, s9⟩ := sh_b hb
  obtain ⟨l0, l1, l2, l3, l4, l5, l6, l7, l8⟩ := ly_b hL hb
  have e3 : pfX0_find_b67 pd_SH 5000 F b w = if 0 ≤ a then some (17 + a, F) else some (-1, F) := by
    unfold pfX0_find_b67
    refine pl_fi (f := fun j i => pfX0_find_b69 pd_SH 5000 j F b w i) (hit := fun i => some (17 + i, F)) (miss := some (-1, F)) n11.1 (fun k i x y q => ?_) (fun k i x y q => ?_) (fun k => ?_) 5000 (by omega) ha
    · have u := fy_ac hL hb x (show i < 10 by omega)
      obtain ⟨-, -, -, sg, -⟩ := fy_g hL hb (i := 5 + i) (by omega) (by omega)
      show pfX0_find_b69 pd_SH 5000 (k + 1) F b w i = _
      simp only [pfX0_find_b69, pl_l, pl_b, pl_iT, pl_t, pl_f, pl_ob s0, l2, pl_ib s3, u, pl_ob sg]
      rw [if_neg (by omega), pl_i (by omega), if_neg (fun z => z q), pl_w (by omega)]
    · have u := fy_ac hL hb x (show i < 10 by omega)
      obtain ⟨-, -, -, sg, -⟩ := fy_g hL hb (i := 5 + i) (by omega) (by omega)
      show pfX0_find_b69 pd_SH 5000 (k + 1) F b w i = _
      simp only [pfX0_find_b69, pl_l, pl_b, pl_iT, pl_t, pl_f, pl_ob s0, l2, pl_ib s3, u, pl_ob sg]
      rw [if_neg (by omega), pl_i (by omega), if_pos q, pl_w (by omega)]
    · show pfX0_find_b69 pd_SH 5000 (k + 1) F b w _ = _
      simp only [pfX0_find_b69, pl_l, pl_b, pl_iT, pl_t, pl_f, pl_ob s0]
      rw [if_pos (by omega)]
  have e2 : pfX0_find_b32 pd_SH 5000 F b w = if 0 ≤ t then some (12 + t, F) else pfX0_find_b67 pd_SH 5000 F b w := by
    unfold pfX0_find_b32
    refine pl_fi (f := fun j i => pfX0_find_b34 pd_SH 5000 j F b w i) (hit := fun i => some (12 + i, F)) (miss := pfX0_find_b67 pd_SH 5000 F b w) n10.1 (fun k i x y q => ?_) (fun k i x y q => ?_) (fun k => ?_) 5000 (by omega) ht
    · have u := fy_tr hL hb x (show i < 5 by omega)
      obtain ⟨-, -, -, sg, -⟩ := fy_g hL hb (i := i) (by omega) (by omega)
      show pfX0_find_b34 pd_SH 5000 (k + 1) F b w i = _
      simp only [pfX0_find_b34, pl_l, pl_b, pl_iT, pl_t, pl_f, pl_ob s0, l1, pl_ib s2, u, pl_ob sg]
      rw [if_neg (by omega), pl_i (by omega), if_neg (fun z => z q), pl_w (by omega)]
    · have u := fy_tr hL hb x (show i < 5 by omega)
      obtain ⟨-, -, -, sg, -⟩ := fy_g hL hb (i := i) (by omega) (by omega)
      show pfX0_find_b34 pd_SH 5000 (k + 1) F b w i = _
      simp only [pfX0_find_b34, pl_l, pl_b, pl_iT, pl_t, pl_f, pl_ob s0, l1, pl_ib s2, u, pl_ob sg]
      rw [if_neg (by omega), pl_i (by omega), if_pos q, pl_w (by omega)]
    · show pfX0_find_b34 pd_SH 5000 (k + 1) F b w _ = _
      simp only [pfX0_find_b34, pl_l, pl_b, pl_iT, pl_t, pl_f, pl_ob s0]
      rw [if_pos (by omega)]
  have e1 : pfX0_find pd_SH 5000 F b w = if 0 ≤ p then some (p, F) else pfX0_find_b32 pd_SH 5000 F b w := by
    unfold pfX0_find
    refine pl_fi (f := fun j i => pfX0_find_b2 pd_SH 5000 j F b w i) (hit := fun i => some (i, F)) (miss := pfX0_find_b32 pd_SH 5000 F b w) n9.1 (fun k i x y q => ?_) (fun k i x y q => ?_) (fun k => ?_) 5000 (by omega) hp
    · obtain ⟨u, -, sg, -⟩ := fy_p hL hb x (show i < 12 by omega)
      show pfX0_find_b2 pd_SH 5000 (k + 1) F b w i = _
      simp only [pfX0_find_b2, pl_l, pl_b, pl_iT, pl_t, pl_f, pl_ob s0, l0, pl_ib s1, u, pl_ob sg]
      rw [if_neg (by omega), pl_i (by omega), if_neg (fun z => z q)]
    · obtain ⟨u, -, sg, -⟩ := fy_p hL hb x (show i < 12 by omega)
      show pfX0_find_b2 pd_SH 5000 (k + 1) F b w i = _
      simp only [pfX0_find_b2, pl_l, pl_b, pl_iT, pl_t, pl_f, pl_ob s0, l0, pl_ib s1, u, pl_ob sg]
      rw [if_neg (by omega), pl_i (by omega), if_pos q, pl_w (by omega)]
    · show pfX0_find_b2 pd_SH 5000 (k + 1) F b w _ = _
      simp only [pfX0_find_b2, pl_l, pl_b, pl_iT, pl_t, pl_f, pl_ob s0]
      rw [if_pos (by omega)]
  rw [e1, e2, e3]
  by_cases x : 0 ≤ p
  · rw [if_pos x, if_pos x]
  rw [if_neg x, if_neg x]
  by_cases y : 0 ≤ t
  · rw [if_pos y, if_pos y]
  rw [if_neg y, if_neg y]
  by_cases z : 0 ≤ a
  · rw [if_pos z, if_pos z]
  · rw [if_neg z, if_neg z]
theorem r_pNamed (hL : pd_Ly G) (h13 : G 367 13 = 1) (n : 0 ≤ bn G 369 0 ∧ bn G 369 0 ≤ 12) {w p : Int} (hp : fI (fun k => bn G 374 k = w) (bn G 369 0) p) : pfX12_personNamed pd_SH 5000 G 367 w = some (p, G) := by
  rw [bn_369] at n hp
  have e : pfX12_personNamed pd_SH 5000 G 367 w = if 0 ≤ p then some (p, G) else some (-1, G) := by
    unfold pfX12_personNamed
    refine pl_fi (f := fun j i => pfX12_personNamed_b2 pd_SH 5000 j G 367 w i) (hit := fun i => some (i, G)) (miss := some (-1, G)) n.1 (fun k i x y q => ?_) (fun k i x y q => ?_) (fun k => ?_) 5000 (by omega) hp
    · show pfX12_personNamed_b2 pd_SH 5000 (k + 1) G 367 w i = _
      rw [bn_374] at q
      simp (disch := omega) only [pfX12_personNamed_b2, pl_l, pl_b, pl_iT, pl_t, pl_f, gx_367, gx_368, gx_369, gx_370, gx_371, gx_372, gx_373, gx_374, gx_375, gx_376, gx_377, gx_378, gx_379, gx_380, gx_381, gx_382, gx_383, gx_384, gx_385, gx_386, gx_387, gx_388, gx_389, gx_390, gx_391, gx_392, gx_393, gx_394, gx_395, gx_396, gx_397, gx_398, gx_399, gx_400, gx_401, gx_402, gx_403, gn_368, gn_369, gn_370, gn_371, gn_372, gn_373, gn_374, gn_375, gn_376, gn_377, gn_378, gn_379, gn_380, gn_381, gn_382, gn_383, gn_384, gn_385, gn_386, gn_387, gn_388, gn_389, gn_390, gn_391, gn_392, gn_393, gn_394, gn_395, gn_396, gn_397, gn_398, gn_399, gn_400, gn_401, gn_402, gn_403, lm_1 hL, lm_14 hL, lm_15 hL, lm_16 hL, lm_17 hL, lm_18 hL, lm_19 hL, lm_20 hL, lm_21 hL, lm_22 hL, lm_23 hL, lm_24 hL, lm_25 hL, lm_26 hL, lm_27 hL, lm_28 hL, lm_29 hL, lm_30 hL, lm_31 hL, lm_32 hL, lm_33 hL, lm_34 hL, lm_35 hL, lm_36 hL, lm_37 hL, lm_39 hL, lm_40 hL, lm_42 hL, lm_43 hL, lm_44 hL, lm_45 hL, lm_47 hL, lm_48 hL, lm_49 hL, lm_50 hL, lm_51 hL, h13, Int.mul_one, pl_w, pl_i, if_neg]
    · show pfX12_personNamed_b2 pd_SH 5000 (k + 1) G 367 w i = _
      rw [bn_374] at q
      simp (disch := omega) only [pfX12_personNamed_b2, pl_l, pl_b, pl_iT, pl_t, pl_f, gx_367, gx_368, gx_369, gx_370, gx_371, gx_372, gx_373, gx_374, gx_375, gx_376, gx_377, gx_378, gx_379, gx_380, gx_381, gx_382, gx_383, gx_384, gx_385, gx_386, gx_387, gx_388, gx_389, gx_390, gx_391, gx_392, gx_393, gx_394, gx_395, gx_396, gx_397, gx_398, gx_399, gx_400, gx_401, gx_402, gx_403, gn_368, gn_369, gn_370, gn_371, gn_372, gn_373, gn_374, gn_375, gn_376, gn_377, gn_378, gn_379, gn_380, gn_381, gn_382, gn_383, gn_384, gn_385, gn_386, gn_387, gn_388, gn_389, gn_390, gn_391, gn_392, gn_393, gn_394, gn_395, gn_396, gn_397, gn_398, gn_399, gn_400, gn_401, gn_402, gn_403, lm_1 hL, lm_14 hL, lm_15 hL, lm_16 hL, lm_17 hL, lm_18 hL, lm_19 hL, lm_20 hL, lm_21 hL, lm_22 hL, lm_23 hL, lm_24 hL, lm_25 hL, lm_26 hL, lm_27 hL, lm_28 hL, lm_29 hL, lm_30 hL, lm_31 hL, lm_32 hL, lm_33 hL, lm_34 hL, lm_35 hL, lm_36 hL, lm_37 hL, lm_39 hL, lm_40 hL, lm_42 hL, lm_43 hL, lm_44 hL, lm_45 hL, lm_47 hL, lm_48 hL, lm_49 hL, lm_50 hL, lm_51 hL, h13, Int.mul_one, pl_w, pl_i, if_neg]
      rw [if_pos q]
    · show pfX12_personNamed_b2 pd_SH 5000 (k + 1) G 367 w _ = _
      simp (disch := omega) only [pfX12_personNamed_b2, pl_l, pl_b, pl_iT, pl_t, pl_f, gx_367, gx_368, gx_369, gx_370, gx_371, gx_372, gx_373, gx_374, gx_375, gx_376, gx_377, gx_378, gx_379, gx_380, gx_381, gx_382, gx_383, gx_384, gx_385, gx_386, gx_387, gx_388, gx_389, gx_390, gx_391, gx_392, gx_393, gx_394, gx_395, gx_396, gx_397, gx_398, gx_399, gx_400, gx_401, gx_402, gx_403, gn_368, gn_369, gn_370, gn_371, gn_372, gn_373, gn_374, gn_375, gn_376, gn_377, gn_378, gn_379, gn_380, gn_381, gn_382, gn_383, gn_384, gn_385, gn_386, gn_387, gn_388, gn_389, gn_390, gn_391, gn_392, gn_393, gn_394, gn_395, gn_396, gn_397, gn_398, gn_399, gn_400, gn_401, gn_402, gn_403, lm_1 hL, lm_14 hL, lm_15 hL, lm_16 hL, lm_17 hL, lm_18 hL, lm_19 hL, lm_20 hL, lm_21 hL, lm_22 hL, lm_23 hL, lm_24 hL, lm_25 hL, lm_26 hL, lm_27 hL, lm_28 hL, lm_29 hL, lm_30 hL, lm_31 hL, lm_32 hL, lm_33 hL, lm_34 hL, lm_35 hL, lm_36 hL, lm_37 hL, lm_39 hL, lm_40 hL, lm_42 hL, lm_43 hL, lm_44 hL, lm_45 hL, lm_47 hL, lm_48 hL, lm_49 hL, lm_50 hL, lm_51 hL, h13, pl_i, if_pos]
  rw [e]
  rcases fI_bd hp with k | k
  · rw [if_pos k.1]
  · rw [if_neg (by omega), k]
theorem r_tNamed (hL : pd_Ly G) (h13 : G 367 13 = 1) (n : 0 ≤ bn G 370 0 ∧ bn G 370 0 ≤ 5) {w p : Int} (hp : fI (fun k => bn G 378 k = w) (bn G 370 0) p) : pfX12_trustNamed pd_SH 5000 G 367 w = some (p, G) := by
  rw [bn_370] at n hp
  have e : pfX12_trustNamed pd_SH 5000 G 367 w = if 0 ≤ p then some (p, G) else some (-1, G) := by
    unfold pfX12_trustNamed
    refine pl_fi (f := fun j i => pfX12_trustNamed_b2 pd_SH 5000 j G 367 w i) (hit := fun i => some (i, G)) (miss := some (-1, G)) n.1 (fun k i x y q => ?_) (fun k i x y q => ?_) (fun k => ?_) 5000 (by omega) hp
    · show pfX12_trustNamed_b2 pd_SH 5000 (k + 1) G 367 w i = _
      rw [bn_378] at q
      simp (disch := omega) only [pfX12_trustNamed_b2, pl_l, pl_b, pl_iT, pl_t, pl_f, gx_367, gx_368, gx_369, gx_370, gx_371, gx_372, gx_373, gx_374, gx_375, gx_376, gx_377, gx_378, gx_379, gx_380, gx_381, gx_382, gx_383, gx_384, gx_385, gx_386, gx_387, gx_388, gx_389, gx_390, gx_391, gx_392, gx_393, gx_394, gx_395, gx_396, gx_397, gx_398, gx_399, gx_400, gx_401, gx_402, gx_403, gn_368, gn_369, gn_370, gn_371, gn_372, gn_373, gn_374, gn_375, gn_376, gn_377, gn_378, gn_379, gn_380, gn_381, gn_382, gn_383, gn_384, gn_385, gn_386, gn_387, gn_388, gn_389, gn_390, gn_391, gn_392, gn_393, gn_394, gn_395, gn_396, gn_397, gn_398, gn_399, gn_400, gn_401, gn_402, gn_403, lm_1 hL, lm_14 hL, lm_15 hL, lm_16 hL, lm_17 hL, lm_18 hL, lm_19 hL, lm_20 hL, lm_21 hL, lm_22 hL, lm_23 hL, lm_24 hL, lm_25 hL, lm_26 hL, lm_27 hL, lm_28 hL, lm_29 hL, lm_30 hL, lm_31 hL, lm_32 hL, lm_33 hL, lm_34 hL, lm_35 hL, lm_36 hL, lm_37 hL, lm_39 hL, lm_40 hL, lm_42 hL, lm_43 hL, lm_44 hL, lm_45 hL, lm_47 hL, lm_48 hL, lm_49 hL, lm_50 hL, lm_51 hL, h13, Int.mul_one, pl_w, pl_i, if_neg]
    · show pfX12_trustNamed_b2 pd_SH 5000 (k + 1) G 367 w i = _
      rw [bn_378] at q
      simp (disch := omega) only [pfX12_trustNamed_b2, pl_l, pl_b, pl_iT, pl_t, pl_f, gx_367, gx_368, gx_369, gx_370, gx_371, gx_372, gx_373, gx_374, gx_375, gx_376, gx_377, gx_378, gx_379, gx_380, gx_381, gx_382, gx_383, gx_384, gx_385, gx_386, gx_387, gx_388, gx_389, gx_390, gx_391, gx_392, gx_393, gx_394, gx_395, gx_396, gx_397, gx_398, gx_399, gx_400, gx_401, gx_402, gx_403, gn_368, gn_369, gn_370, gn_371, gn_372, gn_373, gn_374, gn_375, gn_376, gn_377, gn_378, gn_379, gn_380, gn_381, gn_382, gn_383, gn_384, gn_385, gn_386, gn_387, gn_388, gn_389, gn_390, gn_391, gn_392, gn_393, gn_394, gn_395, gn_396, gn_397, gn_398, gn_399, gn_400, gn_401, gn_402, gn_403, lm_1 hL, lm_14 hL, lm_15 hL, lm_16 hL, lm_17 hL, lm_18 hL, lm_19 hL, lm_20 hL, lm_21 hL, lm_22 hL, lm_23 hL, lm_24 hL, lm_25 hL, lm_26 hL, lm_27 hL, lm_28 hL, lm_29 hL, lm_30 hL, lm_31 hL, lm_32 hL, lm_33 hL, lm_34 hL, lm_35 hL, lm_36 hL, lm_37 hL, lm_39 hL, lm_40 hL, lm_42 hL, lm_43 hL, lm_44 hL, lm_45 hL, lm_47 hL, lm_48 hL, lm_49 hL, lm_50 hL, lm_51 hL, h13, Int.mul_one, pl_w, pl_i, if_neg]
      rw [if_pos q]
    · show pfX12_trustNamed_b2 pd_SH 5000 (k + 1) G 367 w _ = _
      simp (disch := omega) only [pfX12_trustNamed_b2, pl_l, pl_b, pl_iT, pl_t, pl_f, gx_367, gx_368, gx_369, gx_370, gx_371, gx_372, gx_373, gx_374, gx_375, gx_376, gx_377, gx_378, gx_379, gx_380, gx_381, gx_382, gx_383, gx_384, gx_385, gx_386, gx_387, gx_388, gx_389, gx_390, gx_391, gx_392, gx_393, gx_394, gx_395, gx_396, gx_397, gx_398, gx_399, gx_400, gx_401, gx_402, gx_403, gn_368, gn_369, gn_370, gn_371, gn_372, gn_373, gn_374, gn_375, gn_376, gn_377, gn_378, gn_379, gn_380, gn_381, gn_382, gn_383, gn_384, gn_385, gn_386, gn_387, gn_388, gn_389, gn_390, gn_391, gn_392, gn_393, gn_394, gn_395, gn_396, gn_397, gn_398, gn_399, gn_400, gn_401, gn_402, gn_403, lm_1 hL, lm_14 hL, lm_15 hL, lm_16 hL, lm_17 hL, lm_18 hL, lm_19 hL, lm_20 hL, lm_21 hL, lm_22 hL, lm_23 hL, lm_24 hL, lm_25 hL, lm_26 hL, lm_27 hL, lm_28 hL, lm_29 hL, lm_30 hL, lm_31 hL, lm_32 hL, lm_33 hL, lm_34 hL, lm_35 hL, lm_36 hL, lm_37 hL, lm_39 hL, lm_40 hL, lm_42 hL, lm_43 hL, lm_44 hL, lm_45 hL, lm_47 hL, lm_48 hL, lm_49 hL, lm_50 hL, lm_51 hL, h13, pl_i, if_pos]
  rw [e]
  rcases fI_bd hp with k | k
  · rw [if_pos k.1]
  · rw [if_neg (by omega), k]
theorem r_aNamed (hL : pd_Ly G) (h13 : G 367 13 = 1) (n : 0 ≤ bn G 371 0 ∧ bn G 371 0 ≤ 10) {w p : Int} (hp : fI (fun k => bn G 379 k = w) (bn G 371 0) p) : pfX12_accountNamed pd_SH 5000 G 367 w = some (p, G) := by
  rw [bn_371] at n hp
  have e : pfX12_accountNamed pd_SH 5000 G 367 w = if 0 ≤ p then some (p, G) else some (-1, G) := by
    unfold pfX12_accountNamed
    refine pl_fi (f := fun j i => pfX12_accountNamed_b2 pd_SH 5000 j G 367 w i) (hit := fun i => some (i, G)) (miss := some (-1, G)) n.1 (fun k i x y q => ?_) (fun k i x y q => ?_) (fun k => ?_) 5000 (by omega) hp
    · show pfX12_accountNamed_b2 pd_SH 5000 (k + 1) G 367 w i = _
      rw [bn_379] at q
      simp (disch := omega) only [pfX12_accountNamed_b2, pl_l, pl_b, pl_iT, pl_t, pl_f, gx_367, gx_368, gx_369, gx_370, gx_371, gx_372, gx_373, gx_374, gx_375, gx_376, gx_377, gx_378, gx_379, gx_380, gx_381, gx_382, gx_383, gx_384, gx_385, gx_386, gx_387, gx_388, gx_389, gx_390, gx_391, gx_392, gx_393, gx_394, gx_395, gx_396, gx_397, gx_398, gx_399, gx_400, gx_401, gx_402, gx_403, gn_368, gn_369, gn_370, gn_371, gn_372, gn_373, gn_374, gn_375, gn_376, gn_377, gn_378, gn_379, gn_380, gn_381, gn_382, gn_383, gn_384, gn_385, gn_386, gn_387, gn_388, gn_389, gn_390, gn_391, gn_392, gn_393, gn_394, gn_395, gn_396, gn_397, gn_398, gn_399, gn_400, gn_401, gn_402, gn_403, lm_1 hL, lm_14 hL, lm_15 hL, lm_16 hL, lm_17 hL, lm_18 hL, lm_19 hL, lm_20 hL, lm_21 hL, lm_22 hL, lm_23 hL, lm_24 hL, lm_25 hL, lm_26 hL, lm_27 hL, lm_28 hL, lm_29 hL, lm_30 hL, lm_31 hL, lm_32 hL, lm_33 hL, lm_34 hL, lm_35 hL, lm_36 hL, lm_37 hL, lm_39 hL, lm_40 hL, lm_42 hL, lm_43 hL, lm_44 hL, lm_45 hL, lm_47 hL, lm_48 hL, lm_49 hL, lm_50 hL, lm_51 hL, h13, Int.mul_one, pl_w, pl_i, if_neg]
    · show pfX12_accountNamed_b2 pd_SH 5000 (k + 1) G 367 w i = _
      rw [bn_379] at q
      simp (disch := omega) only [pfX12_accountNamed_b2, pl_l, pl_b, pl_iT, pl_t, pl_f, gx_367, gx_368, gx_369, gx_370, gx_371, gx_372, gx_373, gx_374, gx_375, gx_376, gx_377, gx_378, gx_379, gx_380, gx_381, gx_382, gx_383, gx_384, gx_385, gx_386, gx_387, gx_388, gx_389, gx_390, gx_391, gx_392, gx_393, gx_394, gx_395, gx_396, gx_397, gx_398, gx_399, gx_400, gx_401, gx_402, gx_403, gn_368, gn_369, gn_370, gn_371, gn_372, gn_373, gn_374, gn_375, gn_376, gn_377, gn_378, gn_379, gn_380, gn_381, gn_382, gn_383, gn_384, gn_385, gn_386, gn_387, gn_388, gn_389, gn_390, gn_391, gn_392, gn_393, gn_394, gn_395, gn_396, gn_397, gn_398, gn_399, gn_400, gn_401, gn_402, gn_403, lm_1 hL, lm_14 hL, lm_15 hL, lm_16 hL, lm_17 hL, lm_18 hL, lm_19 hL, lm_20 hL, lm_21 hL, lm_22 hL, lm_23 hL, lm_24 hL, lm_25 hL, lm_26 hL, lm_27 hL, lm_28 hL, lm_29 hL, lm_30 hL, lm_31 hL, lm_32 hL, lm_33 hL, lm_34 hL, lm_35 hL, lm_36 hL, lm_37 hL, lm_39 hL, lm_40 hL, lm_42 hL, lm_43 hL, lm_44 hL, lm_45 hL, lm_47 hL, lm_48 hL, lm_49 hL, lm_50 hL, lm_51 hL, h13, Int.mul_one, pl_w, pl_i, if_neg]
      rw [if_pos q]
    · show pfX12_accountNamed_b2 pd_SH 5000 (k + 1) G 367 w _ = _
      simp (disch := omega) only [pfX12_accountNamed_b2, pl_l, pl_b, pl_iT, pl_t, pl_f, gx_367, gx_368, gx_369, gx_370, gx_371, gx_372, gx_373, gx_374, gx_375, gx_376, gx_377, gx_378, gx_379, gx_380, gx_381, gx_382, gx_383, gx_384, gx_385, gx_386, gx_387, gx_388, gx_389, gx_390, gx_391, gx_392, gx_393, gx_394, gx_395, gx_396, gx_397, gx_398, gx_399, gx_400, gx_401, gx_402, gx_403, gn_368, gn_369, gn_370, gn_371, gn_372, gn_373, gn_374, gn_375, gn_376, gn_377, gn_378, gn_379, gn_380, gn_381, gn_382, gn_383, gn_384, gn_385, gn_386, gn_387, gn_388, gn_389, gn_390, gn_391, gn_392, gn_393, gn_394, gn_395, gn_396, gn_397, gn_398, gn_399, gn_400, gn_401, gn_402, gn_403, lm_1 hL, lm_14 hL, lm_15 hL, lm_16 hL, lm_17 hL, lm_18 hL, lm_19 hL, lm_20 hL, lm_21 hL, lm_22 hL, lm_23 hL, lm_24 hL, lm_25 hL, lm_26 hL, lm_27 hL, lm_28 hL, lm_29 hL, lm_30 hL, lm_31 hL, lm_32 hL, lm_33 hL, lm_34 hL, lm_35 hL, lm_36 hL, lm_37 hL, lm_39 hL, lm_40 hL, lm_42 hL, lm_43 hL, lm_44 hL, lm_45 hL, lm_47 hL, lm_48 hL, lm_49 hL, lm_50 hL, lm_51 hL, h13, pl_i, if_pos]
  rw [e]
  rcases fI_bd hp with k | k
  · rw [if_pos k.1]
  · rw [if_neg (by omega), k]
/-- the names told so far, of the class's book b and the book B -/
def jM (b : Int) (F B : pd_F) : Prop := (F b 9 = B 369 0 ∧ F b 10 = B 370 0 ∧ F b 11 = B 371 0) ∧ ((0 ≤ B 369 0 ∧ B 369 0 ≤ 12) ∧ (0 ≤ B 370 0 ∧ B 370 0 ≤ 5) ∧ 0 ≤ B 371 0 ∧ B 371 0 ≤ 10) ∧
  (∀ p, 0 ≤ p → p < B 369 0 → ∃ f, nm (F (b + 10 + 2 * p) 2) (B 374 p) f) ∧ (∀ t, 0 ≤ t → t < B 370 0 → ∃ f, nm (F (b + 34 + 4 * t) 4) (B 378 t) f) ∧ (∀ a, 0 ≤ a → a < B 371 0 → ∃ f, nm (F (b + 34 + 4 * (5 + a)) 4) (B 379 a) f) ∧
  (∀ a p, 0 ≤ a → a < B 371 0 → 0 ≤ p → p < B 369 0 → B 379 a ≠ B 374 p) ∧ ∀ a t, 0 ≤ a → a < B 371 0 → 0 ≤ t → t < B 370 0 → B 379 a ≠ B 378 t
theorem jM.fr {F' B B' : pd_F} (h : jM b F B) (e1 : F' b 9 = F b 9 ∧ F' b 10 = F b 10 ∧ F' b 11 = F b 11) (e2 : B' 369 0 = B 369 0 ∧ B' 370 0 = B 370 0 ∧ B' 371 0 = B 371 0) (e3 : ∀ p, 0 ≤ p → p < B 369 0 → F' (b + 10 + 2 * p) 2 = F (b + 10 + 2 * p) 2 ∧ B' 374 p = B 374 p)
    (e4 : ∀ p, 0 ≤ p → p < B 370 0 → F' (b + 34 + 4 * p) 4 = F (b + 34 + 4 * p) 4 ∧ B' 378 p = B 378 p) (e5 : ∀ p, 0 ≤ p → p < B 371 0 → F' (b + 34 + 4 * (5 + p)) 4 = F (b + 34 + 4 * (5 + p)) 4 ∧ B' 379 p = B 379 p) : jM b F' B' := by
  obtain ⟨h1, h2, h3, h4, h5, h6, h7⟩ := h
  unfold jM
  rw [e1.1, e1.2.1, e1.2.2, e2.1, e2.2.1, e2.2.2]
  refine ⟨h1, h2, fun p x y => ?_, fun p x y => ?_, fun p x y => ?_, fun a p x y z w => ?_, fun a p x y z w => ?_⟩
  · rw [(e3 p x y).1, (e3 p x y).2]; exact h3 p x y
  · rw [(e4 p x y).1, (e4 p x y).2]; exact h4 p x y
  · rw [(e5 p x y).1, (e5 p x y).2]; exact h5 p x y
  · rw [(e5 a x y).2, (e3 p z w).2]; exact h6 a p x y z w
  · rw [(e5 a x y).2, (e4 p z w).2]; exact h7 a p x y z w
theorem j_find (h : J b F G) (hM : jM b F (bn G)) : ∃ p t a, (fI (fun k => bn G 374 k = G 367 8) (bn G 369 0) p ∧ fI (fun k => bn G 378 k = G 367 8) (bn G 370 0) t ∧ fI (fun k => bn G 379 k = G 367 8) (bn G 371 0) a) ∧
    (pfX12_personNamed pd_SH 5000 G 367 (G 367 8) = some (p, G) ∧ pfX12_trustNamed pd_SH 5000 G 367 (G 367 8) = some (t, G) ∧ pfX12_accountNamed pd_SH 5000 G 367 (G 367 8) = some (a, G)) ∧
    (F 3 4 = 1 → pfX0_find pd_SH 5000 F b (F 3 8) = some (if 0 ≤ p then p else if 0 ≤ t then 12 + t else if 0 ≤ a then 17 + a else -1, F)) ∧ (0 ≤ a → p = -1 ∧ t = -1) := by
  obtain ⟨h1, h2, h3, h5, h6, h7, h8, h9⟩ := id h
  obtain ⟨⟨m1, m2, m3⟩, ⟨n1, n2, n3⟩, m4, m5, m6, m7, m8⟩ := id hM
  obtain ⟨p, hp⟩ := fI_ex (fun k => bn G 374 k = G 367 8) n1.1
  obtain ⟨t, ht⟩ := fI_ex (fun k => bn G 378 k = G 367 8) n2.1
  obtain ⟨a, ha⟩ := fI_ex (fun k => bn G 379 k = G 367 8) n3.1
  refine ⟨p, t, a, ⟨hp, ht, ha⟩, ⟨r_pNamed h2 h9 n1 hp, r_tNamed h2 h9 n2 ht, r_aNamed h2 h9 n3 ha⟩, fun k => ?_, fun k => ?_⟩
  · have kn := h7.2.2.2.2.2 k
    refine c_find h1 h3 (by rw [m1]; exact n1) (by rw [m2]; exact n2) (by rw [m3]; exact n3) ?_ ?_ ?_
    · rw [m1]
      refine fI_c hp fun j x y => ?_
      obtain ⟨f, hf⟩ := m4 j x y
      exact (nm_eq hf kn).symm
    · rw [m2]
      refine fI_c ht fun j x y => ?_
      obtain ⟨f, hf⟩ := m5 j x y
      exact (nm_eq hf kn).symm
    · rw [m3]
      refine fI_c ha fun j x y => ?_
      obtain ⟨f, hf⟩ := m6 j x y
      exact (nm_eq hf kn).symm
  · rcases ha with ⟨a0, a1, a2, _⟩ | ⟨a0, _⟩
    · constructor
      · rcases hp with ⟨p0, p1, p2, _⟩ | ⟨p0, _⟩
        · exact absurd (a2.trans p2.symm) (m7 a p a0 a1 p0 p1)
        · exact p0
      · rcases ht with ⟨p0, p1, p2, _⟩ | ⟨p0, _⟩
        · exact absurd (a2.trans p2.symm) (m8 a t a0 a1 p0 p1)
        · exact p0
    · omega
/-- a name that isn't there -/
theorem j_newName (h : J b F G) (hM : jM b F (bn G)) : (∃ F' G', pfX6_atNewName pd_SH 5000 F 2 = some (0, F') ∧ pfX12_newName pd_SH 5000 G 367 = some (0, G') ∧ zC F F' ∧ zR G G' ∧ jF F' G') ∨
    (pfX6_atNewName pd_SH 5000 F 2 = some (1, F) ∧ F 3 4 = 1 ∧ ((∀ p, 0 ≤ p → p < bn G 369 0 → bn G 374 p ≠ G 367 8) ∧ (∀ t, 0 ≤ t → t < bn G 370 0 → bn G 378 t ≠ G 367 8) ∧ ∀ a, 0 ≤ a → a < bn G 371 0 → bn G 379 a ≠ G 367 8) ∧
      pfX12_newName pd_SH 5000 G 367 = Option.bind (pfX12_steps pd_SH 5000 (pd_up G 367 38 (G 367 8)) 367) fun F6 => some (1, F6)) := by
  obtain ⟨h1, h2, h3, h5, h6, h7, h8, h9⟩ := id h
  obtain ⟨p, t, a, ⟨fp, ft, fa⟩, ⟨rp, rt, ra⟩, cf, -⟩ := j_find h hM
  obtain ⟨sb, -⟩ := sh_b h3
  unfold pfX6_atNewName pfX12_newName
  simp only [pl_l, pl_b, pl_iT, pl_t, pl_f, gx_367, gx_368, gx_369, gx_370, gx_371, gx_372, gx_373, gx_374, gx_375, gx_376, gx_377, gx_378, gx_379, gx_380, gx_381, gx_382, gx_383, gx_384, gx_385, gx_386, gx_387, gx_388, gx_389, gx_390, gx_391, gx_392, gx_393, gx_394, gx_395, gx_396, gx_397, gx_398, gx_399, gx_400, gx_401, gx_402, gx_403, gn_368, gn_369, gn_370, gn_371, gn_372, gn_373, gn_374, gn_375, gn_376, gn_377, gn_378, gn_379, gn_380, gn_381, gn_382, gn_383, gn_384, gn_385, gn_386, gn_387, gn_388, gn_389, gn_390, gn_391, gn_392, gn_393, gn_394, gn_395, gn_396, gn_397, gn_398, gn_399, gn_400, gn_401, gn_402, gn_403, gx_1, gx_2, gx_3, gx_4, gx_113, gx_114, gx_115, gx_116, gx_212, gx_213, gx_224, gn_4, gn_114, gn_115, gn_116, gn_213, gn_224, h.name, r_isName]
  by_cases k : jN G
  · have k4 : F 3 4 = 1 := by rw [h7.1]; exact k.1
    have cf := cf k4
    have m := j_must h (v := 1) (k := 1) (by decide)
    rw [ci_t k, if_pos (by decide)]
    simp only [lx_1_0 h1, lx_1_1 h1, lx_1_2 h1, lx_1_3 h1, lx_1_4 h1, lx_1_5 h1, lx_1_6 h1, lx_1_7 h1, lx_2_0 h1, lx_3_0 h1, lx_113_0 h1, lx_113_1 h1, lx_113_2 h1, lx_212_0 h1, lx_212_1 h1, gx_1, gx_2, gx_3, gx_4, gx_113, gx_114, gx_115, gx_116, gx_212, gx_213, gx_224, gn_4, gn_114, gn_115, gn_116, gn_213, gn_224, pl_l, pl_b, pl_iT, pl_t, pl_f, h5, pl_ob sb, cf, m, rp, rt, ra]
    rw [if_neg (show ¬ (1 : Int) = 0 by decide)]
    by_cases z : 0 ≤ p ∨ 0 ≤ t ∨ 0 ≤ a
    · left
      obtain ⟨F', G', a1, a2, a3, a4, a5⟩ := j_fail h (k := 2) (by decide)
      refine ⟨F', G', ?_, ?_, a4, a5, a3⟩
      · have en : ¬ (if 0 ≤ p then p else if 0 ≤ t then 12 + t else if 0 ≤ a then 17 + a else -1) = -1 := by
          by_cases z1 : 0 ≤ p
          · rw [if_pos z1]; omega
          rw [if_neg z1]
          by_cases z2 : 0 ≤ t
          · rw [if_pos z2]; omega
          rw [if_neg z2, if_pos (by omega)]; omega
        rw [if_neg en]
        simp only [a1, pl_l, pl_b, pl_iT, pl_t, pl_f]
      · have e50 : pfX12_newName_b50 pd_SH 5000 G 367 367 = some (0, G') := by
          unfold pfX12_newName_b50 pfX12_newName_b51
          simp only [pl_l, pl_b, pl_iT, pl_t, pl_f, gx_367, gx_368, gx_369, gx_370, gx_371, gx_372, gx_373, gx_374, gx_375, gx_376, gx_377, gx_378, gx_379, gx_380, gx_381, gx_382, gx_383, gx_384, gx_385, gx_386, gx_387, gx_388, gx_389, gx_390, gx_391, gx_392, gx_393, gx_394, gx_395, gx_396, gx_397, gx_398, gx_399, gx_400, gx_401, gx_402, gx_403, gn_368, gn_369, gn_370, gn_371, gn_372, gn_373, gn_374, gn_375, gn_376, gn_377, gn_378, gn_379, gn_380, gn_381, gn_382, gn_383, gn_384, gn_385, gn_386, gn_387, gn_388, gn_389, gn_390, gn_391, gn_392, gn_393, gn_394, gn_395, gn_396, gn_397, gn_398, gn_399, gn_400, gn_401, gn_402, gn_403, a2]
          rw [if_neg (by decide)]
        by_cases z1 : p ≥ 0
        · rw [if_pos z1]; exact e50
        rw [if_neg z1]
        by_cases z2 : t ≥ 0
        · rw [if_pos z2]; exact e50
        rw [if_neg z2, if_pos (by omega)]; exact e50
    · right
      have z1 : ¬ 0 ≤ p := fun e => z (Or.inl e)
      have z2 : ¬ 0 ≤ t := fun e => z (Or.inr (Or.inl e))
      have z3 : ¬ 0 ≤ a := fun e => z (Or.inr (Or.inr e))
      have m2 := j_must h (v := 1) (k := 2) (by decide)
      refine ⟨?_, k4, ⟨?_, ?_, ?_⟩, ?_⟩
      · rw [if_neg z1, if_neg z2, if_neg z3, if_pos rfl]
      · rcases fp with ⟨x, _⟩ | ⟨_, x⟩
        · exact absurd x z1
        · exact x
      · rcases ft with ⟨x, _⟩ | ⟨_, x⟩
        · exact absurd x z2
        · exact x
      · rcases fa with ⟨x, _⟩ | ⟨_, x⟩
        · exact absurd x z3
        · exact x
      · rw [if_neg z1, if_neg z2, if_neg z3]
        unfold pfX12_newName_b51
        simp only [pl_l, pl_b, pl_iT, pl_t, pl_f, gx_367, gx_368, gx_369, gx_370, gx_371, gx_372, gx_373, gx_374, gx_375, gx_376, gx_377, gx_378, gx_379, gx_380, gx_381, gx_382, gx_383, gx_384, gx_385, gx_386, gx_387, gx_388, gx_389, gx_390, gx_391, gx_392, gx_393, gx_394, gx_395, gx_396, gx_397, gx_398, gx_399, gx_400, gx_401, gx_402, gx_403, gn_368, gn_369, gn_370, gn_371, gn_372, gn_373, gn_374, gn_375, gn_376, gn_377, gn_378, gn_379, gn_380, gn_381, gn_382, gn_383, gn_384, gn_385, gn_386, gn_387, gn_388, gn_389, gn_390, gn_391, gn_392, gn_393, gn_394, gn_395, gn_396, gn_397, gn_398, gn_399, gn_400, gn_401, gn_402, gn_403, m2]
        rw [if_pos (by decide)]
  · left
    obtain ⟨F', G', a1, a2, a3, a4, a5⟩ := j_fail h (k := 1) (by decide)
    refine ⟨F', G', ?_, ?_, a4, a5, a3⟩
    · rw [ci_f k, if_neg (by decide)]
      simp only [a1, pl_l, pl_b, pl_iT, pl_t, pl_f]
      rw [pl_i (by decide)]
    · rw [ci_f k]
      simp only [a2, pl_l, pl_b, pl_iT, pl_t, pl_f]
/-- an account told ahead -/
theorem j_toldA (h : J b F G) (hM : jM b F (bn G)) : (∃ F' G', pfX6_takeTold pd_SH 5000 F 2 17 27 = some (-1, F') ∧ pfX12_highLine pd_SH 5000 G 367 = some (0, G') ∧ zC F F' ∧ zR G G' ∧ jF F' G') ∨
    ∃ a, (0 ≤ a ∧ a < bn G 371 0) ∧ F 3 4 = 1 ∧ pfX6_takeTold pd_SH 5000 F 2 17 27 = (Option.bind (pfX9_advance pd_SH 5000 F 3) fun F11 => some (a, F11)) ∧ pfX12_highLine pd_SH 5000 G 367 = pfX12_highLine_b31 pd_SH 5000 G 367 a 1 367 := by
  obtain ⟨h1, h2, h3, h5, h6, h7, h8, h9⟩ := id h
  obtain ⟨p, t, a, ⟨fp, ft, fa⟩, ⟨rp, rt, ra⟩, cf, ap⟩ := j_find h hM
  obtain ⟨-, ⟨n1, n2, n3⟩, -⟩ := id hM
  obtain ⟨sb, -⟩ := sh_b h3
  unfold pfX6_takeTold pfX12_highLine
  simp only [pl_l, pl_b, pl_iT, pl_t, pl_f, gx_367, gx_368, gx_369, gx_370, gx_371, gx_372, gx_373, gx_374, gx_375, gx_376, gx_377, gx_378, gx_379, gx_380, gx_381, gx_382, gx_383, gx_384, gx_385, gx_386, gx_387, gx_388, gx_389, gx_390, gx_391, gx_392, gx_393, gx_394, gx_395, gx_396, gx_397, gx_398, gx_399, gx_400, gx_401, gx_402, gx_403, gn_368, gn_369, gn_370, gn_371, gn_372, gn_373, gn_374, gn_375, gn_376, gn_377, gn_378, gn_379, gn_380, gn_381, gn_382, gn_383, gn_384, gn_385, gn_386, gn_387, gn_388, gn_389, gn_390, gn_391, gn_392, gn_393, gn_394, gn_395, gn_396, gn_397, gn_398, gn_399, gn_400, gn_401, gn_402, gn_403, gx_1, gx_2, gx_3, gx_4, gx_113, gx_114, gx_115, gx_116, gx_212, gx_213, gx_224, gn_4, gn_114, gn_115, gn_116, gn_213, gn_224, h.name, r_isName, ra]
  by_cases k : jN G
  · have k4 : F 3 4 = 1 := by rw [h7.1]; exact k.1
    have cf := cf k4
    have m := j_must h (v := 1) (k := 1) (by decide)
    have bp := fI_bd fp
    have bt := fI_bd ft
    have ba := fI_bd fa
    rw [ci_t k, if_pos (by decide)]
    simp only [lx_1_0 h1, lx_1_1 h1, lx_1_2 h1, lx_1_3 h1, lx_1_4 h1, lx_1_5 h1, lx_1_6 h1, lx_1_7 h1, lx_2_0 h1, lx_3_0 h1, lx_113_0 h1, lx_113_1 h1, lx_113_2 h1, lx_212_0 h1, lx_212_1 h1, gx_1, gx_2, gx_3, gx_4, gx_113, gx_114, gx_115, gx_116, gx_212, gx_213, gx_224, gn_4, gn_114, gn_115, gn_116, gn_213, gn_224, pl_l, pl_b, pl_iT, pl_t, pl_f, h5, pl_ob sb, cf, m]
    rw [if_neg (show ¬ (1 : Int) = 0 by decide)]
    by_cases z : 0 ≤ a
    · right
      obtain ⟨z1, z2⟩ := ap z
      have e17 : (if 0 ≤ p then p else if 0 ≤ t then 12 + t else if 0 ≤ a then 17 + a else -1) = 17 + a := by rw [if_neg (by omega), if_neg (by omega), if_pos z]
      refine ⟨a, by omega, k4, ?_, by rw [if_neg (by omega)]⟩
      rw [e17, if_neg (by omega), if_pos (by omega), pl_w (by omega), show 17 + a - 17 = a by omega]
    · left
      obtain ⟨F', G', a1, a2, a3, a4, a5⟩ := j_fail h (k := 3) (by decide)
      refine ⟨F', G', ?_, ?_, a4, a5, a3⟩
      · have e17 : (if 0 ≤ p then p else if 0 ≤ t then 12 + t else if 0 ≤ a then 17 + a else -1) < 17 := by
          by_cases z1 : 0 ≤ p
          · rw [if_pos z1]; omega
          rw [if_neg z1]
          by_cases z2 : 0 ≤ t
          · rw [if_pos z2]; omega
          rw [if_neg z2, if_neg z]; omega
        rw [if_pos e17]
        unfold pfX6_takeTold_b40
        simp only [pl_l, pl_b, pl_iT, pl_t, pl_f, gx_1, gx_2, gx_3, gx_4, gx_113, gx_114, gx_115, gx_116, gx_212, gx_213, gx_224, gn_4, gn_114, gn_115, gn_116, gn_213, gn_224, a1]
      · rw [if_pos (by omega)]
        unfold pfX12_highLine_b31
        simp only [pl_l, pl_b, pl_iT, pl_t, pl_f, gx_367, gx_368, gx_369, gx_370, gx_371, gx_372, gx_373, gx_374, gx_375, gx_376, gx_377, gx_378, gx_379, gx_380, gx_381, gx_382, gx_383, gx_384, gx_385, gx_386, gx_387, gx_388, gx_389, gx_390, gx_391, gx_392, gx_393, gx_394, gx_395, gx_396, gx_397, gx_398, gx_399, gx_400, gx_401, gx_402, gx_403, gn_368, gn_369, gn_370, gn_371, gn_372, gn_373, gn_374, gn_375, gn_376, gn_377, gn_378, gn_379, gn_380, gn_381, gn_382, gn_383, gn_384, gn_385, gn_386, gn_387, gn_388, gn_389, gn_390, gn_391, gn_392, gn_393, gn_394, gn_395, gn_396, gn_397, gn_398, gn_399, gn_400, gn_401, gn_402, gn_403, a2]
        rw [if_neg (by decide)]
  · left
    obtain ⟨F', G', a1, a2, a3, a4, a5⟩ := j_fail h (k := 1) (by decide)
    refine ⟨F', G', ?_, ?_, a4, a5, a3⟩
    · rw [ci_f k, if_neg (by decide)]
      simp only [a1, pl_l, pl_b, pl_iT, pl_t, pl_f]
    · rw [ci_f k]
      simp only [a2, pl_l, pl_b, pl_iT, pl_t, pl_f]
/-- a person told ahead -/
theorem j_toldP (h : J b F G) (hM : jM b F (bn G)) : (∃ F' G', pfX6_takeTold pd_SH 5000 F 2 0 12 = some (-1, F') ∧ pfX12_loanLine pd_SH 5000 G 367 = some (0, G') ∧ zC F F' ∧ zR G G' ∧ jF F' G') ∨
    ∃ a, (0 ≤ a ∧ a < bn G 369 0) ∧ F 3 4 = 1 ∧ pfX6_takeTold pd_SH 5000 F 2 0 12 = (Option.bind (pfX9_advance pd_SH 5000 F 3) fun F11 => some (a, F11)) ∧ pfX12_loanLine pd_SH 5000 G 367 = pfX12_loanLine_b31 pd_SH 5000 G 367 a 1 367 := by
  obtain ⟨h1, h2, h3, h5, h6, h7, h8, h9⟩ := id h
  obtain ⟨p, t, a, ⟨fp, ft, fa⟩, ⟨rp, rt, ra⟩, cf, ap⟩ := j_find h hM
  obtain ⟨-, ⟨n1, n2, n3⟩, -⟩ := id hM
  obtain ⟨sb, -⟩ := sh_b h3
  unfold pfX6_takeTold pfX12_loanLine
  simp only [pl_l, pl_b, pl_iT, pl_t, pl_f, gx_367, gx_368, gx_369, gx_370, gx_371, gx_372, gx_373, gx_374, gx_375, gx_376, gx_377, gx_378, gx_379, gx_380, gx_381, gx_382, gx_383, gx_384, gx_385, gx_386, gx_387, gx_388, gx_389, gx_390, gx_391, gx_392, gx_393, gx_394, gx_395, gx_396, gx_397, gx_398, gx_399, gx_400, gx_401, gx_402, gx_403, gn_368, gn_369, gn_370, gn_371, gn_372, gn_373, gn_374, gn_375, gn_376, gn_377, gn_378, gn_379, gn_380, gn_381, gn_382, gn_383, gn_384, gn_385, gn_386, gn_387, gn_388, gn_389, gn_390, gn_391, gn_392, gn_393, gn_394, gn_395, gn_396, gn_397, gn_398, gn_399, gn_400, gn_401, gn_402, gn_403, gx_1, gx_2, gx_3, gx_4, gx_113, gx_114, gx_115, gx_116, gx_212, gx_213, gx_224, gn_4, gn_114, gn_115, gn_116, gn_213, gn_224, h.name, r_isName, rp]
  by_cases k : jN G
  · have k4 : F 3 4 = 1 := by rw [h7.1]; exact k.1
    have cf := cf k4
    have m := j_must h (v := 1) (k := 1) (by decide)
    have bp := fI_bd fp
    have bt := fI_bd ft
    have ba := fI_bd fa
    rw [ci_t k, if_pos (by decide)]
    simp only [lx_1_0 h1, lx_1_1 h1, lx_1_2 h1, lx_1_3 h1, lx_1_4 h1, lx_1_5 h1, lx_1_6 h1, lx_1_7 h1, lx_2_0 h1, lx_3_0 h1, lx_113_0 h1, lx_113_1 h1, lx_113_2 h1, lx_212_0 h1, lx_212_1 h1, gx_1, gx_2, gx_3, gx_4, gx_113, gx_114, gx_115, gx_116, gx_212, gx_213, gx_224, gn_4, gn_114, gn_115, gn_116, gn_213, gn_224, pl_l, pl_b, pl_iT, pl_t, pl_f, h5, pl_ob sb, cf, m]
    rw [if_neg (show ¬ (1 : Int) = 0 by decide)]
    by_cases z : 0 ≤ p
    · right
      refine ⟨p, by omega, k4, ?_, by rw [if_neg (by omega)]⟩
      rw [if_pos z, if_neg (by omega), if_pos (by omega), pl_w (by omega), show p - 0 = p by omega]
    · left
      obtain ⟨F', G', a1, a2, a3, a4, a5⟩ := j_fail h (k := 3) (by decide)
      have e40 : pfX6_takeTold_b40 pd_SH 5000 F 2 = some (-1, F') := by
        unfold pfX6_takeTold_b40
        simp only [pl_l, pl_b, pl_iT, pl_t, pl_f, gx_1, gx_2, gx_3, gx_4, gx_113, gx_114, gx_115, gx_116, gx_212, gx_213, gx_224, gn_4, gn_114, gn_115, gn_116, gn_213, gn_224, a1]
      refine ⟨F', G', ?_, ?_, a4, a5, a3⟩
      · rw [if_neg z]
        by_cases z2 : 0 ≤ t
        · rw [if_pos z2, if_neg (by omega), if_neg (by omega)]; exact e40
        rw [if_neg z2]
        by_cases z3 : 0 ≤ a
        · rw [if_pos z3, if_neg (by omega), if_neg (by omega)]; exact e40
        · rw [if_neg z3, if_pos (by decide)]; exact e40
      · rw [if_pos (by omega)]
        unfold pfX12_loanLine_b31
        simp only [pl_l, pl_b, pl_iT, pl_t, pl_f, gx_367, gx_368, gx_369, gx_370, gx_371, gx_372, gx_373, gx_374, gx_375, gx_376, gx_377, gx_378, gx_379, gx_380, gx_381, gx_382, gx_383, gx_384, gx_385, gx_386, gx_387, gx_388, gx_389, gx_390, gx_391, gx_392, gx_393, gx_394, gx_395, gx_396, gx_397, gx_398, gx_399, gx_400, gx_401, gx_402, gx_403, gn_368, gn_369, gn_370, gn_371, gn_372, gn_373, gn_374, gn_375, gn_376, gn_377, gn_378, gn_379, gn_380, gn_381, gn_382, gn_383, gn_384, gn_385, gn_386, gn_387, gn_388, gn_389, gn_390, gn_391, gn_392, gn_393, gn_394, gn_395, gn_396, gn_397, gn_398, gn_399, gn_400, gn_401, gn_402, gn_403, a2]
        rw [if_neg (by decide)]
  · left
    obtain ⟨F', G', a1, a2, a3, a4, a5⟩ := j_fail h (k := 1) (by decide)
    refine ⟨F', G', ?_, ?_, a4, a5, a3⟩
    · rw [ci_f k, if_neg (by decide)]
      simp only [a1, pl_l, pl_b, pl_iT, pl_t, pl_f]
    · rw [ci_f k]
      simp only [a2, pl_l, pl_b, pl_iT, pl_t, pl_f]
end NF

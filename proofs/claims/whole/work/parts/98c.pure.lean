/-! the reference's tape: one token on -/
/-- the tape of the reference is t up to N -/
def jT (F : pd_F) (t : Int → Int) (N : Int) : Prop := F 367 3 = N ∧ (0 ≤ N ∧ N ≤ 1000) ∧ ∀ j, 0 ≤ j → j < N → F 368 j = t j ∧ -128 ≤ t j ∧ t j ≤ 127
section TR
variable {F : pd_F} {t : Int → Int} {N : Int}
theorem jT.up {j v : Int} (h : jT F t N) (hj : j ≠ 3) : jT (pd_up F 367 j v) t N := ⟨by rw [pu_r, if_neg (fun e => hj e.symm)]; exact h.1, h.2.1, fun i a b => by rw [pu_a (by decide)]; exact h.2.2 i a b⟩
theorem r_see (hL : pd_Ly F) (hT : jT F t N) {k : Int} (hk : 0 ≤ k) : pfX12_see pd_SH 5000 F 367 k = some (if k < N then t k % 256 else -1, F) := by
  unfold pfX12_see
  have h1 := hT.1
  have h2 := hT.2.1
  simp only [pl_l, pl_b, pl_iT, pl_t, pl_f, gx_367, gx_368, gx_369, gx_370, gx_371, gx_372, gx_373, gx_374, gx_375, gx_376, gx_377, gx_378, gx_379, gx_380, gx_381, gx_382, gx_383, gx_384, gx_385, gx_386, gx_387, gx_388, gx_389, gx_390, gx_391, gx_392, gx_393, gx_394, gx_395, gx_396, gx_397, gx_398, gx_399, gx_400, gx_401, gx_402, gx_403, gn_368, gn_369, gn_370, gn_371, gn_372, gn_373, gn_374, gn_375, gn_376, gn_377, gn_378, gn_379, gn_380, gn_381, gn_382, gn_383, gn_384, gn_385, gn_386, gn_387, gn_388, gn_389, gn_390, gn_391, gn_392, gn_393, gn_394, gn_395, gn_396, gn_397, gn_398, gn_399, gn_400, gn_401, gn_402, gn_403, lm_1 hL, lm_14 hL, lm_15 hL, lm_16 hL, lm_17 hL, lm_18 hL, lm_19 hL, lm_20 hL, lm_21 hL, lm_22 hL, lm_23 hL, lm_24 hL, lm_25 hL, lm_26 hL, lm_27 hL, lm_28 hL, lm_29 hL, lm_30 hL, lm_31 hL, lm_32 hL, lm_33 hL, lm_34 hL, lm_35 hL, lm_36 hL, lm_37 hL, lm_39 hL, lm_40 hL, lm_42 hL, lm_43 hL, lm_44 hL, lm_45 hL, lm_47 hL, lm_48 hL, lm_49 hL, lm_50 hL, lm_51 hL, h1]
  by_cases z : k < N
  · obtain ⟨a, b⟩ := hT.2.2 k hk z
    rw [if_neg (by omega), if_pos z, pl_i (by omega), a, pl_and255 b]
  · rw [if_pos (by omega), if_neg z]
theorem r_w217 (hL : pd_Ly F) {x e p : Int} (hp : F 367 4 = p) (he : 0 ≤ p ∧ p ≤ e ∧ e ≤ 1000) : pfX12_steps_b217 pd_SH 5000 (pd_up (pd_up F 367 8 x) 367 5 e) 367 = some (pd_up (pd_up (pd_up F 367 8 x) 367 5 e) 367 6 (if e - p ≤ 8 then 1 else 4)) := by
  have e3 : pd_up (pd_up F 367 8 x) 367 5 e 367 5 = e := by rw [pu_r, if_pos rfl]
  have e5 : pd_up (pd_up F 367 8 x) 367 5 e 367 4 = p := by rw [pu_r, if_neg (by decide), pu_r, if_neg (by decide), hp]
  unfold pfX12_steps_b217
  simp only [pl_l, pl_b, pl_iT, pl_t, pl_f, gx_367, gx_368, gx_369, gx_370, gx_371, gx_372, gx_373, gx_374, gx_375, gx_376, gx_377, gx_378, gx_379, gx_380, gx_381, gx_382, gx_383, gx_384, gx_385, gx_386, gx_387, gx_388, gx_389, gx_390, gx_391, gx_392, gx_393, gx_394, gx_395, gx_396, gx_397, gx_398, gx_399, gx_400, gx_401, gx_402, gx_403, gn_368, gn_369, gn_370, gn_371, gn_372, gn_373, gn_374, gn_375, gn_376, gn_377, gn_378, gn_379, gn_380, gn_381, gn_382, gn_383, gn_384, gn_385, gn_386, gn_387, gn_388, gn_389, gn_390, gn_391, gn_392, gn_393, gn_394, gn_395, gn_396, gn_397, gn_398, gn_399, gn_400, gn_401, gn_402, gn_403, e3, e5]
  rw [pl_w (by omega)]
  by_cases k : e - p ≤ 8
  · rw [if_neg (by omega), if_pos k]
  · rw [if_pos (by omega), if_neg k]
theorem r_word (hL : pd_Ly F) (hT : jT F t N) {p : Int} (h4 : F 367 4 = p) (h5 : F 367 5 = p) (h8 : F 367 8 = 0) (hp : 0 ≤ p ∧ p ≤ N) : ∃ x, pfX12_steps_b138 pd_SH 5000 5000 F 367 = some (pd_up (pd_up (pd_up F 367 8 x) 367 5 (En (ltB t) N p)) 367 6 (if En (ltB t) N p - p ≤ 8 then 1 else 4)) ∧
    (En (ltB t) N p - p ≤ 8 → x = w5 (fun k => t (p + k) - 96) (En (ltB t) N p - p).toNat) := by
  have hb := En_bd (P := ltB t) hp.2
  have hN := hT.2.1
  generalize hE : En (ltB t) N p = E at hb
  generalize hc : (fun k : Nat => t (p + k) - 96) = c
  have e0 : F = pd_up (pd_up F 367 8 0) 367 5 p := by
    have a := pu_id (F := F) (a := 367) (j := 8)
    rw [h8] at a
    have b := pu_id (F := F) (a := 367) (j := 5)
    rw [h5] at b
    rw [a, b]
  have go : (fun o => ∃ x, o = some (pd_up (pd_up (pd_up F 367 8 x) 367 5 E) 367 6 (if E - p ≤ 8 then 1 else 4)) ∧ (E - p ≤ 8 → x = w5 c (E - p).toNat)) (pfX12_steps_b138 pd_SH 5000 5000 (pd_up (pd_up F 367 8 0) 367 5 p) 367) := by
    refine pl_for (f := fun j (x : Int) i => pfX12_steps_b138 pd_SH 5000 j (pd_up (pd_up F 367 8 x) 367 5 i) 367) (P := fun i x => En (ltB t) N i = E ∧ p ≤ i ∧ (∀ j, p ≤ j → j < i → ltB t j = true) ∧ (i - p ≤ 8 → x = w5 c (i - p).toNat)) (N := N)
      (res := fun o => ∃ x, o = some (pd_up (pd_up (pd_up F 367 8 x) 367 5 E) 367 6 (if E - p ≤ 8 then 1 else 4)) ∧ (E - p ≤ 8 → x = w5 c (E - p).toNat)) ?_ ?_ 5000 0 p hp.1 hp.2 (by omega)
      ⟨hE, Int.le_refl _, fun j a b => by omega, fun _ => by rw [show (p - p).toNat = 0 by omega]; rfl⟩
    · intro k x i a0 b0 ⟨q1, q2, q3, q4⟩
      have g1 : pd_Ly (pd_up (pd_up F 367 8 x) 367 5 i) := (hL.up (pl_rc4 sx_367 (by decide))).up (pl_rc4 sx_367 (by decide))
      have hS := r_see g1 ((hT.up (j := 8) (v := x) (by decide)).up (j := 5) (v := i) (by decide)) a0
      have e4 : pd_up (pd_up F 367 8 x) 367 5 i 367 4 = p := by rw [pu_r, if_neg (by decide), pu_r, if_neg (by decide), h4]
      have e5 : pd_up (pd_up F 367 8 x) 367 5 i 367 5 = i := by rw [pu_r, if_pos rfl]
      have e8 : pd_up (pd_up F 367 8 x) 367 5 i 367 8 = x := by rw [pu_r, if_neg (by decide), pu_r, if_pos rfl]
      have ht := (hT.2.2 i a0 b0).2
      rw [if_pos b0] at hS
      show (∃ q', _ ∧ pfX12_steps_b138 pd_SH 5000 (k + 1) (pd_up (pd_up F 367 8 x) 367 5 i) 367 = pfX12_steps_b138 pd_SH 5000 k (pd_up (pd_up F 367 8 q') 367 5 (i + 1)) 367) ∨ ∃ x', pfX12_steps_b138 pd_SH 5000 (k + 1) (pd_up (pd_up F 367 8 x) 367 5 i) 367 = _ ∧ _
      by_cases z : 97 ≤ t i ∧ t i ≤ 122
      · left
        have hv : t i % 256 = t i := by omega
        rw [hv] at hS
        have hn : ∀ y, ∀ G, G = pd_up (pd_up F 367 8 x) 367 5 i → pfX12_steps_b201 pd_SH 5000 (pfX12_steps_b138 pd_SH 5000 k) G 367 y 367 = pfX12_steps_b138 pd_SH 5000 k (pd_up (pd_up F 367 8 y) 367 5 (i + 1)) 367 := fun y G hG => by
          subst hG
          have e5' : pd_up (pd_up (pd_up F 367 8 x) 367 5 i) 367 8 y 367 5 = i := by rw [pu_r, if_neg (by decide), e5]
          unfold pfX12_steps_b201
          simp only [pl_l, pl_b, pl_iT, pl_t, pl_f, gx_367, gx_368, gx_369, gx_370, gx_371, gx_372, gx_373, gx_374, gx_375, gx_376, gx_377, gx_378, gx_379, gx_380, gx_381, gx_382, gx_383, gx_384, gx_385, gx_386, gx_387, gx_388, gx_389, gx_390, gx_391, gx_392, gx_393, gx_394, gx_395, gx_396, gx_397, gx_398, gx_399, gx_400, gx_401, gx_402, gx_403, gn_368, gn_369, gn_370, gn_371, gn_372, gn_373, gn_374, gn_375, gn_376, gn_377, gn_378, gn_379, gn_380, gn_381, gn_382, gn_383, gn_384, gn_385, gn_386, gn_387, gn_388, gn_389, gn_390, gn_391, gn_392, gn_393, gn_394, gn_395, gn_396, gn_397, gn_398, gn_399, gn_400, gn_401, gn_402, gn_403, e5']
          rw [pl_w (by omega), pu_4 (by decide)]
        refine ⟨if i - p ≥ 8 then x else pd_Or (pd_Shl x 5) (t i - 96), ⟨?_, by omega, fun j u v => ?_, fun hk => ?_⟩, ?_⟩
        · rw [← q1]; exact (En_s b0 (ltB_t.mpr z)).symm
        · by_cases e : j = i
          · rw [e]; exact ltB_t.mpr z
          · exact q3 j u (by omega)
        · have hx := q4 (by omega)
          have hm : (i + 1 - p).toNat = (i - p).toNat + 1 := by omega
          have hcc : ∀ k, k < (i - p).toNat → 1 ≤ c k ∧ c k ≤ 26 := fun k hk => by
            have := ltB_t.mp (q3 (p + k) (by omega) (by omega))
            rw [← hc]
            show 1 ≤ t (p + k) - 96 ∧ t (p + k) - 96 ≤ 26
            omega
          have w := w5_bd hcc
          have p8 : 2 ^ (5 * (i - p).toNat) ≤ 2 ^ 35 := Nat.pow_le_pow_right (by decide) (by omega)
          have hci : c (i - p).toNat = t i - 96 := by
            rw [← hc]
            show t (p + ((i - p).toNat : Int)) - 96 = _
            rw [show p + ((i - p).toNat : Int) = i by omega]
          rw [hm, if_neg (by omega)]
          show _ = w5 c (i - p).toNat * 32 + c (i - p).toNat
          rw [hci, ← hx, pl_sh5 (by omega) (by omega)]
        · have eW : pd_W (t i - 96) = t i - 96 := pl_W (by omega)
          have hw : pfX12_within pd_SH 5000 (pd_up (pd_up F 367 8 x) 367 5 i) (t i) 97 122 = some (1, pd_up (pd_up F 367 8 x) 367 5 i) := by rw [r_within, if_pos z]
          simp only [pfX12_steps_b138, pl_l, pl_b, pl_iT, pl_t, pl_f, gx_367, gx_368, gx_369, gx_370, gx_371, gx_372, gx_373, gx_374, gx_375, gx_376, gx_377, gx_378, gx_379, gx_380, gx_381, gx_382, gx_383, gx_384, gx_385, gx_386, gx_387, gx_388, gx_389, gx_390, gx_391, gx_392, gx_393, gx_394, gx_395, gx_396, gx_397, gx_398, gx_399, gx_400, gx_401, gx_402, gx_403, gn_368, gn_369, gn_370, gn_371, gn_372, gn_373, gn_374, gn_375, gn_376, gn_377, gn_378, gn_379, gn_380, gn_381, gn_382, gn_383, gn_384, gn_385, gn_386, gn_387, gn_388, gn_389, gn_390, gn_391, gn_392, gn_393, gn_394, gn_395, gn_396, gn_397, gn_398, gn_399, gn_400, gn_401, gn_402, gn_403, e5, hS, hw, e4, e8, eW]
          rw [if_neg (by decide), pl_w (by omega)]
          by_cases y : i - p ≥ 8
          · rw [if_pos y, if_pos y]; exact hn x _ rfl
          · rw [if_neg y, if_neg y]; exact hn _ _ rfl
      · right
        have hE' : i = E := by rw [← q1, En_e (fun y => z (ltB_t.mp y.2))]
        subst hE'
        refine ⟨x, ?_, q4⟩
        have hw : pfX12_within pd_SH 5000 (pd_up (pd_up F 367 8 x) 367 5 i) (t i % 256) 97 122 = some (0, pd_up (pd_up F 367 8 x) 367 5 i) := by rw [r_within, if_neg (by omega)]
        rw [← r_w217 hL h4 (by omega)]
        simp only [pfX12_steps_b138, pl_l, pl_b, pl_iT, pl_t, pl_f, gx_367, gx_368, gx_369, gx_370, gx_371, gx_372, gx_373, gx_374, gx_375, gx_376, gx_377, gx_378, gx_379, gx_380, gx_381, gx_382, gx_383, gx_384, gx_385, gx_386, gx_387, gx_388, gx_389, gx_390, gx_391, gx_392, gx_393, gx_394, gx_395, gx_396, gx_397, gx_398, gx_399, gx_400, gx_401, gx_402, gx_403, gn_368, gn_369, gn_370, gn_371, gn_372, gn_373, gn_374, gn_375, gn_376, gn_377, gn_378, gn_379, gn_380, gn_381, gn_382, gn_383, gn_384, gn_385, gn_386, gn_387, gn_388, gn_389, gn_390, gn_391, gn_392, gn_393, gn_394, gn_395, gn_396, gn_397, gn_398, gn_399, gn_400, gn_401, gn_402, gn_403, e5, hS, hw]
    · intro k x ⟨q1, q2, q3, q4⟩
      have g1 : pd_Ly (pd_up (pd_up F 367 8 x) 367 5 N) := (hL.up (pl_rc4 sx_367 (by decide))).up (pl_rc4 sx_367 (by decide))
      have hS := r_see g1 ((hT.up (j := 8) (v := x) (by decide)).up (j := 5) (v := N) (by decide)) hN.1
      rw [if_neg (by omega)] at hS
      have e5 : pd_up (pd_up F 367 8 x) 367 5 N 367 5 = N := by rw [pu_r, if_pos rfl]
      have hE' : N = E := by rw [← q1, En_e (by omega)]
      show ∃ x', pfX12_steps_b138 pd_SH 5000 (k + 1) (pd_up (pd_up F 367 8 x) 367 5 N) 367 = _ ∧ _
      refine ⟨x, ?_, by rw [← hE']; exact q4⟩
      have hw : pfX12_within pd_SH 5000 (pd_up (pd_up F 367 8 x) 367 5 N) (-1) 97 122 = some (0, pd_up (pd_up F 367 8 x) 367 5 N) := by rw [r_within, if_neg (by omega)]
      rw [← hE', ← r_w217 hL h4 (by omega)]
      simp only [pfX12_steps_b138, pl_l, pl_b, pl_iT, pl_t, pl_f, gx_367, gx_368, gx_369, gx_370, gx_371, gx_372, gx_373, gx_374, gx_375, gx_376, gx_377, gx_378, gx_379, gx_380, gx_381, gx_382, gx_383, gx_384, gx_385, gx_386, gx_387, gx_388, gx_389, gx_390, gx_391, gx_392, gx_393, gx_394, gx_395, gx_396, gx_397, gx_398, gx_399, gx_400, gx_401, gx_402, gx_403, gn_368, gn_369, gn_370, gn_371, gn_372, gn_373, gn_374, gn_375, gn_376, gn_377, gn_378, gn_379, gn_380, gn_381, gn_382, gn_383, gn_384, gn_385, gn_386, gn_387, gn_388, gn_389, gn_390, gn_391, gn_392, gn_393, gn_394, gn_395, gn_396, gn_397, gn_398, gn_399, gn_400, gn_401, gn_402, gn_403, e5, hS, hw]
  rw [← e0] at go
  exact go
theorem r_n343 (hL : pd_Ly F) {x e p : Int} (hp : F 367 4 = p) (he : 0 ≤ p ∧ p ≤ e ∧ e ≤ 1000) : pfX12_steps_b343 pd_SH 5000 (pd_up (pd_up F 367 7 x) 367 5 e) 367 = some (pd_up (pd_up (pd_up F 367 7 x) 367 5 e) 367 6 (if e - p ≤ 7 then 2 else 4)) := by
  have e3 : pd_up (pd_up F 367 7 x) 367 5 e 367 5 = e := by rw [pu_r, if_pos rfl]
  have e5 : pd_up (pd_up F 367 7 x) 367 5 e 367 4 = p := by rw [pu_r, if_neg (by decide), pu_r, if_neg (by decide), hp]
  unfold pfX12_steps_b343
  simp only [pl_l, pl_b, pl_iT, pl_t, pl_f, gx_367, gx_368, gx_369, gx_370, gx_371, gx_372, gx_373, gx_374, gx_375, gx_376, gx_377, gx_378, gx_379, gx_380, gx_381, gx_382, gx_383, gx_384, gx_385, gx_386, gx_387, gx_388, gx_389, gx_390, gx_391, gx_392, gx_393, gx_394, gx_395, gx_396, gx_397, gx_398, gx_399, gx_400, gx_401, gx_402, gx_403, gn_368, gn_369, gn_370, gn_371, gn_372, gn_373, gn_374, gn_375, gn_376, gn_377, gn_378, gn_379, gn_380, gn_381, gn_382, gn_383, gn_384, gn_385, gn_386, gn_387, gn_388, gn_389, gn_390, gn_391, gn_392, gn_393, gn_394, gn_395, gn_396, gn_397, gn_398, gn_399, gn_400, gn_401, gn_402, gn_403, e3, e5]
  rw [pl_w (by omega)]
  by_cases k : e - p ≤ 7
  · rw [if_neg (by omega), if_pos k]
  · rw [if_pos (by omega), if_neg k]
theorem r_num (hL : pd_Ly F) (hT : jT F t N) {p : Int} (h4 : F 367 4 = p) (h5 : F 367 5 = p) (h8 : F 367 7 = 0) (hp : 0 ≤ p ∧ p ≤ N) : ∃ x, pfX12_steps_b265 pd_SH 5000 5000 F 367 = some (pd_up (pd_up (pd_up F 367 7 x) 367 5 (En (dgB t) N p)) 367 6 (if En (dgB t) N p - p ≤ 7 then 2 else 4)) ∧
    (En (dgB t) N p - p ≤ 7 → x = nb (fun k => t (p + k) - 48) (En (dgB t) N p - p).toNat) := by
  have hb := En_bd (P := dgB t) hp.2
  have hN := hT.2.1
  generalize hE : En (dgB t) N p = E at hb
  generalize hc : (fun k : Nat => t (p + k) - 48) = c
  have e0 : F = pd_up (pd_up F 367 7 0) 367 5 p := by
    have a := pu_id (F := F) (a := 367) (j := 7)
    rw [h8] at a
    have b := pu_id (F := F) (a := 367) (j := 5)
    rw [h5] at b
    rw [a, b]
  have go : (fun o => ∃ x, o = some (pd_up (pd_up (pd_up F 367 7 x) 367 5 E) 367 6 (if E - p ≤ 7 then 2 else 4)) ∧ (E - p ≤ 7 → x = nb c (E - p).toNat)) (pfX12_steps_b265 pd_SH 5000 5000 (pd_up (pd_up F 367 7 0) 367 5 p) 367) := by
    refine pl_for (f := fun j (x : Int) i => pfX12_steps_b265 pd_SH 5000 j (pd_up (pd_up F 367 7 x) 367 5 i) 367) (P := fun i x => En (dgB t) N i = E ∧ p ≤ i ∧ (∀ j, p ≤ j → j < i → dgB t j = true) ∧ (i - p ≤ 7 → x = nb c (i - p).toNat)) (N := N)
      (res := fun o => ∃ x, o = some (pd_up (pd_up (pd_up F 367 7 x) 367 5 E) 367 6 (if E - p ≤ 7 then 2 else 4)) ∧ (E - p ≤ 7 → x = nb c (E - p).toNat)) ?_ ?_ 5000 0 p hp.1 hp.2 (by omega)
      ⟨hE, Int.le_refl _, fun j a b => by omega, fun _ => by rw [show (p - p).toNat = 0 by omega]; rfl⟩
    · intro k x i a0 b0 ⟨q1, q2, q3, q4⟩
      have g1 : pd_Ly (pd_up (pd_up F 367 7 x) 367 5 i) := (hL.up (pl_rc4 sx_367 (by decide))).up (pl_rc4 sx_367 (by decide))
      have hS := r_see g1 ((hT.up (j := 7) (v := x) (by decide)).up (j := 5) (v := i) (by decide)) a0
      have e4 : pd_up (pd_up F 367 7 x) 367 5 i 367 4 = p := by rw [pu_r, if_neg (by decide), pu_r, if_neg (by decide), h4]
      have e5 : pd_up (pd_up F 367 7 x) 367 5 i 367 5 = i := by rw [pu_r, if_pos rfl]
      have e8 : pd_up (pd_up F 367 7 x) 367 5 i 367 7 = x := by rw [pu_r, if_neg (by decide), pu_r, if_pos rfl]
      have ht := (hT.2.2 i a0 b0).2
      rw [if_pos b0] at hS
      show (∃ q', _ ∧ pfX12_steps_b265 pd_SH 5000 (k + 1) (pd_up (pd_up F 367 7 x) 367 5 i) 367 = pfX12_steps_b265 pd_SH 5000 k (pd_up (pd_up F 367 7 q') 367 5 (i + 1)) 367) ∨ ∃ x', pfX12_steps_b265 pd_SH 5000 (k + 1) (pd_up (pd_up F 367 7 x) 367 5 i) 367 = _ ∧ _
      by_cases z : 48 ≤ t i ∧ t i ≤ 57
      · left
        have hv : t i % 256 = t i := by omega
        rw [hv] at hS
        have hn : ∀ y, ∀ G, G = pd_up (pd_up F 367 7 x) 367 5 i → pfX12_steps_b327 pd_SH 5000 (pfX12_steps_b265 pd_SH 5000 k) G 367 y 367 = pfX12_steps_b265 pd_SH 5000 k (pd_up (pd_up F 367 7 y) 367 5 (i + 1)) 367 := fun y G hG => by
          subst hG
          have e5' : pd_up (pd_up (pd_up F 367 7 x) 367 5 i) 367 7 y 367 5 = i := by rw [pu_r, if_neg (by decide), e5]
          unfold pfX12_steps_b327
          simp only [pl_l, pl_b, pl_iT, pl_t, pl_f, gx_367, gx_368, gx_369, gx_370, gx_371, gx_372, gx_373, gx_374, gx_375, gx_376, gx_377, gx_378, gx_379, gx_380, gx_381, gx_382, gx_383, gx_384, gx_385, gx_386, gx_387, gx_388, gx_389, gx_390, gx_391, gx_392, gx_393, gx_394, gx_395, gx_396, gx_397, gx_398, gx_399, gx_400, gx_401, gx_402, gx_403, gn_368, gn_369, gn_370, gn_371, gn_372, gn_373, gn_374, gn_375, gn_376, gn_377, gn_378, gn_379, gn_380, gn_381, gn_382, gn_383, gn_384, gn_385, gn_386, gn_387, gn_388, gn_389, gn_390, gn_391, gn_392, gn_393, gn_394, gn_395, gn_396, gn_397, gn_398, gn_399, gn_400, gn_401, gn_402, gn_403, e5']
          rw [pl_w (by omega), pu_4 (by decide)]
        refine ⟨if i - p ≥ 7 then x else pd_w (pd_w (pd_w (10 * x) + t i) - 48), ⟨?_, by omega, fun j u v => ?_, fun hk => ?_⟩, ?_⟩
        · rw [← q1]; exact (En_s b0 (dgB_t.mpr z)).symm
        · by_cases e : j = i
          · rw [e]; exact dgB_t.mpr z
          · exact q3 j u (by omega)
        · have hx := q4 (by omega)
          have hm : (i + 1 - p).toNat = (i - p).toNat + 1 := by omega
          have hcc : ∀ k, k < (i - p).toNat → 0 ≤ c k ∧ c k ≤ 9 := fun k hk => by
            have := dgB_t.mp (q3 (p + k) (by omega) (by omega))
            rw [← hc]
            show 0 ≤ t (p + k) - 48 ∧ t (p + k) - 48 ≤ 9
            omega
          have w := nb_bd hcc
          have p8 : 10 ^ (i - p).toNat ≤ 10 ^ 6 := Nat.pow_le_pow_right (by decide) (by omega)
          have hci : c (i - p).toNat = t i - 48 := by
            rw [← hc]
            show t (p + ((i - p).toNat : Int)) - 48 = _
            rw [show p + ((i - p).toNat : Int) = i by omega]
          rw [hm, if_neg (by omega)]
          show _ = nb c (i - p).toNat * 10 + c (i - p).toNat
          rw [hci, ← hx, pl_w (x := 10 * x) (by omega), pl_w (x := 10 * x + t i) (by omega), pl_w (by omega)]
          omega
        · have hw : pfX12_within pd_SH 5000 (pd_up (pd_up F 367 7 x) 367 5 i) (t i) 48 57 = some (1, pd_up (pd_up F 367 7 x) 367 5 i) := by rw [r_within, if_pos z]
          simp only [pfX12_steps_b265, pl_l, pl_b, pl_iT, pl_t, pl_f, gx_367, gx_368, gx_369, gx_370, gx_371, gx_372, gx_373, gx_374, gx_375, gx_376, gx_377, gx_378, gx_379, gx_380, gx_381, gx_382, gx_383, gx_384, gx_385, gx_386, gx_387, gx_388, gx_389, gx_390, gx_391, gx_392, gx_393, gx_394, gx_395, gx_396, gx_397, gx_398, gx_399, gx_400, gx_401, gx_402, gx_403, gn_368, gn_369, gn_370, gn_371, gn_372, gn_373, gn_374, gn_375, gn_376, gn_377, gn_378, gn_379, gn_380, gn_381, gn_382, gn_383, gn_384, gn_385, gn_386, gn_387, gn_388, gn_389, gn_390, gn_391, gn_392, gn_393, gn_394, gn_395, gn_396, gn_397, gn_398, gn_399, gn_400, gn_401, gn_402, gn_403, e5, hS, hw, e4, e8]
          rw [if_neg (by decide), pl_w (x := i - p) (by omega)]
          by_cases y : i - p ≥ 7
          · rw [if_pos y, if_pos y]; exact hn x _ rfl
          · rw [if_neg y, if_neg y]; exact hn _ _ rfl
      · right
        have hE' : i = E := by rw [← q1, En_e (fun y => z (dgB_t.mp y.2))]
        subst hE'
        refine ⟨x, ?_, q4⟩
        have hw : pfX12_within pd_SH 5000 (pd_up (pd_up F 367 7 x) 367 5 i) (t i % 256) 48 57 = some (0, pd_up (pd_up F 367 7 x) 367 5 i) := by rw [r_within, if_neg (by omega)]
        rw [← r_n343 hL h4 (by omega)]
        simp only [pfX12_steps_b265, pl_l, pl_b, pl_iT, pl_t, pl_f, gx_367, gx_368, gx_369, gx_370, gx_371, gx_372, gx_373, gx_374, gx_375, gx_376, gx_377, gx_378, gx_379, gx_380, gx_381, gx_382, gx_383, gx_384, gx_385, gx_386, gx_387, gx_388, gx_389, gx_390, gx_391, gx_392, gx_393, gx_394, gx_395, gx_396, gx_397, gx_398, gx_399, gx_400, gx_401, gx_402, gx_403, gn_368, gn_369, gn_370, gn_371, gn_372, gn_373, gn_374, gn_375, gn_376, gn_377, gn_378, gn_379, gn_380, gn_381, gn_382, gn_383, gn_384, gn_385, gn_386, gn_387, gn_388, gn_389, gn_390, gn_391, gn_392, gn_393, gn_394, gn_395, gn_396, gn_397, gn_398, gn_399, gn_400, gn_401, gn_402, gn_403, e5, hS, hw]
    · intro k x ⟨q1, q2, q3, q4⟩
      have g1 : pd_Ly (pd_up (pd_up F 367 7 x) 367 5 N) := (hL.up (pl_rc4 sx_367 (by decide))).up (pl_rc4 sx_367 (by decide))
      have hS := r_see g1 ((hT.up (j := 7) (v := x) (by decide)).up (j := 5) (v := N) (by decide)) hN.1
      rw [if_neg (by omega)] at hS
      have e5 : pd_up (pd_up F 367 7 x) 367 5 N 367 5 = N := by rw [pu_r, if_pos rfl]
      have hE' : N = E := by rw [← q1, En_e (by omega)]
      show ∃ x', pfX12_steps_b265 pd_SH 5000 (k + 1) (pd_up (pd_up F 367 7 x) 367 5 N) 367 = _ ∧ _
      refine ⟨x, ?_, by rw [← hE']; exact q4⟩
      have hw : pfX12_within pd_SH 5000 (pd_up (pd_up F 367 7 x) 367 5 N) (-1) 48 57 = some (0, pd_up (pd_up F 367 7 x) 367 5 N) := by rw [r_within, if_neg (by omega)]
      rw [← hE', ← r_n343 hL h4 (by omega)]
      simp only [pfX12_steps_b265, pl_l, pl_b, pl_iT, pl_t, pl_f, gx_367, gx_368, gx_369, gx_370, gx_371, gx_372, gx_373, gx_374, gx_375, gx_376, gx_377, gx_378, gx_379, gx_380, gx_381, gx_382, gx_383, gx_384, gx_385, gx_386, gx_387, gx_388, gx_389, gx_390, gx_391, gx_392, gx_393, gx_394, gx_395, gx_396, gx_397, gx_398, gx_399, gx_400, gx_401, gx_402, gx_403, gn_368, gn_369, gn_370, gn_371, gn_372, gn_373, gn_374, gn_375, gn_376, gn_377, gn_378, gn_379, gn_380, gn_381, gn_382, gn_383, gn_384, gn_385, gn_386, gn_387, gn_388, gn_389, gn_390, gn_391, gn_392, gn_393, gn_394, gn_395, gn_396, gn_397, gn_398, gn_399, gn_400, gn_401, gn_402, gn_403, e5, hS, hw]
  rw [← e0] at go
  exact go
theorem r_skip (hL : pd_Ly F) (hT : jT F t N) (hi : 0 ≤ F 367 5 ∧ F 367 5 ≤ N) : pfX12_steps pd_SH 5000 F 367 = pfX12_steps_b47 pd_SH 5000 (pd_up F 367 4 (En (bkB t) N (F 367 5))) 367 := by
  generalize hE : En (bkB t) N (F 367 5) = E
  have hN := hT.2.1
  unfold pfX12_steps
  simp only [pl_l, pl_b, pl_iT, pl_t, pl_f, gx_367, gx_368, gx_369, gx_370, gx_371, gx_372, gx_373, gx_374, gx_375, gx_376, gx_377, gx_378, gx_379, gx_380, gx_381, gx_382, gx_383, gx_384, gx_385, gx_386, gx_387, gx_388, gx_389, gx_390, gx_391, gx_392, gx_393, gx_394, gx_395, gx_396, gx_397, gx_398, gx_399, gx_400, gx_401, gx_402, gx_403, gn_368, gn_369, gn_370, gn_371, gn_372, gn_373, gn_374, gn_375, gn_376, gn_377, gn_378, gn_379, gn_380, gn_381, gn_382, gn_383, gn_384, gn_385, gn_386, gn_387, gn_388, gn_389, gn_390, gn_391, gn_392, gn_393, gn_394, gn_395, gn_396, gn_397, gn_398, gn_399, gn_400, gn_401, gn_402, gn_403]
  refine pl_for (f := fun j (_ : Unit) i => pfX12_steps_b8 pd_SH 5000 j (pd_up F 367 4 i) 367) (P := fun i _ => En (bkB t) N i = E) (N := N)
    (res := fun o => o = pfX12_steps_b47 pd_SH 5000 (pd_up F 367 4 E) 367) ?_ ?_ 5000 () (F 367 5) hi.1 hi.2 (by omega) hE
  · intro k x i a0 b0 q1
    have g1 : pd_Ly (pd_up F 367 4 i) := hL.up (pl_rc4 sx_367 (by decide))
    have hS := r_see g1 (hT.up (j := 4) (v := i) (by decide)) a0
    rw [if_pos b0] at hS
    have e4 : pd_up F 367 4 i 367 4 = i := by rw [pu_r, if_pos rfl]
    have ht := (hT.2.2 i a0 b0).2
    show (∃ q', _ ∧ pfX12_steps_b8 pd_SH 5000 (k + 1) (pd_up F 367 4 i) 367 = pfX12_steps_b8 pd_SH 5000 k (pd_up F 367 4 (i + 1)) 367) ∨ pfX12_steps_b8 pd_SH 5000 (k + 1) (pd_up F 367 4 i) 367 = _
    have h34 : pfX12_steps_b34 pd_SH 5000 (pfX12_steps_b8 pd_SH 5000 k) (pd_up F 367 4 i) 367 = pfX12_steps_b8 pd_SH 5000 k (pd_up F 367 4 (i + 1)) 367 := by
      unfold pfX12_steps_b34
      simp only [pl_l, pl_b, pl_iT, pl_t, pl_f, gx_367, gx_368, gx_369, gx_370, gx_371, gx_372, gx_373, gx_374, gx_375, gx_376, gx_377, gx_378, gx_379, gx_380, gx_381, gx_382, gx_383, gx_384, gx_385, gx_386, gx_387, gx_388, gx_389, gx_390, gx_391, gx_392, gx_393, gx_394, gx_395, gx_396, gx_397, gx_398, gx_399, gx_400, gx_401, gx_402, gx_403, gn_368, gn_369, gn_370, gn_371, gn_372, gn_373, gn_374, gn_375, gn_376, gn_377, gn_378, gn_379, gn_380, gn_381, gn_382, gn_383, gn_384, gn_385, gn_386, gn_387, gn_388, gn_389, gn_390, gn_391, gn_392, gn_393, gn_394, gn_395, gn_396, gn_397, gn_398, gn_399, gn_400, gn_401, gn_402, gn_403, e4]
      rw [pl_w (by omega), pu_pu]
    by_cases z : t i = 32 ∨ t i = 10
    · left
      refine ⟨(), ?_, ?_⟩
      · rw [← q1]; exact (En_s b0 (bkB_t.mpr z)).symm
      · simp only [pfX12_steps_b8, pl_l, pl_b, pl_iT, pl_t, pl_f, gx_367, gx_368, gx_369, gx_370, gx_371, gx_372, gx_373, gx_374, gx_375, gx_376, gx_377, gx_378, gx_379, gx_380, gx_381, gx_382, gx_383, gx_384, gx_385, gx_386, gx_387, gx_388, gx_389, gx_390, gx_391, gx_392, gx_393, gx_394, gx_395, gx_396, gx_397, gx_398, gx_399, gx_400, gx_401, gx_402, gx_403, gn_368, gn_369, gn_370, gn_371, gn_372, gn_373, gn_374, gn_375, gn_376, gn_377, gn_378, gn_379, gn_380, gn_381, gn_382, gn_383, gn_384, gn_385, gn_386, gn_387, gn_388, gn_389, gn_390, gn_391, gn_392, gn_393, gn_394, gn_395, gn_396, gn_397, gn_398, gn_399, gn_400, gn_401, gn_402, gn_403, e4, hS, h34]
        by_cases y : t i = 32
        · rw [if_pos (by omega)]
        · rw [if_neg (by omega), if_neg (by omega)]
    · right
      have hE' : i = E := by rw [← q1, En_e (fun y => z (bkB_t.mp y.2))]
      subst hE'
      simp only [pfX12_steps_b8, pl_l, pl_b, pl_iT, pl_t, pl_f, gx_367, gx_368, gx_369, gx_370, gx_371, gx_372, gx_373, gx_374, gx_375, gx_376, gx_377, gx_378, gx_379, gx_380, gx_381, gx_382, gx_383, gx_384, gx_385, gx_386, gx_387, gx_388, gx_389, gx_390, gx_391, gx_392, gx_393, gx_394, gx_395, gx_396, gx_397, gx_398, gx_399, gx_400, gx_401, gx_402, gx_403, gn_368, gn_369, gn_370, gn_371, gn_372, gn_373, gn_374, gn_375, gn_376, gn_377, gn_378, gn_379, gn_380, gn_381, gn_382, gn_383, gn_384, gn_385, gn_386, gn_387, gn_388, gn_389, gn_390, gn_391, gn_392, gn_393, gn_394, gn_395, gn_396, gn_397, gn_398, gn_399, gn_400, gn_401, gn_402, gn_403, e4, hS]
      rw [if_neg (by omega), if_pos (by omega)]
  · intro k x q1
    have g1 : pd_Ly (pd_up F 367 4 N) := hL.up (pl_rc4 sx_367 (by decide))
    have hS := r_see g1 (hT.up (j := 4) (v := N) (by decide)) hN.1
    rw [if_neg (by omega)] at hS
    have e4 : pd_up F 367 4 N 367 4 = N := by rw [pu_r, if_pos rfl]
    have hE' : N = E := by rw [← q1, En_e (by omega)]
    show pfX12_steps_b8 pd_SH 5000 (k + 1) (pd_up F 367 4 N) 367 = _
    rw [← hE']
    simp only [pfX12_steps_b8, pl_l, pl_b, pl_iT, pl_t, pl_f, gx_367, gx_368, gx_369, gx_370, gx_371, gx_372, gx_373, gx_374, gx_375, gx_376, gx_377, gx_378, gx_379, gx_380, gx_381, gx_382, gx_383, gx_384, gx_385, gx_386, gx_387, gx_388, gx_389, gx_390, gx_391, gx_392, gx_393, gx_394, gx_395, gx_396, gx_397, gx_398, gx_399, gx_400, gx_401, gx_402, gx_403, gn_368, gn_369, gn_370, gn_371, gn_372, gn_373, gn_374, gn_375, gn_376, gn_377, gn_378, gn_379, gn_380, gn_381, gn_382, gn_383, gn_384, gn_385, gn_386, gn_387, gn_388, gn_389, gn_390, gn_391, gn_392, gn_393, gn_394, gn_395, gn_396, gn_397, gn_398, gn_399, gn_400, gn_401, gn_402, gn_403, e4, hS]
    rw [if_neg (by decide), if_pos (by decide)]
/-- what a token on leaves -/
def jR (F F' : pd_F) : Prop := (∀ a, a ≠ 367 → F' a = F a) ∧ ∀ j, (j < 4 ∨ 8 < j) → F' 367 j = F 367 j
theorem r_steps (hL : pd_Ly F) (hT : jT F t N) (hi : 0 ≤ F 367 5 ∧ F 367 5 ≤ N) : ∃ F', pfX12_steps pd_SH 5000 F 367 = some F' ∧ pd_Ly F' ∧ jR F F' ∧ Tk w5 t N (F 367 5) (F' 367 6) (F' 367 4) (F' 367 5) (F' 367 7) (F' 367 8) := by
  rw [r_skip hL hT hi]
  have hb := En_bd (P := bkB t) hi.2
  have hN := hT.2.1
  unfold Tk
  generalize hp : En (bkB t) N (F 367 5) = p at hb ⊢
  have g1 : pd_Ly (pd_up F 367 4 p) := hL.up (pl_rc4 sx_367 (by decide))
  have hS := r_see g1 (hT.up (j := 4) (v := p) (by decide)) (k := p) (by omega)
  have e4 : pd_up F 367 4 p 367 4 = p := by rw [pu_r, if_pos rfl]
  unfold pfX12_steps_b47
  simp only [pl_l, pl_b, pl_iT, pl_t, pl_f, gx_367, gx_368, gx_369, gx_370, gx_371, gx_372, gx_373, gx_374, gx_375, gx_376, gx_377, gx_378, gx_379, gx_380, gx_381, gx_382, gx_383, gx_384, gx_385, gx_386, gx_387, gx_388, gx_389, gx_390, gx_391, gx_392, gx_393, gx_394, gx_395, gx_396, gx_397, gx_398, gx_399, gx_400, gx_401, gx_402, gx_403, gn_368, gn_369, gn_370, gn_371, gn_372, gn_373, gn_374, gn_375, gn_376, gn_377, gn_378, gn_379, gn_380, gn_381, gn_382, gn_383, gn_384, gn_385, gn_386, gn_387, gn_388, gn_389, gn_390, gn_391, gn_392, gn_393, gn_394, gn_395, gn_396, gn_397, gn_398, gn_399, gn_400, gn_401, gn_402, gn_403, e4, hS]
  rw [pl_w (by omega)]
  generalize hM : pd_up (pd_up (pd_up (pd_up (pd_up F 367 4 p) 367 5 (p + 1)) 367 6 4) 367 7 0) 367 8 0 = M
  have gM : pd_Ly M := by rw [← hM]; exact (((g1.up (pl_rc4 sx_367 (by decide))).up (pl_rc4 sx_367 (by decide))).up (pl_rc4 sx_367 (by decide))).up (pl_rc4 sx_367 (by decide))
  have m4 : M 367 4 = p := by rw [← hM, pu_r, if_neg (by decide), pu_r, if_neg (by decide), pu_r, if_neg (by decide), pu_r, if_neg (by decide), e4]
  have m5 : M 367 5 = p + 1 := by rw [← hM, pu_r, if_neg (by decide), pu_r, if_neg (by decide), pu_r, if_neg (by decide), pu_r, if_pos rfl]
  have m6 : M 367 6 = 4 := by rw [← hM, pu_r, if_neg (by decide), pu_r, if_neg (by decide), pu_r, if_pos rfl]
  have m7 : M 367 7 = 0 := by rw [← hM, pu_r, if_neg (by decide), pu_r, if_pos rfl]
  have m8 : M 367 8 = 0 := by rw [← hM, pu_r, if_pos rfl]
  have mT : jT M t N := by rw [← hM]; exact ((((hT.up (by decide)).up (by decide)).up (by decide)).up (by decide)).up (by decide)
  have mA : jR F M := ⟨fun a x => by rw [← hM, pu_a x, pu_a x, pu_a x, pu_a x, pu_a x], fun j x => by rw [← hM, pu_r, if_neg (by omega), pu_r, if_neg (by omega), pu_r, if_neg (by omega), pu_r, if_neg (by omega), pu_r, if_neg (by omega)]⟩
  by_cases k : p < N
  · rw [if_pos k, if_pos (by omega)]
    have ht := (hT.2.2 p (by omega) k).2
    by_cases zs : t p = 59
    · rw [if_neg (by omega)]
      have r4 : pd_up M 367 6 3 367 6 = 3 := by rw [pu_r, if_pos rfl]
      have r5 : pd_up M 367 6 3 367 4 = p := by rw [pu_r, if_neg (by decide), m4]
      have r3 : pd_up M 367 6 3 367 5 = p + 1 := by rw [pu_r, if_neg (by decide), m5]
      refine ⟨_, rfl, gM.up (pl_rc4 sx_367 (by decide)), ⟨fun a y => by rw [pu_a y]; exact mA.1 a y, fun j y => by rw [pu_r, if_neg (by omega)]; exact mA.2 j y⟩, ?_⟩
      rw [r4, r5, r3]
      exact ⟨rfl, fun y => by omega, fun _ => ⟨fun y => by omega, fun y => by omega, fun _ => ⟨rfl, rfl⟩, fun _ _ y => absurd zs y⟩⟩
    · rw [if_pos (by omega)]
      have hw1 : pfX12_within pd_SH 5000 M (t p % 256) 97 122 = some (if 97 ≤ t p ∧ t p ≤ 122 then 1 else 0, M) := by
        rw [r_within]
        by_cases y : 97 ≤ t p ∧ t p ≤ 122
        · rw [if_pos y, if_pos (by omega)]
        · rw [if_neg y, if_neg (by omega)]
      have hw2 : pfX12_within pd_SH 5000 M (t p % 256) 48 57 = some (if 48 ≤ t p ∧ t p ≤ 57 then 1 else 0, M) := by
        rw [r_within]
        by_cases y : 48 ≤ t p ∧ t p ≤ 57
        · rw [if_pos y, if_pos (by omega)]
        · rw [if_neg y, if_neg (by omega)]
      simp only [hw1, pl_l, pl_b, pl_iT, pl_t, pl_f, m4]
      have gM5 : pd_Ly (pd_up M 367 5 p) := gM.up (pl_rc4 sx_367 (by decide))
      have n4 : pd_up M 367 5 p 367 4 = p := by rw [pu_r, if_neg (by decide), m4]
      have n5 : pd_up M 367 5 p 367 5 = p := by rw [pu_r, if_pos rfl]
      have n7 : pd_up M 367 5 p 367 7 = 0 := by rw [pu_r, if_neg (by decide), m7]
      have n8 : pd_up M 367 5 p 367 8 = 0 := by rw [pu_r, if_neg (by decide), m8]
      have nT : jT (pd_up M 367 5 p) t N := mT.up (by decide)
      have nA : jR F (pd_up M 367 5 p) := ⟨fun a y => by rw [pu_a y]; exact mA.1 a y, fun j y => by rw [pu_r, if_neg (by omega)]; exact mA.2 j y⟩
      generalize hHH : pd_up M 367 5 p = H at gM5 n4 n5 n7 n8 nT nA ⊢
      by_cases zw : 97 ≤ t p ∧ t p ≤ 122
      · rw [if_pos zw, if_neg (by decide)]
        obtain ⟨x, a1, a2⟩ := r_word gM5 nT n4 n5 n8 (by omega)
        generalize hEE : En (ltB t) N p = E at a1 a2
        rw [a1]
        have r4 : pd_up (pd_up (pd_up H 367 8 x) 367 5 E) 367 6 (if E - p ≤ 8 then 1 else 4) 367 6 = if E - p ≤ 8 then 1 else 4 := by rw [pu_r, if_pos rfl]
        have r5 : pd_up (pd_up (pd_up H 367 8 x) 367 5 E) 367 6 (if E - p ≤ 8 then 1 else 4) 367 4 = p := by rw [pu_r, if_neg (by decide), pu_r, if_neg (by decide), pu_r, if_neg (by decide), n4]
        have r3 : pd_up (pd_up (pd_up H 367 8 x) 367 5 E) 367 6 (if E - p ≤ 8 then 1 else 4) 367 5 = E := by rw [pu_r, if_neg (by decide), pu_r, if_pos rfl]
        have r8 : pd_up (pd_up (pd_up H 367 8 x) 367 5 E) 367 6 (if E - p ≤ 8 then 1 else 4) 367 8 = x := by rw [pu_r, if_neg (by decide), pu_r, if_neg (by decide), pu_r, if_pos rfl]
        refine ⟨_, rfl, ((gM5.up (pl_rc4 sx_367 (by decide))).up (pl_rc4 sx_367 (by decide))).up (pl_rc4 sx_367 (by decide)), ⟨fun a y => by rw [pu_a y, pu_a y, pu_a y]; exact nA.1 a y, fun j y => by rw [pu_r, if_neg (by omega), pu_r, if_neg (by omega), pu_r, if_neg (by omega)]; exact nA.2 j y⟩, ?_⟩
        rw [r4, r5, r3, r8]
        exact ⟨rfl, fun y => by omega, fun _ => ⟨fun _ => ⟨hEE.symm, rfl, a2⟩, fun y => by omega, fun y => by omega, fun y => absurd zw y⟩⟩
      · rw [if_neg zw, if_pos rfl]
        simp only [hw2, pl_l, pl_b, pl_iT, pl_t, pl_f, m4]
        by_cases zd : 48 ≤ t p ∧ t p ≤ 57
        · rw [if_pos zd, if_neg (by decide)]
          obtain ⟨x, a1, a2⟩ := r_num gM5 nT n4 n5 n7 (by omega)
          generalize hEE : En (dgB t) N p = E at a1 a2
          rw [hHH, a1]
          have r4 : pd_up (pd_up (pd_up H 367 7 x) 367 5 E) 367 6 (if E - p ≤ 7 then 2 else 4) 367 6 = if E - p ≤ 7 then 2 else 4 := by rw [pu_r, if_pos rfl]
          have r5 : pd_up (pd_up (pd_up H 367 7 x) 367 5 E) 367 6 (if E - p ≤ 7 then 2 else 4) 367 4 = p := by rw [pu_r, if_neg (by decide), pu_r, if_neg (by decide), pu_r, if_neg (by decide), n4]
          have r3 : pd_up (pd_up (pd_up H 367 7 x) 367 5 E) 367 6 (if E - p ≤ 7 then 2 else 4) 367 5 = E := by rw [pu_r, if_neg (by decide), pu_r, if_pos rfl]
          have r8 : pd_up (pd_up (pd_up H 367 7 x) 367 5 E) 367 6 (if E - p ≤ 7 then 2 else 4) 367 7 = x := by rw [pu_r, if_neg (by decide), pu_r, if_neg (by decide), pu_r, if_pos rfl]
          refine ⟨_, rfl, ((gM5.up (pl_rc4 sx_367 (by decide))).up (pl_rc4 sx_367 (by decide))).up (pl_rc4 sx_367 (by decide)), ⟨fun a y => by rw [pu_a y, pu_a y, pu_a y]; exact nA.1 a y, fun j y => by rw [pu_r, if_neg (by omega), pu_r, if_neg (by omega), pu_r, if_neg (by omega)]; exact nA.2 j y⟩, ?_⟩
          rw [r4, r5, r3, r8]
          exact ⟨rfl, fun y => by omega, fun _ => ⟨fun y => absurd y zw, fun _ => ⟨hEE.symm, rfl, a2⟩, fun y => by omega, fun _ y => absurd zd y⟩⟩
        · rw [if_neg zd, if_pos rfl]
          refine ⟨M, rfl, gM, mA, ?_⟩
          rw [m4, m6]
          exact ⟨rfl, fun y => by omega, fun _ => ⟨fun y => absurd y zw, fun y => absurd y zd, fun y => absurd y zs, fun _ _ _ => rfl⟩⟩
  · rw [if_neg k, if_neg (by decide), m4]
    have r4 : pd_up (pd_up M 367 5 p) 367 6 0 367 6 = 0 := by rw [pu_r, if_pos rfl]
    have r5 : pd_up (pd_up M 367 5 p) 367 6 0 367 4 = p := by rw [pu_r, if_neg (by decide), pu_r, if_neg (by decide), m4]
    have r3 : pd_up (pd_up M 367 5 p) 367 6 0 367 5 = p := by rw [pu_r, if_neg (by decide), pu_r, if_pos rfl]
    refine ⟨_, rfl, (gM.up (pl_rc4 sx_367 (by decide))).up (pl_rc4 sx_367 (by decide)), ⟨fun a y => by rw [pu_a y, pu_a y]; exact mA.1 a y, fun j y => by rw [pu_r, if_neg (by omega), pu_r, if_neg (by omega)]; exact mA.2 j y⟩, ?_⟩
    rw [r4, r5, r3]
    exact ⟨rfl, fun _ => ⟨rfl, rfl⟩, fun y => absurd y k⟩
end TR

/-! lines, one after another -/
section RL
variable {b : Int} {F G : pd_F}
theorem jW_un {x y : Int} (h : jW G x) (k : jW G y) : x = y := h.2.symm.trans k.2
theorem r_122 (h : J b F G) {k o : Int} : pfX12_lineHere_b122 pd_SH 5000 G 367 k o 1 367 = if k < 0 then rL (pfX12_onceLine pd_SH 5000 G 367 o) else rL (pfX12_named pd_SH 5000 G 367 k) := by
  have m := j_must h (v := 1) (k := 1) (by decide)
  unfold pfX12_lineHere_b122 rL
  simp only [pl_l, pl_b, pl_iT, pl_t, pl_f, gx_367, gx_368, gx_369, gx_370, gx_371, gx_372, gx_373, gx_374, gx_375, gx_376, gx_377, gx_378, gx_379, gx_380, gx_381, gx_382, gx_383, gx_384, gx_385, gx_386, gx_387, gx_388, gx_389, gx_390, gx_391, gx_392, gx_393, gx_394, gx_395, gx_396, gx_397, gx_398, gx_399, gx_400, gx_401, gx_402, gx_403, gn_368, gn_369, gn_370, gn_371, gn_372, gn_373, gn_374, gn_375, gn_376, gn_377, gn_378, gn_379, gn_380, gn_381, gn_382, gn_383, gn_384, gn_385, gn_386, gn_387, gn_388, gn_389, gn_390, gn_391, gn_392, gn_393, gn_394, gn_395, gn_396, gn_397, gn_398, gn_399, gn_400, gn_401, gn_402, gn_403, m]
  rw [if_pos (show (1 : Int) ≠ 0 by decide)]
theorem r_66 (h : J b F G) {k : Int} (k0 : 0 ≤ k) (n1 : ¬ jW G 113757348) (n2 : ¬ jW G 3659954) (n3 : ¬ jW G 18916965) : pfX12_lineHere_b66 pd_SH 5000 G 367 k = rL (pfX12_named pd_SH 5000 G 367 k) := by
  unfold pfX12_lineHere_b66
  simp only [pl_l, pl_b, pl_iT, pl_t, pl_f, gx_367, gx_368, gx_369, gx_370, gx_371, gx_372, gx_373, gx_374, gx_375, gx_376, gx_377, gx_378, gx_379, gx_380, gx_381, gx_382, gx_383, gx_384, gx_385, gx_386, gx_387, gx_388, gx_389, gx_390, gx_391, gx_392, gx_393, gx_394, gx_395, gx_396, gx_397, gx_398, gx_399, gx_400, gx_401, gx_402, gx_403, gn_368, gn_369, gn_370, gn_371, gn_372, gn_373, gn_374, gn_375, gn_376, gn_377, gn_378, gn_379, gn_380, gn_381, gn_382, gn_383, gn_384, gn_385, gn_386, gn_387, gn_388, gn_389, gn_390, gn_391, gn_392, gn_393, gn_394, gn_395, gn_396, gn_397, gn_398, gn_399, gn_400, gn_401, gn_402, gn_403, is_closed, is_cover, is_raise, ci_f n1, ci_f n2, ci_f n3]
  unfold pfX12_lineHere_b107 pfX12_lineHere_b117
  rw [if_pos (show k ≥ 0 from k0), r_122 h, if_neg (by omega)]
theorem j_line (h : J b F G) (hK : K b F (bn G)) : jL b F G (pfX6_readLine pd_SH 5000 F 2) (pfX12_lineHere pd_SH 5000 G 367) := by
  have k4 : ∀ {x : Int}, jW G x → F 3 4 = 1 := fun {x} w => by rw [h.2.2.2.2.2.1.1]; exact w.1
  unfold pfX6_readLine pfX12_lineHere
  simp only [pl_l, pl_b, pl_iT, pl_t, pl_f, gx_1, gx_2, gx_3, gx_4, gx_113, gx_114, gx_115, gx_116, gx_212, gx_213, gx_224, gn_4, gn_114, gn_115, gn_116, gn_213, gn_224, gx_367, gx_368, gx_369, gx_370, gx_371, gx_372, gx_373, gx_374, gx_375, gx_376, gx_377, gx_378, gx_379, gx_380, gx_381, gx_382, gx_383, gx_384, gx_385, gx_386, gx_387, gx_388, gx_389, gx_390, gx_391, gx_392, gx_393, gx_394, gx_395, gx_396, gx_397, gx_398, gx_399, gx_400, gx_401, gx_402, gx_403, gn_368, gn_369, gn_370, gn_371, gn_372, gn_373, gn_374, gn_375, gn_376, gn_377, gn_378, gn_379, gn_380, gn_381, gn_382, gn_383, gn_384, gn_385, gn_386, gn_387, gn_388, gn_389, gn_390, gn_391, gn_392, gn_393, gn_394, gn_395, gn_396, gn_397, gn_398, gn_399, gn_400, gn_401, gn_402, gn_403, h.at nm_person, h.at nm_trust, h.at nm_account, h.at nm_high, h.at nm_loan, h.at nm_cover, h.at nm_raise, h.at nm_closed, is_person, is_trust, is_account, is_high, is_loan]
  have fin : ∀ {c r : Option (Int × pd_F)} {c' : Option (Int × pd_F)}, jL b F G c r → (∀ v F', c = some (v, F') → (v = 0 ∨ v = 1) → c' = some (v, F')) → jL b F G c' r := fun {c r c'} j e => by
    obtain ⟨F', G', v, e1, e2, e3, e4, e5⟩ := j
    exact ⟨F', G', v, e v F' e1 (by rcases e5 with e5 | e5 <;> omega), e2, e3, e4, e5⟩
  have gd : ∀ {c : Option (Int × pd_F)} (v : Int) (F' : pd_F), c = some (v, F') → (v = 0 ∨ v = 1) → (Option.bind c fun q => pd_i (q.1 = 0 ∨ q.1 = 1) (some (q.1, q.2))) = some (v, F') := fun {c} v F' e hv => by
    rw [e]
    simp only [pl_l, pl_b, pl_iT, pl_t, pl_f]
    rw [pl_i hv]
  by_cases w0 : jW G 542723566
  · rw [ci_t w0, if_neg (by decide), if_neg (by decide), r_66 h (Int.le_refl _) (fun w => absurd (jW_un w0 w) (by decide)) (fun w => absurd (jW_un w0 w) (by decide)) (fun w => absurd (jW_un w0 w) (by decide))]
    exact fin (j_person h hK (k4 w0)) gd
  rw [ci_f w0, if_pos rfl, if_pos rfl]
  by_cases w1 : jW G 21583476
  · rw [ci_t w1, if_neg (by decide), if_neg (by decide), r_66 h (by decide) (fun w => absurd (jW_un w1 w) (by decide)) (fun w => absurd (jW_un w1 w) (by decide)) (fun w => absurd (jW_un w1 w) (by decide))]
    exact fin (j_trust h hK (k4 w1)) gd
  rw [ci_f w1, if_pos rfl, if_pos rfl]
  by_cases w2 : jW G 1178064340
  · rw [ci_t w2, if_neg (by decide), if_neg (by decide), r_66 h (by decide) (fun w => absurd (jW_un w2 w) (by decide)) (fun w => absurd (jW_un w2 w) (by decide)) (fun w => absurd (jW_un w2 w) (by decide))]
    exact fin (j_account h hK (k4 w2)) gd
  rw [ci_f w2, if_pos rfl, if_pos rfl]
  by_cases w3 : jW G 271592
  · rw [ci_t w3, if_neg (by decide), if_neg (by decide), r_66 h (by decide) (fun w => absurd (jW_un w3 w) (by decide)) (fun w => absurd (jW_un w3 w) (by decide)) (fun w => absurd (jW_un w3 w) (by decide))]
    exact fin (j_high h hK (k4 w3)) gd
  rw [ci_f w3, if_pos rfl, if_pos rfl]
  by_cases w4 : jW G 408622
  · rw [ci_t w4, if_neg (by decide), if_neg (by decide), r_66 h (by decide) (fun w => absurd (jW_un w4 w) (by decide)) (fun w => absurd (jW_un w4 w) (by decide)) (fun w => absurd (jW_un w4 w) (by decide))]
    exact fin (j_loan h hK (k4 w4)) gd
  rw [ci_f w4, if_pos rfl, if_pos rfl]
  unfold pfX12_lineHere_b66
  simp only [pl_l, pl_b, pl_iT, pl_t, pl_f, gx_367, gx_368, gx_369, gx_370, gx_371, gx_372, gx_373, gx_374, gx_375, gx_376, gx_377, gx_378, gx_379, gx_380, gx_381, gx_382, gx_383, gx_384, gx_385, gx_386, gx_387, gx_388, gx_389, gx_390, gx_391, gx_392, gx_393, gx_394, gx_395, gx_396, gx_397, gx_398, gx_399, gx_400, gx_401, gx_402, gx_403, gn_368, gn_369, gn_370, gn_371, gn_372, gn_373, gn_374, gn_375, gn_376, gn_377, gn_378, gn_379, gn_380, gn_381, gn_382, gn_383, gn_384, gn_385, gn_386, gn_387, gn_388, gn_389, gn_390, gn_391, gn_392, gn_393, gn_394, gn_395, gn_396, gn_397, gn_398, gn_399, gn_400, gn_401, gn_402, gn_403, is_closed, is_cover, is_raise]
  by_cases w5 : jW G 113757348
  · rw [ci_t w5, if_neg (show ¬ (1 : Int) = 0 by decide), ci_f (show ¬ jW G 3659954 from fun w => absurd (jW_un w5 w) (by decide)), ci_f (show ¬ jW G 18916965 from fun w => absurd (jW_un w5 w) (by decide)), if_pos (show (0 : Int) = 0 from rfl), if_pos (show (0 : Int) = 0 from rfl), if_neg (show ¬ (1 : Int) = 0 by decide)]
    unfold pfX12_lineHere_b107 pfX12_lineHere_b117
    rw [if_neg (by decide), if_neg (by decide), r_122 h, if_pos (by decide)]
    exact fin (j_setting h hK (k4 w5) (by decide)) gd
  rw [ci_f w5]
  by_cases w6 : jW G 3659954
  · rw [ci_t w6, if_neg (show ¬ (1 : Int) = 0 by decide), if_pos (show (0 : Int) = 0 from rfl), if_neg (show ¬ (1 : Int) = 0 by decide)]
    unfold pfX12_lineHere_b107 pfX12_lineHere_b117
    rw [if_neg (by decide), if_neg (by decide), r_122 h, if_pos (by decide)]
    exact fin (j_setting h hK (k4 w6) (by decide)) gd
  rw [ci_f w6]
  by_cases w7 : jW G 18916965
  · rw [ci_t w7, if_pos (show (0 : Int) = 0 from rfl), if_neg (show ¬ (1 : Int) = 0 by decide), if_pos (show (0 : Int) = 0 from rfl), if_pos (show (0 : Int) = 0 from rfl), if_neg (show ¬ (1 : Int) = 0 by decide)]
    unfold pfX12_lineHere_b107 pfX12_lineHere_b117
    rw [if_neg (by decide), if_neg (by decide), r_122 h, if_pos (by decide)]
    exact fin (j_setting h hK (k4 w7) (by decide)) gd
  rw [ci_f w7]
  obtain ⟨F', G', a1, a2, a3, a4, a5⟩ := j_fail h (k := 1) (by decide)
  unfold pfX12_lineHere_b107 pfX12_lineHere_b122
  simp only [pl_l, pl_b, pl_iT, pl_t, pl_f, gx_367, gx_368, gx_369, gx_370, gx_371, gx_372, gx_373, gx_374, gx_375, gx_376, gx_377, gx_378, gx_379, gx_380, gx_381, gx_382, gx_383, gx_384, gx_385, gx_386, gx_387, gx_388, gx_389, gx_390, gx_391, gx_392, gx_393, gx_394, gx_395, gx_396, gx_397, gx_398, gx_399, gx_400, gx_401, gx_402, gx_403, gn_368, gn_369, gn_370, gn_371, gn_372, gn_373, gn_374, gn_375, gn_376, gn_377, gn_378, gn_379, gn_380, gn_381, gn_382, gn_383, gn_384, gn_385, gn_386, gn_387, gn_388, gn_389, gn_390, gn_391, gn_392, gn_393, gn_394, gn_395, gn_396, gn_397, gn_398, gn_399, gn_400, gn_401, gn_402, gn_403, a1, a2]
  rw [if_neg (show ¬ (-1 : Int) ≥ 0 by decide), if_pos (show (-1 : Int) < 0 by decide), if_neg (show ¬ (0 : Int) ≠ 0 by decide), pl_i (by decide)]
  exact jL.x a4.w ((wR.rf G).z a5) a3
theorem j_lines : ∀ (k d k' : Nat) (F G : pd_F) (n : Int), n + d = 43 → d + 1 < k → d + 1 < k' → 0 ≤ n → J b F G → K b F (bn G) → kN (bn G) = n + 1 → ∃ F' G' N, wC b F F' ∧ wR G G' ∧
    (((1 ≤ N ∧ N ≤ 44) ∧ J b F' G' ∧ K b F' (bn G') ∧ pfX6_read_b27 pd_SH 5000 k F 2 n 1 = pfX6_read_b50 pd_SH 5000 F' 2 N ∧ pfX12_book_b109 pd_SH 5000 k' G 367 (n + 1) 1 = pfX12_book_b135 pd_SH 5000 G' 367 N 1) ∨
     (jF F' G' ∧ pfX6_read_b27 pd_SH 5000 k F 2 n 1 = some (-2 - F' 2 2, F') ∧ pfX12_book_b109 pd_SH 5000 k' G 367 (n + 1) 1 = pfX12_book_b135 pd_SH 5000 G' 367 N 0))
  | 0, d, _, F, G, n, _, hk, _, _, _, _, _ => by omega
  | k + 1, d, 0, F, G, n, _, _, hk, _, _, _, _ => by omega
  | k + 1, d, k' + 1, F, G, n, hd, hk, hk', n0, h, hK, hN => by
    have bd := kN_bd hK
    rw [hN] at bd
    have h7 := h.2.2.2.2.2.1
    rw [pfX6_read_b27, pfX12_book_b109]
    simp only [pl_l, pl_b, pl_iT, pl_t, pl_f, gx_1, gx_2, gx_3, gx_4, gx_113, gx_114, gx_115, gx_116, gx_212, gx_213, gx_224, gn_4, gn_114, gn_115, gn_116, gn_213, gn_224, lx_1_0 h.1, lx_1_1 h.1, lx_1_2 h.1, lx_1_3 h.1, lx_1_4 h.1, lx_1_5 h.1, lx_1_6 h.1, lx_1_7 h.1, lx_2_0 h.1, lx_3_0 h.1, lx_113_0 h.1, lx_113_1 h.1, lx_113_2 h.1, lx_212_0 h.1, lx_212_1 h.1, gx_367, gx_368, gx_369, gx_370, gx_371, gx_372, gx_373, gx_374, gx_375, gx_376, gx_377, gx_378, gx_379, gx_380, gx_381, gx_382, gx_383, gx_384, gx_385, gx_386, gx_387, gx_388, gx_389, gx_390, gx_391, gx_392, gx_393, gx_394, gx_395, gx_396, gx_397, gx_398, gx_399, gx_400, gx_401, gx_402, gx_403, gn_368, gn_369, gn_370, gn_371, gn_372, gn_373, gn_374, gn_375, gn_376, gn_377, gn_378, gn_379, gn_380, gn_381, gn_382, gn_383, gn_384, gn_385, gn_386, gn_387, gn_388, gn_389, gn_390, gn_391, gn_392, gn_393, gn_394, gn_395, gn_396, gn_397, gn_398, gn_399, gn_400, gn_401, gn_402, gn_403]
    rw [if_neg (show ¬ (1 : Int) = 0 by decide), if_neg (show ¬ (1 : Int) = 0 by decide), if_neg (show ¬ n > 44 by omega), pl_w (by omega)]
    by_cases e : F 3 4 = 0
    · have e' : G 367 6 = 0 := by rw [← h7.1]; exact e
      rw [if_neg (fun z => z e), if_neg (fun z => z e'), if_pos (show n + 1 ≠ 0 by omega)]
      exact ⟨F, G, n + 1, (zC.rf F).w, wR.rf G, Or.inl ⟨by omega, h, hK, rfl, rfl⟩⟩
    · rw [if_pos e, if_pos (show G 367 6 ≠ 0 from fun z => e (by rw [h7.1]; exact z))]
      obtain ⟨F1, G1, v, e1, e2, e3, e4, e5⟩ := j_line h hK
      unfold pfX12_book_b124
      simp only [pl_l, pl_b, pl_iT, pl_t, pl_f, gx_367, gx_368, gx_369, gx_370, gx_371, gx_372, gx_373, gx_374, gx_375, gx_376, gx_377, gx_378, gx_379, gx_380, gx_381, gx_382, gx_383, gx_384, gx_385, gx_386, gx_387, gx_388, gx_389, gx_390, gx_391, gx_392, gx_393, gx_394, gx_395, gx_396, gx_397, gx_398, gx_399, gx_400, gx_401, gx_402, gx_403, gn_368, gn_369, gn_370, gn_371, gn_372, gn_373, gn_374, gn_375, gn_376, gn_377, gn_378, gn_379, gn_380, gn_381, gn_382, gn_383, gn_384, gn_385, gn_386, gn_387, gn_388, gn_389, gn_390, gn_391, gn_392, gn_393, gn_394, gn_395, gn_396, gn_397, gn_398, gn_399, gn_400, gn_401, gn_402, gn_403, e1, e2]
      rw [pl_w (by omega)]
      rcases e5 with ⟨rfl, J1, K1, N1⟩ | ⟨rfl, J1⟩
      · have bd1 := kN_bd K1
        rw [N1, hN] at bd1
        obtain ⟨d', rfl⟩ : ∃ d', d = d' + 1 := ⟨d - 1, by omega⟩
        obtain ⟨F', G', N, f1, f2, f3⟩ := j_lines k d' k' F1 G1 (n + 1) (by omega) (by omega) (by omega) (by omega) J1 K1 (by rw [N1, hN])
        exact ⟨F', G', N, e3.tr f1, e4.tr f2, f3⟩
      · obtain ⟨k0, rfl⟩ : ∃ k0, k = k0 + 1 := ⟨k - 1, by omega⟩
        obtain ⟨k1, rfl⟩ : ∃ k1, k' = k1 + 1 := ⟨k' - 1, by omega⟩
        refine ⟨F1, G1, n + 1 + 1, e3, e4, Or.inr ⟨J1, ?_, ?_⟩⟩
        · rw [pfX6_read_b27]
          simp only [pl_l, pl_b, pl_iT, pl_t, pl_f, gx_1, gx_2, gx_3, gx_4, gx_113, gx_114, gx_115, gx_116, gx_212, gx_213, gx_224, gn_4, gn_114, gn_115, gn_116, gn_213, gn_224]
          obtain ⟨-, -, f1, f2, f3⟩ := J1
          rw [pl_w (by omega)]
        · rw [pfX12_book_b109]
          simp only [pl_l, pl_b, pl_iT, pl_t, pl_f]
end RL

/-! the reference: depositors -/
theorem fE_iff {np : Int} {A : Int → Int → Prop} {p : Int} {g : Int → Int} (hn : np ≤ 12) (hp : 0 ≤ p ∧ p < np) (h : fE np A p g) {q : Int} (h0 : 0 ≤ q) (h1 : q < np) : 0 ≤ g q ↔ Cn np A p q := by
  rcases h q h0 h1 with ⟨e, a, b⟩ | ⟨a, b⟩
  · exact ⟨fun _ => Rk_11 hn hp e b.1, fun _ => by omega⟩
  · exact ⟨fun c => by omega, fun c => absurd c a⟩
theorem r_laysDepositors {F : pd_F} (hL : pd_Ly F) {np : Int} (hn : F 369 0 = np ∧ 0 ≤ np ∧ np ≤ 12) (hk : pOk np (F 375) (F 376) (F 393)) :
    ∃ F', pfX12_laysDepositors pd_SH 5000 F 367 = some F' ∧ pd_Ly F' ∧ (∀ b, b ≠ 367 → b ≠ 398 → b ≠ 399 → F' b = F b) ∧ (∀ j, j ≠ 46 → F' 367 j = F 367 j) ∧
      F' 367 46 = DC np (Cn np (Bs (F 375) (F 376) (F 393))) ∧ ∀ p, 0 ≤ p → p < np → F' 398 p = DN np (Cn np (Bs (F 375) (F 376) (F 393))) p := by
  generalize hA : Bs (F 375) (F 376) (F 393) = A
  have inv := dn_inv (np := np) (C := Cn np A) (fun p _ _ => Cn_rf)
  have l57 : ∀ (c28 : pd_F → Int → Int → Option pd_F) (G : pd_F) (x cnt : Int) (old : Int → Int), 0 ≤ x → x < np → 0 ≤ cnt → cnt ≤ 100 → pd_Ly G → (∀ b, b ≠ 367 → b ≠ 398 → b ≠ 399 → G b = F b) → (∀ j, j ≠ 46 → G 367 j = F 367 j) → G 367 46 = cnt → (∀ o, 0 ≤ o → o < np → G 398 o = old o) → fE np A x (G 399) →
      ∃ G', (pd_Ly G' ∧ (∀ b, b ≠ 367 → b ≠ 398 → b ≠ 399 → G' b = F b) ∧ (∀ j, j ≠ 46 → G' 367 j = F 367 j) ∧ G' 367 46 = cnt + 1 ∧ ∀ o, 0 ≤ o → o < np → G' 398 o = ci (0 ≤ o ∧ o < np ∧ Cn np A x o) cnt (old o)) ∧ pfX12_laysDepositors_b57 pd_SH 5000 c28 5000 G 367 x 0 = c28 G' 367 (x + 1) := by
    intro c28 G x cnt old hx hx2 hc hc2 g1 g2 g3 g4 g5 g6
    refine pl_for (f := fun j (q : pd_F) i => pfX12_laysDepositors_b57 pd_SH 5000 c28 j q 367 x i)
      (P := fun i q => pd_Ly q ∧ (∀ b, b ≠ 367 → b ≠ 398 → b ≠ 399 → q b = F b) ∧ (∀ j, j ≠ 46 → q 367 j = F 367 j) ∧ q 367 46 = cnt ∧ (∀ o, 0 ≤ o → o < np → q 398 o = if o < i then ci (0 ≤ o ∧ o < np ∧ Cn np A x o) cnt (old o) else old o) ∧ fE np A x (q 399)) (N := np)
      (res := fun o => ∃ G', (pd_Ly G' ∧ (∀ b, b ≠ 367 → b ≠ 398 → b ≠ 399 → G' b = F b) ∧ (∀ j, j ≠ 46 → G' 367 j = F 367 j) ∧ G' 367 46 = cnt + 1 ∧ ∀ o, 0 ≤ o → o < np → G' 398 o = ci (0 ≤ o ∧ o < np ∧ Cn np A x o) cnt (old o)) ∧ o = c28 G' 367 (x + 1)) ?_ ?_ 5000 G 0 (by omega) (by omega) (by omega)
      ⟨g1, g2, g3, g4, fun o a b => by rw [if_neg (by omega)]; exact g5 o a b, g6⟩
    · intro j G i a b ⟨q1, q2, q3, q4, q5, q6⟩
      left
      have e0 : G 369 0 = np := by rw [q2 369 (by decide) (by decide) (by decide)]; exact hn.1
      have hf := fE_iff hn.2.2 ⟨hx, hx2⟩ q6 a b
      by_cases c : 0 ≤ G 399 i
      · refine ⟨pd_up G 398 i cnt, ⟨q1.up (pl_rc0 sx_398 (by decide)), fun b h1 h2 h3 => by rw [pu_a h2]; exact q2 b h1 h2 h3, fun j h => by rw [pu_a (by decide)]; exact q3 j h, by rw [pu_a (by decide)]; exact q4, ?_, by rw [pu_a (by decide)]; exact q6⟩, ?_⟩
        · intro o h1 h2
          rw [pu_r]
          by_cases k : o = i
          · rw [if_pos k, if_pos (by omega), k, ci_t ⟨a, b, hf.mp c⟩]
          · rw [if_neg k, q5 o h1 h2]
            by_cases k2 : o < i
            · rw [if_pos k2, if_pos (by omega)]
            · rw [if_neg k2, if_neg (by omega)]
        · show pfX12_laysDepositors_b57 pd_SH 5000 c28 (j + 1) G 367 x i = _
          simp (disch := omega) only [pfX12_laysDepositors_b57, pfX12_laysDepositors_b86, pl_l, pl_b, pl_iT, pl_t, pl_f, lm_1 q1, lm_14 q1, lm_15 q1, lm_16 q1, lm_17 q1, lm_18 q1, lm_19 q1, lm_20 q1, lm_21 q1, lm_22 q1, lm_23 q1, lm_24 q1, lm_25 q1, lm_26 q1, lm_27 q1, lm_28 q1, lm_29 q1, lm_30 q1, lm_31 q1, lm_32 q1, lm_33 q1, lm_34 q1, lm_35 q1, lm_36 q1, lm_37 q1, lm_39 q1, lm_40 q1, lm_42 q1, lm_43 q1, lm_44 q1, lm_45 q1, lm_47 q1, lm_48 q1, lm_49 q1, lm_50 q1, lm_51 q1, gx_367, gx_368, gx_369, gx_370, gx_371, gx_372, gx_373, gx_374, gx_375, gx_376, gx_377, gx_378, gx_379, gx_380, gx_381, gx_382, gx_383, gx_384, gx_385, gx_386, gx_387, gx_388, gx_389, gx_390, gx_391, gx_392, gx_393, gx_394, gx_395, gx_396, gx_397, gx_398, gx_399, gx_400, gx_401, gx_402, gx_403, gn_368, gn_369, gn_370, gn_371, gn_372, gn_373, gn_374, gn_375, gn_376, gn_377, gn_378, gn_379, gn_380, gn_381, gn_382, gn_383, gn_384, gn_385, gn_386, gn_387, gn_388, gn_389, gn_390, gn_391, gn_392, gn_393, gn_394, gn_395, gn_396, gn_397, gn_398, gn_399, gn_400, gn_401, gn_402, gn_403, e0, q4, pl_w, pl_i, if_pos, if_neg]
      · refine ⟨G, ⟨q1, q2, q3, q4, ?_, q6⟩, ?_⟩
        · intro o h1 h2
          rw [q5 o h1 h2]
          by_cases k : o = i
          · rw [if_neg (by omega), if_pos (by omega), ci_f (fun h => c (hf.mpr (k ▸ h.2.2)))]
          · by_cases k2 : o < i
            · rw [if_pos k2, if_pos (by omega)]
            · rw [if_neg k2, if_neg (by omega)]
        · show pfX12_laysDepositors_b57 pd_SH 5000 c28 (j + 1) G 367 x i = _
          simp (disch := omega) only [pfX12_laysDepositors_b57, pfX12_laysDepositors_b86, pl_l, pl_b, pl_iT, pl_t, pl_f, lm_1 q1, lm_14 q1, lm_15 q1, lm_16 q1, lm_17 q1, lm_18 q1, lm_19 q1, lm_20 q1, lm_21 q1, lm_22 q1, lm_23 q1, lm_24 q1, lm_25 q1, lm_26 q1, lm_27 q1, lm_28 q1, lm_29 q1, lm_30 q1, lm_31 q1, lm_32 q1, lm_33 q1, lm_34 q1, lm_35 q1, lm_36 q1, lm_37 q1, lm_39 q1, lm_40 q1, lm_42 q1, lm_43 q1, lm_44 q1, lm_45 q1, lm_47 q1, lm_48 q1, lm_49 q1, lm_50 q1, lm_51 q1, gx_367, gx_368, gx_369, gx_370, gx_371, gx_372, gx_373, gx_374, gx_375, gx_376, gx_377, gx_378, gx_379, gx_380, gx_381, gx_382, gx_383, gx_384, gx_385, gx_386, gx_387, gx_388, gx_389, gx_390, gx_391, gx_392, gx_393, gx_394, gx_395, gx_396, gx_397, gx_398, gx_399, gx_400, gx_401, gx_402, gx_403, gn_368, gn_369, gn_370, gn_371, gn_372, gn_373, gn_374, gn_375, gn_376, gn_377, gn_378, gn_379, gn_380, gn_381, gn_382, gn_383, gn_384, gn_385, gn_386, gn_387, gn_388, gn_389, gn_390, gn_391, gn_392, gn_393, gn_394, gn_395, gn_396, gn_397, gn_398, gn_399, gn_400, gn_401, gn_402, gn_403, e0, pl_w, pl_i, if_pos, if_neg]
    · intro j G ⟨q1, q2, q3, q4, q5, q6⟩
      have e0 : G 369 0 = np := by rw [q2 369 (by decide) (by decide) (by decide)]; exact hn.1
      refine ⟨pd_up G 367 46 (cnt + 1), ⟨q1.up (pl_rc4 sx_367 (by decide)), fun b h1 h2 h3 => by rw [pu_a h1]; exact q2 b h1 h2 h3, fun j h => by rw [pu_r, if_neg h]; exact q3 j h, by rw [pu_r, if_pos rfl], ?_⟩, ?_⟩
      · intro o h1 h2
        rw [pu_a (by decide), q5 o h1 h2, if_pos h2]
      · show pfX12_laysDepositors_b57 pd_SH 5000 c28 (j + 1) G 367 x np = _
        simp (disch := omega) only [pfX12_laysDepositors_b57, pfX12_laysDepositors_b92, pfX12_laysDepositors_b102, pl_l, pl_b, pl_iT, pl_t, pl_f, lm_1 q1, lm_14 q1, lm_15 q1, lm_16 q1, lm_17 q1, lm_18 q1, lm_19 q1, lm_20 q1, lm_21 q1, lm_22 q1, lm_23 q1, lm_24 q1, lm_25 q1, lm_26 q1, lm_27 q1, lm_28 q1, lm_29 q1, lm_30 q1, lm_31 q1, lm_32 q1, lm_33 q1, lm_34 q1, lm_35 q1, lm_36 q1, lm_37 q1, lm_39 q1, lm_40 q1, lm_42 q1, lm_43 q1, lm_44 q1, lm_45 q1, lm_47 q1, lm_48 q1, lm_49 q1, lm_50 q1, lm_51 q1, gx_367, gx_368, gx_369, gx_370, gx_371, gx_372, gx_373, gx_374, gx_375, gx_376, gx_377, gx_378, gx_379, gx_380, gx_381, gx_382, gx_383, gx_384, gx_385, gx_386, gx_387, gx_388, gx_389, gx_390, gx_391, gx_392, gx_393, gx_394, gx_395, gx_396, gx_397, gx_398, gx_399, gx_400, gx_401, gx_402, gx_403, gn_368, gn_369, gn_370, gn_371, gn_372, gn_373, gn_374, gn_375, gn_376, gn_377, gn_378, gn_379, gn_380, gn_381, gn_382, gn_383, gn_384, gn_385, gn_386, gn_387, gn_388, gn_389, gn_390, gn_391, gn_392, gn_393, gn_394, gn_395, gn_396, gn_397, gn_398, gn_399, gn_400, gn_401, gn_402, gn_403, e0, q4, pl_w, pl_i, if_pos, if_neg]
  have l28 : ∀ (G : pd_F), pd_Ly G → (∀ b, b ≠ 367 → b ≠ 398 → b ≠ 399 → G b = F b) → (∀ j, j ≠ 46 → G 367 j = F 367 j) → G 367 46 = 0 → (∀ o, 0 ≤ o → o < np → G 398 o = -1) →
      ∃ F', pfX12_laysDepositors_b28 pd_SH 5000 5000 G 367 0 = some F' ∧ pd_Ly F' ∧ (∀ b, b ≠ 367 → b ≠ 398 → b ≠ 399 → F' b = F b) ∧ (∀ j, j ≠ 46 → F' 367 j = F 367 j) ∧ F' 367 46 = DC np (Cn np A) ∧ ∀ p, 0 ≤ p → p < np → F' 398 p = DN np (Cn np A) p := by
    intro G g1 g2 g3 g4 g5
    refine pl_for (f := fun j (q : pd_F) i => pfX12_laysDepositors_b28 pd_SH 5000 j q 367 i)
      (P := fun i q => pd_Ly q ∧ (∀ b, b ≠ 367 → b ≠ 398 → b ≠ 399 → q b = F b) ∧ (∀ j, j ≠ 46 → q 367 j = F 367 j) ∧ q 367 46 = (dn np (Cn np A) i.toNat).2 ∧ ∀ o, 0 ≤ o → o < np → q 398 o = (dn np (Cn np A) i.toNat).1 o) (N := np)
      (res := fun o => ∃ F', o = some F' ∧ pd_Ly F' ∧ (∀ b, b ≠ 367 → b ≠ 398 → b ≠ 399 → F' b = F b) ∧ (∀ j, j ≠ 46 → F' 367 j = F 367 j) ∧ F' 367 46 = DC np (Cn np A) ∧ ∀ p, 0 ≤ p → p < np → F' 398 p = DN np (Cn np A) p) ?_ ?_ 5000 G 0 (by omega) (by omega) (by omega)
      ⟨g1, g2, g3, g4, g5⟩
    · intro j G i a b ⟨q1, q2, q3, q4, q5⟩
      left
      have e0 : G 369 0 = np := by rw [q2 369 (by decide) (by decide) (by decide)]; exact hn.1
      have ei : (i + 1).toNat = i.toNat + 1 := by omega
      have eii : ((i.toNat : Nat) : Int) = i := by omega
      obtain ⟨i1, i2, i3, i4, i5⟩ := inv i.toNat (by omega)
      rw [ei, dn_s, eii]
      by_cases c : 0 ≤ (dn np (Cn np A) i.toNat).1 i
      · rw [if_pos c]
        refine ⟨G, ⟨q1, q2, q3, q4, q5⟩, ?_⟩
        have := q5 i a b
        show pfX12_laysDepositors_b28 pd_SH 5000 (j + 1) G 367 i = _
        simp (disch := omega) only [pfX12_laysDepositors_b28, pfX12_laysDepositors_b102, pl_l, pl_b, pl_iT, pl_t, pl_f, lm_1 q1, lm_14 q1, lm_15 q1, lm_16 q1, lm_17 q1, lm_18 q1, lm_19 q1, lm_20 q1, lm_21 q1, lm_22 q1, lm_23 q1, lm_24 q1, lm_25 q1, lm_26 q1, lm_27 q1, lm_28 q1, lm_29 q1, lm_30 q1, lm_31 q1, lm_32 q1, lm_33 q1, lm_34 q1, lm_35 q1, lm_36 q1, lm_37 q1, lm_39 q1, lm_40 q1, lm_42 q1, lm_43 q1, lm_44 q1, lm_45 q1, lm_47 q1, lm_48 q1, lm_49 q1, lm_50 q1, lm_51 q1, gx_367, gx_368, gx_369, gx_370, gx_371, gx_372, gx_373, gx_374, gx_375, gx_376, gx_377, gx_378, gx_379, gx_380, gx_381, gx_382, gx_383, gx_384, gx_385, gx_386, gx_387, gx_388, gx_389, gx_390, gx_391, gx_392, gx_393, gx_394, gx_395, gx_396, gx_397, gx_398, gx_399, gx_400, gx_401, gx_402, gx_403, gn_368, gn_369, gn_370, gn_371, gn_372, gn_373, gn_374, gn_375, gn_376, gn_377, gn_378, gn_379, gn_380, gn_381, gn_382, gn_383, gn_384, gn_385, gn_386, gn_387, gn_388, gn_389, gn_390, gn_391, gn_392, gn_393, gn_394, gn_395, gn_396, gn_397, gn_398, gn_399, gn_400, gn_401, gn_402, gn_403, e0, pl_w, pl_i, if_pos, if_neg]
      · rw [if_neg c]
        obtain ⟨G1, f1, f2, f3, f4⟩ := r_laysFar q1 (np := np) (p := i) ⟨e0, hn.2.2⟩ (by rw [q2 375 (by decide) (by decide) (by decide), q2 376 (by decide) (by decide) (by decide), q2 393 (by decide) (by decide) (by decide)]; exact hk) ⟨a, b⟩
        rw [q2 375 (by decide) (by decide) (by decide), q2 376 (by decide) (by decide) (by decide), q2 393 (by decide) (by decide) (by decide), hA] at f4
        obtain ⟨G', h1, h2⟩ := l57 (pfX12_laysDepositors_b28 pd_SH 5000 j) G1 i (dn np (Cn np A) i.toNat).2 (dn np (Cn np A) i.toNat).1 a b i1 (by omega) f2 (fun b h1 h2 h3 => (f3 b h3).trans (q2 b h1 h2 h3)) (fun j h => by rw [f3 367 (by decide)]; exact q3 j h) (by rw [f3 367 (by decide)]; exact q4) (fun o k1 k2 => by rw [f3 398 (by decide)]; exact q5 o k1 k2) f4
        refine ⟨G', h1, ?_⟩
        have := q5 i a b
        show pfX12_laysDepositors_b28 pd_SH 5000 (j + 1) G 367 i = _
        simp (disch := omega) only [pfX12_laysDepositors_b28, pl_l, pl_b, pl_iT, pl_t, pl_f, lm_1 q1, lm_14 q1, lm_15 q1, lm_16 q1, lm_17 q1, lm_18 q1, lm_19 q1, lm_20 q1, lm_21 q1, lm_22 q1, lm_23 q1, lm_24 q1, lm_25 q1, lm_26 q1, lm_27 q1, lm_28 q1, lm_29 q1, lm_30 q1, lm_31 q1, lm_32 q1, lm_33 q1, lm_34 q1, lm_35 q1, lm_36 q1, lm_37 q1, lm_39 q1, lm_40 q1, lm_42 q1, lm_43 q1, lm_44 q1, lm_45 q1, lm_47 q1, lm_48 q1, lm_49 q1, lm_50 q1, lm_51 q1, gx_367, gx_368, gx_369, gx_370, gx_371, gx_372, gx_373, gx_374, gx_375, gx_376, gx_377, gx_378, gx_379, gx_380, gx_381, gx_382, gx_383, gx_384, gx_385, gx_386, gx_387, gx_388, gx_389, gx_390, gx_391, gx_392, gx_393, gx_394, gx_395, gx_396, gx_397, gx_398, gx_399, gx_400, gx_401, gx_402, gx_403, gn_368, gn_369, gn_370, gn_371, gn_372, gn_373, gn_374, gn_375, gn_376, gn_377, gn_378, gn_379, gn_380, gn_381, gn_382, gn_383, gn_384, gn_385, gn_386, gn_387, gn_388, gn_389, gn_390, gn_391, gn_392, gn_393, gn_394, gn_395, gn_396, gn_397, gn_398, gn_399, gn_400, gn_401, gn_402, gn_403, e0, f1, pl_w, pl_i, if_pos, if_neg, h2]
    · intro j G ⟨q1, q2, q3, q4, q5⟩
      have e0 : G 369 0 = np := by rw [q2 369 (by decide) (by decide) (by decide)]; exact hn.1
      refine ⟨G, ?_, q1, q2, q3, q4, q5⟩
      show pfX12_laysDepositors_b28 pd_SH 5000 (j + 1) G 367 np = _
      simp (disch := omega) only [pfX12_laysDepositors_b28, pl_l, pl_b, pl_iT, pl_t, pl_f, lm_1 q1, lm_14 q1, lm_15 q1, lm_16 q1, lm_17 q1, lm_18 q1, lm_19 q1, lm_20 q1, lm_21 q1, lm_22 q1, lm_23 q1, lm_24 q1, lm_25 q1, lm_26 q1, lm_27 q1, lm_28 q1, lm_29 q1, lm_30 q1, lm_31 q1, lm_32 q1, lm_33 q1, lm_34 q1, lm_35 q1, lm_36 q1, lm_37 q1, lm_39 q1, lm_40 q1, lm_42 q1, lm_43 q1, lm_44 q1, lm_45 q1, lm_47 q1, lm_48 q1, lm_49 q1, lm_50 q1, lm_51 q1, gx_367, gx_368, gx_369, gx_370, gx_371, gx_372, gx_373, gx_374, gx_375, gx_376, gx_377, gx_378, gx_379, gx_380, gx_381, gx_382, gx_383, gx_384, gx_385, gx_386, gx_387, gx_388, gx_389, gx_390, gx_391, gx_392, gx_393, gx_394, gx_395, gx_396, gx_397, gx_398, gx_399, gx_400, gx_401, gx_402, gx_403, gn_368, gn_369, gn_370, gn_371, gn_372, gn_373, gn_374, gn_375, gn_376, gn_377, gn_378, gn_379, gn_380, gn_381, gn_382, gn_383, gn_384, gn_385, gn_386, gn_387, gn_388, gn_389, gn_390, gn_391, gn_392, gn_393, gn_394, gn_395, gn_396, gn_397, gn_398, gn_399, gn_400, gn_401, gn_402, gn_403, e0, pl_w, pl_i, if_pos, if_neg]
  unfold pfX12_laysDepositors
  simp only [pl_l, pl_b, pl_iT, pl_t, pl_f, gx_367, gx_368, gx_369, gx_370, gx_371, gx_372, gx_373, gx_374, gx_375, gx_376, gx_377, gx_378, gx_379, gx_380, gx_381, gx_382, gx_383, gx_384, gx_385, gx_386, gx_387, gx_388, gx_389, gx_390, gx_391, gx_392, gx_393, gx_394, gx_395, gx_396, gx_397, gx_398, gx_399, gx_400, gx_401, gx_402, gx_403, gn_368, gn_369, gn_370, gn_371, gn_372, gn_373, gn_374, gn_375, gn_376, gn_377, gn_378, gn_379, gn_380, gn_381, gn_382, gn_383, gn_384, gn_385, gn_386, gn_387, gn_388, gn_389, gn_390, gn_391, gn_392, gn_393, gn_394, gn_395, gn_396, gn_397, gn_398, gn_399, gn_400, gn_401, gn_402, gn_403]
  refine pl_for (f := fun j (q : pd_F) i => pfX12_laysDepositors_b7 pd_SH 5000 j q 367 i)
    (P := fun i q => pd_Ly q ∧ (∀ b, b ≠ 367 → b ≠ 398 → b ≠ 399 → q b = F b) ∧ (∀ j, j ≠ 46 → q 367 j = F 367 j) ∧ q 367 46 = 0 ∧ ∀ o, 0 ≤ o → o < i → q 398 o = -1) (N := 12)
    (res := fun o => ∃ F', o = some F' ∧ pd_Ly F' ∧ (∀ b, b ≠ 367 → b ≠ 398 → b ≠ 399 → F' b = F b) ∧ (∀ j, j ≠ 46 → F' 367 j = F 367 j) ∧ F' 367 46 = DC np (Cn np A) ∧ ∀ p, 0 ≤ p → p < np → F' 398 p = DN np (Cn np A) p) ?_ ?_ 5000 (pd_up F 367 46 0) 0 (by omega) (by omega) (by omega)
    ⟨hL.up (pl_rc4 sx_367 (by decide)), fun b h1 h2 h3 => by rw [pu_a h1], fun j h => by rw [pu_r, if_neg h], by rw [pu_r, if_pos rfl], fun o a b => by omega⟩
  · intro j G i a b ⟨q1, q2, q3, q4, q5⟩
    refine Or.inl ⟨pd_up G 398 i (-1), ⟨q1.up (pl_rc0 sx_398 (by decide)), fun b h1 h2 h3 => by rw [pu_a h2]; exact q2 b h1 h2 h3, fun j h => by rw [pu_a (by decide)]; exact q3 j h, by rw [pu_a (by decide)]; exact q4, fun o c d => ?_⟩, ?_⟩
    · rw [pu_r]
      split
      · rfl
      · exact q5 o c (by omega)
    · show pfX12_laysDepositors_b7 pd_SH 5000 (j + 1) G 367 i = _
      simp (disch := omega) only [pfX12_laysDepositors_b7, pl_l, pl_b, pl_iT, pl_t, pl_f, lm_1 q1, lm_14 q1, lm_15 q1, lm_16 q1, lm_17 q1, lm_18 q1, lm_19 q1, lm_20 q1, lm_21 q1, lm_22 q1, lm_23 q1, lm_24 q1, lm_25 q1, lm_26 q1, lm_27 q1, lm_28 q1, lm_29 q1, lm_30 q1, lm_31 q1, lm_32 q1, lm_33 q1, lm_34 q1, lm_35 q1, lm_36 q1, lm_37 q1, lm_39 q1, lm_40 q1, lm_42 q1, lm_43 q1, lm_44 q1, lm_45 q1, lm_47 q1, lm_48 q1, lm_49 q1, lm_50 q1, lm_51 q1, gx_367, gx_368, gx_369, gx_370, gx_371, gx_372, gx_373, gx_374, gx_375, gx_376, gx_377, gx_378, gx_379, gx_380, gx_381, gx_382, gx_383, gx_384, gx_385, gx_386, gx_387, gx_388, gx_389, gx_390, gx_391, gx_392, gx_393, gx_394, gx_395, gx_396, gx_397, gx_398, gx_399, gx_400, gx_401, gx_402, gx_403, gn_368, gn_369, gn_370, gn_371, gn_372, gn_373, gn_374, gn_375, gn_376, gn_377, gn_378, gn_379, gn_380, gn_381, gn_382, gn_383, gn_384, gn_385, gn_386, gn_387, gn_388, gn_389, gn_390, gn_391, gn_392, gn_393, gn_394, gn_395, gn_396, gn_397, gn_398, gn_399, gn_400, gn_401, gn_402, gn_403, pl_w, pl_i, if_pos, if_neg]
  · intro j G ⟨q1, q2, q3, q4, q5⟩
    obtain ⟨F', h1, h2⟩ := l28 G q1 q2 q3 q4 (fun o a b => q5 o a (by omega))
    refine ⟨F', ?_, h2⟩
    show pfX12_laysDepositors_b7 pd_SH 5000 (j + 1) G 367 _ = _
    simp (disch := omega) only [pfX12_laysDepositors_b7, pfX12_laysDepositors_b26, pl_l, pl_b, pl_iT, pl_t, pl_f, if_pos, if_neg, h1]

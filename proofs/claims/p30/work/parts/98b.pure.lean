variable {sT : pd_S}
/-! the class's tape: one token on -/
section TC
variable {F : pd_F}
theorem c_tW79 (hL : pd_Ly F) {x e p : Int} (hp : F 3 5 = p) (he : 0 ≤ p ∧ p ≤ e ∧ e ≤ 1000) : pfX9_takeWord_b79 (pd_SH sT) 5000 (pd_up (pd_up F 3 8 x) 3 3 e) 3 = some (pd_up (pd_up (pd_up F 3 8 x) 3 3 e) 3 4 (if e - p ≤ 8 then 1 else 4)) := by
  have e3 : pd_up (pd_up F 3 8 x) 3 3 e 3 3 = e := by rw [pu_r, if_pos rfl]
  have e5 : pd_up (pd_up F 3 8 x) 3 3 e 3 5 = p := by rw [pu_r, if_neg (by decide), pu_r, if_neg (by decide), hp]
  unfold pfX9_takeWord_b79
  simp only [pl_l, pl_b, pl_iT, pl_t, pl_f, gx_1, gx_2, gx_3, gx_4, gx_113, gx_114, gx_115, gx_116, gx_212, gx_213, gx_224, gn_4, gn_114, gn_115, gn_116, gn_213, gn_224, e3, e5]
  rw [pl_w (by omega)]
  by_cases k : e - p ≤ 8
  · rw [if_neg (by omega), if_pos k]
  · rw [if_pos (by omega), if_neg k]
theorem c_takeWord (hL : pd_Ly F) (hN : 0 ≤ F 3 2 ∧ F 3 2 ≤ 1000) {p : Int} (h5 : F 3 5 = p) (h3 : F 3 3 = p) (hp : 0 ≤ p ∧ p ≤ F 3 2) : ∃ x, pfX9_takeWord (pd_SH sT) 5000 F 3 = some (pd_up (pd_up (pd_up F 3 8 x) 3 3 (En (ltB (F 4)) (F 3 2) p)) 3 4 (if En (ltB (F 4)) (F 3 2) p - p ≤ 8 then 1 else 4)) ∧
    (En (ltB (F 4)) (F 3 2) p - p ≤ 8 → x = w8 (fun k => F 4 (p + k) - 96) (En (ltB (F 4)) (F 3 2) p - p).toNat) := by
  have hb := En_bd (P := ltB (F 4)) hp.2
  generalize hE : En (ltB (F 4)) (F 3 2) p = E at hb
  generalize hc : (fun k : Nat => F 4 (p + k) - 96) = c
  unfold pfX9_takeWord
  simp only [pl_l, pl_b, pl_iT, pl_t, pl_f, gx_1, gx_2, gx_3, gx_4, gx_113, gx_114, gx_115, gx_116, gx_212, gx_213, gx_224, gn_4, gn_114, gn_115, gn_116, gn_213, gn_224]
  have e0 : pd_up F 3 8 0 = pd_up (pd_up F 3 8 0) 3 3 p := by
    have := pu_id (F := pd_up F 3 8 0) (a := 3) (j := 3)
    rw [pu_r, if_neg (by decide), h3] at this
    exact this.symm
  rw [e0]
  refine pl_for (f := fun j (x : Int) i => pfX9_takeWord_b5 (pd_SH sT) 5000 j (pd_up (pd_up F 3 8 x) 3 3 i) 3) (P := fun i x => En (ltB (F 4)) (F 3 2) i = E ∧ p ≤ i ∧ (∀ j, p ≤ j → j < i → ltB (F 4) j = true) ∧ (i - p ≤ 8 → x = w8 c (i - p).toNat)) (N := F 3 2)
    (res := fun o => ∃ x, o = some (pd_up (pd_up (pd_up F 3 8 x) 3 3 E) 3 4 (if E - p ≤ 8 then 1 else 4)) ∧ (E - p ≤ 8 → x = w8 c (E - p).toNat)) ?_ ?_ 5000 0 p hp.1 hp.2 (by omega)
    ⟨hE, Int.le_refl _, fun j a b => by omega, fun _ => by rw [show (p - p).toNat = 0 by omega]; rfl⟩
  · intro k x i a0 b0 ⟨q1, q2, q3, q4⟩
    have g1 : pd_Ly (pd_up (pd_up F 3 8 x) 3 3 i) := (hL.up (pl_rc4 sx_3 (by decide))).up (pl_rc4 sx_3 (by decide))
    have e2 : pd_up (pd_up F 3 8 x) 3 3 i 3 2 = F 3 2 := by rw [pu_r, if_neg (by decide), pu_r, if_neg (by decide)]
    have e3 : pd_up (pd_up F 3 8 x) 3 3 i 3 3 = i := by rw [pu_r, if_pos rfl]
    have e8 : pd_up (pd_up F 3 8 x) 3 3 i 3 8 = x := by rw [pu_r, if_neg (by decide), pu_r, if_pos rfl]
    have e4 : pd_up (pd_up F 3 8 x) 3 3 i 4 = F 4 := by rw [pu_a (by decide), pu_a (by decide)]
    show (∃ q', _ ∧ pfX9_takeWord_b5 (pd_SH sT) 5000 (k + 1) (pd_up (pd_up F 3 8 x) 3 3 i) 3 = pfX9_takeWord_b5 (pd_SH sT) 5000 k (pd_up (pd_up F 3 8 q') 3 3 (i + 1)) 3) ∨ ∃ x', pfX9_takeWord_b5 (pd_SH sT) 5000 (k + 1) (pd_up (pd_up F 3 8 x) 3 3 i) 3 = _ ∧ _
    by_cases z : 97 ≤ F 4 i ∧ F 4 i ≤ 122
    · left
      refine ⟨pd_Or (pd_Shl x 8) (F 4 i), ⟨?_, by omega, fun j u v => ?_, fun hk => ?_⟩, ?_⟩
      · rw [← q1]; exact (En_s b0 (ltB_t.mpr z)).symm
      · by_cases e : j = i
        · rw [e]; exact ltB_t.mpr z
        · exact q3 j u (by omega)
      · have hx := q4 (by omega)
        have hm : (i + 1 - p).toNat = (i - p).toNat + 1 := by omega
        have hcc : ∀ k, k < (i - p).toNat → 1 ≤ c k ∧ c k ≤ 26 := fun k hk => by
          have := ltB_t.mp (q3 (p + k) (by omega) (by omega))
          rw [← hc]
          show 1 ≤ F 4 (p + k) - 96 ∧ F 4 (p + k) - 96 ≤ 26
          omega
        have w := w8_bd hcc
        have p8 : 2 ^ (8 * (i - p).toNat) ≤ 2 ^ 56 := Nat.pow_le_pow_right (by decide) (by omega)
        have hci : c (i - p).toNat = F 4 i - 96 := by
          rw [← hc]
          show F 4 (p + ((i - p).toNat : Int)) - 96 = _
          rw [show p + ((i - p).toNat : Int) = i by omega]
        rw [hm]
        show _ = w8 c (i - p).toNat * 256 + (c (i - p).toNat + 96)
        rw [hci, ← hx, pl_sh8 (by omega) (by omega)]
        omega
      · have e8' : pd_up (pd_up (pd_up F 3 8 x) 3 3 i) 3 8 (pd_Or (pd_Shl x 8) (F 4 i)) 3 3 = i := by rw [pu_r, if_neg (by decide), e3]
        simp (disch := omega) only [pfX9_takeWord_b5, pl_l, pl_b, pl_iT, pl_t, pl_f, gx_1, gx_2, gx_3, gx_4, gx_113, gx_114, gx_115, gx_116, gx_212, gx_213, gx_224, gn_4, gn_114, gn_115, gn_116, gn_213, gn_224, lx_1_0 g1, lx_1_1 g1, lx_1_2 g1, lx_1_3 g1, lx_1_4 g1, lx_1_5 g1, lx_1_6 g1, lx_1_7 g1, lx_2_0 g1, lx_3_0 g1, lx_113_0 g1, lx_113_1 g1, lx_113_2 g1, lx_212_0 g1, lx_212_1 g1, e2, e3, e4, e8, e8', pl_w, pl_i, if_neg]
        rw [pu_4 (by decide)]
    · right
      have hE' : i = E := by rw [← q1, En_e (fun y => z (ltB_t.mp y.2))]
      subst hE'
      refine ⟨x, ?_, q4⟩
      rw [← c_tW79 (sT := sT) hL h5 (by omega)]
      simp (disch := omega) only [pfX9_takeWord_b5, pl_l, pl_b, pl_iT, pl_t, pl_f, gx_1, gx_2, gx_3, gx_4, gx_113, gx_114, gx_115, gx_116, gx_212, gx_213, gx_224, gn_4, gn_114, gn_115, gn_116, gn_213, gn_224, lx_1_0 g1, lx_1_1 g1, lx_1_2 g1, lx_1_3 g1, lx_1_4 g1, lx_1_5 g1, lx_1_6 g1, lx_1_7 g1, lx_2_0 g1, lx_3_0 g1, lx_113_0 g1, lx_113_1 g1, lx_113_2 g1, lx_212_0 g1, lx_212_1 g1, e2, e3, e4, pl_i, if_neg]
      by_cases y : F 4 i < 97
      · rw [if_pos y]
      · rw [if_neg y, if_pos (by omega)]
  · intro k x ⟨q1, q2, q3, q4⟩
    have g1 : pd_Ly (pd_up (pd_up F 3 8 x) 3 3 (F 3 2)) := (hL.up (pl_rc4 sx_3 (by decide))).up (pl_rc4 sx_3 (by decide))
    have e2 : pd_up (pd_up F 3 8 x) 3 3 (F 3 2) 3 2 = F 3 2 := by rw [pu_r, if_neg (by decide), pu_r, if_neg (by decide)]
    have e3 : pd_up (pd_up F 3 8 x) 3 3 (F 3 2) 3 3 = F 3 2 := by rw [pu_r, if_pos rfl]
    have hE' : F 3 2 = E := by rw [← q1, En_e (by omega)]
    show ∃ x', pfX9_takeWord_b5 (pd_SH sT) 5000 (k + 1) (pd_up (pd_up F 3 8 x) 3 3 (F 3 2)) 3 = _ ∧ _
    refine ⟨x, ?_, by rw [← hE']; exact q4⟩
    rw [← hE', ← c_tW79 (sT := sT) hL h5 (by omega)]
    simp (disch := omega) only [pfX9_takeWord_b5, pl_l, pl_b, pl_iT, pl_t, pl_f, gx_1, gx_2, gx_3, gx_4, gx_113, gx_114, gx_115, gx_116, gx_212, gx_213, gx_224, gn_4, gn_114, gn_115, gn_116, gn_213, gn_224, lx_1_0 g1, lx_1_1 g1, lx_1_2 g1, lx_1_3 g1, lx_1_4 g1, lx_1_5 g1, lx_1_6 g1, lx_1_7 g1, lx_2_0 g1, lx_3_0 g1, lx_113_0 g1, lx_113_1 g1, lx_113_2 g1, lx_212_0 g1, lx_212_1 g1, e2, e3, if_pos]
theorem c_tN81 (hL : pd_Ly F) {x e p : Int} (hp : F 3 5 = p) (he : 0 ≤ p ∧ p ≤ e ∧ e ≤ 1000) : pfX9_takeNumber_b81 (pd_SH sT) 5000 (pd_up (pd_up F 3 7 x) 3 3 e) 3 = some (pd_up (pd_up (pd_up F 3 7 x) 3 3 e) 3 4 (if e - p ≤ 7 then 2 else 4)) := by
  have e3 : pd_up (pd_up F 3 7 x) 3 3 e 3 3 = e := by rw [pu_r, if_pos rfl]
  have e5 : pd_up (pd_up F 3 7 x) 3 3 e 3 5 = p := by rw [pu_r, if_neg (by decide), pu_r, if_neg (by decide), hp]
  unfold pfX9_takeNumber_b81
  simp only [pl_l, pl_b, pl_iT, pl_t, pl_f, gx_1, gx_2, gx_3, gx_4, gx_113, gx_114, gx_115, gx_116, gx_212, gx_213, gx_224, gn_4, gn_114, gn_115, gn_116, gn_213, gn_224, e3, e5]
  rw [pl_w (by omega)]
  by_cases k : e - p ≤ 7
  · rw [if_neg (by omega), if_pos k]
  · rw [if_pos (by omega), if_neg k]
theorem c_takeNumber (hL : pd_Ly F) (hN : 0 ≤ F 3 2 ∧ F 3 2 ≤ 1000) {p : Int} (h5 : F 3 5 = p) (h3 : F 3 3 = p) (hp : 0 ≤ p ∧ p ≤ F 3 2) : ∃ x, pfX9_takeNumber (pd_SH sT) 5000 F 3 = some (pd_up (pd_up (pd_up F 3 7 x) 3 3 (En (dgB (F 4)) (F 3 2) p)) 3 4 (if En (dgB (F 4)) (F 3 2) p - p ≤ 7 then 2 else 4)) ∧
    (En (dgB (F 4)) (F 3 2) p - p ≤ 7 → x = nb (fun k => F 4 (p + k) - 48) (En (dgB (F 4)) (F 3 2) p - p).toNat) := by
  have hb := En_bd (P := dgB (F 4)) hp.2
  generalize hE : En (dgB (F 4)) (F 3 2) p = E at hb
  generalize hc : (fun k : Nat => F 4 (p + k) - 48) = c
  unfold pfX9_takeNumber
  simp only [pl_l, pl_b, pl_iT, pl_t, pl_f, gx_1, gx_2, gx_3, gx_4, gx_113, gx_114, gx_115, gx_116, gx_212, gx_213, gx_224, gn_4, gn_114, gn_115, gn_116, gn_213, gn_224]
  have e0 : pd_up F 3 7 0 = pd_up (pd_up F 3 7 0) 3 3 p := by
    have := pu_id (F := pd_up F 3 7 0) (a := 3) (j := 3)
    rw [pu_r, if_neg (by decide), h3] at this
    exact this.symm
  rw [e0]
  refine pl_for (f := fun j (x : Int) i => pfX9_takeNumber_b5 (pd_SH sT) 5000 j (pd_up (pd_up F 3 7 x) 3 3 i) 3) (P := fun i x => En (dgB (F 4)) (F 3 2) i = E ∧ p ≤ i ∧ (∀ j, p ≤ j → j < i → dgB (F 4) j = true) ∧ (i - p ≤ 7 → x = nb c (i - p).toNat)) (N := F 3 2)
    (res := fun o => ∃ x, o = some (pd_up (pd_up (pd_up F 3 7 x) 3 3 E) 3 4 (if E - p ≤ 7 then 2 else 4)) ∧ (E - p ≤ 7 → x = nb c (E - p).toNat)) ?_ ?_ 5000 0 p hp.1 hp.2 (by omega)
    ⟨hE, Int.le_refl _, fun j a b => by omega, fun _ => by rw [show (p - p).toNat = 0 by omega]; rfl⟩
  · intro k x i a0 b0 ⟨q1, q2, q3, q4⟩
    have g1 : pd_Ly (pd_up (pd_up F 3 7 x) 3 3 i) := (hL.up (pl_rc4 sx_3 (by decide))).up (pl_rc4 sx_3 (by decide))
    have e2 : pd_up (pd_up F 3 7 x) 3 3 i 3 2 = F 3 2 := by rw [pu_r, if_neg (by decide), pu_r, if_neg (by decide)]
    have e3 : pd_up (pd_up F 3 7 x) 3 3 i 3 3 = i := by rw [pu_r, if_pos rfl]
    have e8 : pd_up (pd_up F 3 7 x) 3 3 i 3 7 = x := by rw [pu_r, if_neg (by decide), pu_r, if_pos rfl]
    have e4 : pd_up (pd_up F 3 7 x) 3 3 i 4 = F 4 := by rw [pu_a (by decide), pu_a (by decide)]
    show (∃ q', _ ∧ pfX9_takeNumber_b5 (pd_SH sT) 5000 (k + 1) (pd_up (pd_up F 3 7 x) 3 3 i) 3 = pfX9_takeNumber_b5 (pd_SH sT) 5000 k (pd_up (pd_up F 3 7 q') 3 3 (i + 1)) 3) ∨ ∃ x', pfX9_takeNumber_b5 (pd_SH sT) 5000 (k + 1) (pd_up (pd_up F 3 7 x) 3 3 i) 3 = _ ∧ _
    by_cases z : 48 ≤ F 4 i ∧ F 4 i ≤ 57
    · left
      refine ⟨pd_w (pd_w (x * 10) + (F 4 i - 48)), ⟨?_, by omega, fun j u v => ?_, fun hk => ?_⟩, ?_⟩
      · rw [← q1]; exact (En_s b0 (dgB_t.mpr z)).symm
      · by_cases e : j = i
        · rw [e]; exact dgB_t.mpr z
        · exact q3 j u (by omega)
      · have hx := q4 (by omega)
        have hm : (i + 1 - p).toNat = (i - p).toNat + 1 := by omega
        have hcc : ∀ k, k < (i - p).toNat → 0 ≤ c k ∧ c k ≤ 9 := fun k hk => by
          have := dgB_t.mp (q3 (p + k) (by omega) (by omega))
          rw [← hc]
          show 0 ≤ F 4 (p + k) - 48 ∧ F 4 (p + k) - 48 ≤ 9
          omega
        have w := nb_bd hcc
        have p8 : 10 ^ (i - p).toNat ≤ 10 ^ 6 := Nat.pow_le_pow_right (by decide) (by omega)
        have hci : c (i - p).toNat = F 4 i - 48 := by
          rw [← hc]
          show F 4 (p + ((i - p).toNat : Int)) - 48 = _
          rw [show p + ((i - p).toNat : Int) = i by omega]
        rw [hm]
        show _ = nb c (i - p).toNat * 10 + c (i - p).toNat
        rw [hci, ← hx, pl_w (x := x * 10) (by omega), pl_w (by omega)]
      · have e8' : pd_up (pd_up (pd_up F 3 7 x) 3 3 i) 3 7 (pd_w (pd_w (x * 10) + (F 4 i - 48))) 3 3 = i := by rw [pu_r, if_neg (by decide), e3]
        have ew : pd_w (F 4 i - 48) = F 4 i - 48 := pl_w (by omega)
        simp (disch := omega) only [pfX9_takeNumber_b5, pl_l, pl_b, pl_iT, pl_t, pl_f, gx_1, gx_2, gx_3, gx_4, gx_113, gx_114, gx_115, gx_116, gx_212, gx_213, gx_224, gn_4, gn_114, gn_115, gn_116, gn_213, gn_224, lx_1_0 g1, lx_1_1 g1, lx_1_2 g1, lx_1_3 g1, lx_1_4 g1, lx_1_5 g1, lx_1_6 g1, lx_1_7 g1, lx_2_0 g1, lx_3_0 g1, lx_113_0 g1, lx_113_1 g1, lx_113_2 g1, lx_212_0 g1, lx_212_1 g1, e2, e3, e4, e8, ew, e8', pl_i, if_neg]
        rw [pl_w (x := i + 1) (by omega), pu_4 (by decide)]
    · right
      have hE' : i = E := by rw [← q1, En_e (fun y => z (dgB_t.mp y.2))]
      subst hE'
      refine ⟨x, ?_, q4⟩
      rw [← c_tN81 (sT := sT) hL h5 (by omega)]
      simp (disch := omega) only [pfX9_takeNumber_b5, pl_l, pl_b, pl_iT, pl_t, pl_f, gx_1, gx_2, gx_3, gx_4, gx_113, gx_114, gx_115, gx_116, gx_212, gx_213, gx_224, gn_4, gn_114, gn_115, gn_116, gn_213, gn_224, lx_1_0 g1, lx_1_1 g1, lx_1_2 g1, lx_1_3 g1, lx_1_4 g1, lx_1_5 g1, lx_1_6 g1, lx_1_7 g1, lx_2_0 g1, lx_3_0 g1, lx_113_0 g1, lx_113_1 g1, lx_113_2 g1, lx_212_0 g1, lx_212_1 g1, e2, e3, e4, pl_i, if_neg]
      by_cases y : F 4 i < 48
      · rw [if_pos y]
      · rw [if_neg y, if_pos (by omega)]
  · intro k x ⟨q1, q2, q3, q4⟩
    have g1 : pd_Ly (pd_up (pd_up F 3 7 x) 3 3 (F 3 2)) := (hL.up (pl_rc4 sx_3 (by decide))).up (pl_rc4 sx_3 (by decide))
    have e2 : pd_up (pd_up F 3 7 x) 3 3 (F 3 2) 3 2 = F 3 2 := by rw [pu_r, if_neg (by decide), pu_r, if_neg (by decide)]
    have e3 : pd_up (pd_up F 3 7 x) 3 3 (F 3 2) 3 3 = F 3 2 := by rw [pu_r, if_pos rfl]
    have hE' : F 3 2 = E := by rw [← q1, En_e (by omega)]
    show ∃ x', pfX9_takeNumber_b5 (pd_SH sT) 5000 (k + 1) (pd_up (pd_up F 3 7 x) 3 3 (F 3 2)) 3 = _ ∧ _
    refine ⟨x, ?_, by rw [← hE']; exact q4⟩
    rw [← hE', ← c_tN81 (sT := sT) hL h5 (by omega)]
    simp (disch := omega) only [pfX9_takeNumber_b5, pl_l, pl_b, pl_iT, pl_t, pl_f, gx_1, gx_2, gx_3, gx_4, gx_113, gx_114, gx_115, gx_116, gx_212, gx_213, gx_224, gn_4, gn_114, gn_115, gn_116, gn_213, gn_224, lx_1_0 g1, lx_1_1 g1, lx_1_2 g1, lx_1_3 g1, lx_1_4 g1, lx_1_5 g1, lx_1_6 g1, lx_1_7 g1, lx_2_0 g1, lx_3_0 g1, lx_113_0 g1, lx_113_1 g1, lx_113_2 g1, lx_212_0 g1, lx_212_1 g1, e2, e3, if_pos]
theorem c_skip (hL : pd_Ly F) (hN : 0 ≤ F 3 2 ∧ F 3 2 ≤ 1000) (hi : 0 ≤ F 3 3 ∧ F 3 3 ≤ F 3 2) : pfX9_advance (pd_SH sT) 5000 F 3 = pfX9_advance_b52 (pd_SH sT) 5000 (pd_up F 3 3 (En (bkB (F 4)) (F 3 2) (F 3 3))) 3 := by
  generalize hE : En (bkB (F 4)) (F 3 2) (F 3 3) = E
  unfold pfX9_advance
  have e0 := pu_id (F := F) (a := 3) (j := 3)
  have go : (fun o => o = pfX9_advance_b52 (pd_SH sT) 5000 (pd_up F 3 3 E) 3) (pfX9_advance_b0 (pd_SH sT) 5000 5000 (pd_up F 3 3 (F 3 3)) 3) := by
    refine pl_for (f := fun j (_ : Unit) i => pfX9_advance_b0 (pd_SH sT) 5000 j (pd_up F 3 3 i) 3) (P := fun i _ => En (bkB (F 4)) (F 3 2) i = E) (N := F 3 2)
      (res := fun o => o = pfX9_advance_b52 (pd_SH sT) 5000 (pd_up F 3 3 E) 3) ?_ ?_ 5000 () (F 3 3) hi.1 hi.2 (by omega) hE
    · intro k x i a0 b0 q1
      have g1 : pd_Ly (pd_up F 3 3 i) := hL.up (pl_rc4 sx_3 (by decide))
      have e2 : pd_up F 3 3 i 3 2 = F 3 2 := by rw [pu_r, if_neg (by decide)]
      have e3 : pd_up F 3 3 i 3 3 = i := by rw [pu_r, if_pos rfl]
      have e4 : pd_up F 3 3 i 4 = F 4 := pu_a (by decide)
      show (∃ q', _ ∧ pfX9_advance_b0 (pd_SH sT) 5000 (k + 1) (pd_up F 3 3 i) 3 = pfX9_advance_b0 (pd_SH sT) 5000 k (pd_up F 3 3 (i + 1)) 3) ∨ pfX9_advance_b0 (pd_SH sT) 5000 (k + 1) (pd_up F 3 3 i) 3 = _
      by_cases z : F 4 i = 32 ∨ F 4 i = 10
      · left
        refine ⟨(), ?_, ?_⟩
        · rw [← q1]; exact (En_s b0 (bkB_t.mpr z)).symm
        · simp (disch := omega) only [pfX9_advance_b0, pfX9_advance_b39, pl_l, pl_b, pl_iT, pl_t, pl_f, gx_1, gx_2, gx_3, gx_4, gx_113, gx_114, gx_115, gx_116, gx_212, gx_213, gx_224, gn_4, gn_114, gn_115, gn_116, gn_213, gn_224, lx_1_0 g1, lx_1_1 g1, lx_1_2 g1, lx_1_3 g1, lx_1_4 g1, lx_1_5 g1, lx_1_6 g1, lx_1_7 g1, lx_2_0 g1, lx_3_0 g1, lx_113_0 g1, lx_113_1 g1, lx_113_2 g1, lx_212_0 g1, lx_212_1 g1, e2, e3, e4, pl_i, if_neg]
          rw [pl_w (by omega), pu_pu]
          by_cases y : F 4 i = 32
          · rw [if_pos y]
          · rw [if_neg y]
      · right
        have hE' : i = E := by rw [← q1, En_e (fun y => z (bkB_t.mp y.2))]
        subst hE'
        simp (disch := omega) only [pfX9_advance_b0, pl_l, pl_b, pl_iT, pl_t, pl_f, gx_1, gx_2, gx_3, gx_4, gx_113, gx_114, gx_115, gx_116, gx_212, gx_213, gx_224, gn_4, gn_114, gn_115, gn_116, gn_213, gn_224, lx_1_0 g1, lx_1_1 g1, lx_1_2 g1, lx_1_3 g1, lx_1_4 g1, lx_1_5 g1, lx_1_6 g1, lx_1_7 g1, lx_2_0 g1, lx_3_0 g1, lx_113_0 g1, lx_113_1 g1, lx_113_2 g1, lx_212_0 g1, lx_212_1 g1, e2, e3, e4, pl_i, if_neg]
        rw [if_pos (fun y => z (Or.inr y))]
    · intro k x q1
      have g1 : pd_Ly (pd_up F 3 3 (F 3 2)) := hL.up (pl_rc4 sx_3 (by decide))
      have e2 : pd_up F 3 3 (F 3 2) 3 2 = F 3 2 := by rw [pu_r, if_neg (by decide)]
      have e3 : pd_up F 3 3 (F 3 2) 3 3 = F 3 2 := by rw [pu_r, if_pos rfl]
      have hE' : F 3 2 = E := by rw [← q1, En_e (by omega)]
      show pfX9_advance_b0 (pd_SH sT) 5000 (k + 1) (pd_up F 3 3 (F 3 2)) 3 = _
      rw [← hE']
      simp (disch := omega) only [pfX9_advance_b0, pl_l, pl_b, pl_iT, pl_t, pl_f, gx_1, gx_2, gx_3, gx_4, gx_113, gx_114, gx_115, gx_116, gx_212, gx_213, gx_224, gn_4, gn_114, gn_115, gn_116, gn_213, gn_224, lx_1_0 g1, lx_1_1 g1, lx_1_2 g1, lx_1_3 g1, lx_1_4 g1, lx_1_5 g1, lx_1_6 g1, lx_1_7 g1, lx_2_0 g1, lx_3_0 g1, lx_113_0 g1, lx_113_1 g1, lx_113_2 g1, lx_212_0 g1, lx_212_1 g1, e2, e3, if_pos]
  rw [e0] at go
  exact go
/-- what a token on leaves -/
def jC (F F' : pd_F) : Prop := (∀ a, a ≠ 3 → F' a = F a) ∧ ∀ j, (j < 3 ∨ 8 < j) → F' 3 j = F 3 j
theorem c_advance (hL : pd_Ly F) (hN : 0 ≤ F 3 2 ∧ F 3 2 ≤ 1000) (hi : 0 ≤ F 3 3 ∧ F 3 3 ≤ F 3 2) : ∃ F', pfX9_advance (pd_SH sT) 5000 F 3 = some F' ∧ pd_Ly F' ∧ jC F F' ∧ Tk w8 (F 4) (F 3 2) (F 3 3) (F' 3 4) (F' 3 5) (F' 3 3) (F' 3 7) (F' 3 8) ∧ (F' 3 5 < F 3 2 → F' 3 6 = F 4 (F' 3 5)) := by
  rw [c_skip (sT := sT) hL hN hi]
  have hb := En_bd (P := bkB (F 4)) hi.2
  unfold Tk
  generalize hp : En (bkB (F 4)) (F 3 2) (F 3 3) = p at hb ⊢
  have g1 : pd_Ly (pd_up F 3 3 p) := hL.up (pl_rc4 sx_3 (by decide))
  have g2 : pd_Ly (pd_up (pd_up F 3 3 p) 3 5 p) := g1.up (pl_rc4 sx_3 (by decide))
  have e3 : pd_up F 3 3 p 3 3 = p := by rw [pu_r, if_pos rfl]
  have e5 : pd_up (pd_up F 3 3 p) 3 5 p 3 5 = p := by rw [pu_r, if_pos rfl]
  have e2 : pd_up (pd_up F 3 3 p) 3 5 p 3 2 = F 3 2 := by rw [pu_r, if_neg (by decide), pu_r, if_neg (by decide)]
  have e4 : pd_up (pd_up F 3 3 p) 3 5 p 4 = F 4 := by rw [pu_a (by decide), pu_a (by decide)]
  unfold pfX9_advance_b52
  simp only [pl_l, pl_b, pl_iT, pl_t, pl_f, gx_1, gx_2, gx_3, gx_4, gx_113, gx_114, gx_115, gx_116, gx_212, gx_213, gx_224, gn_4, gn_114, gn_115, gn_116, gn_213, gn_224, lx_1_0 g2, lx_1_1 g2, lx_1_2 g2, lx_1_3 g2, lx_1_4 g2, lx_1_5 g2, lx_1_6 g2, lx_1_7 g2, lx_2_0 g2, lx_3_0 g2, lx_113_0 g2, lx_113_1 g2, lx_113_2 g2, lx_212_0 g2, lx_212_1 g2, e3, e5, e2, e4]
  by_cases k : p < F 3 2
  · rw [if_pos k, pl_i (by omega)]
    generalize hH : pd_up (pd_up (pd_up F 3 3 p) 3 5 p) 3 6 (F 4 p) = H
    have g3 : pd_Ly H := by rw [← hH]; exact g2.up (pl_rc4 sx_3 (by decide))
    have h6 : H 3 6 = F 4 p := by rw [← hH, pu_r, if_pos rfl]
    have h5 : H 3 5 = p := by rw [← hH, pu_r, if_neg (by decide), e5]
    have h3 : H 3 3 = p := by rw [← hH, pu_r, if_neg (by decide), pu_r, if_neg (by decide), e3]
    have h2 : H 3 2 = F 3 2 := by rw [← hH, pu_r, if_neg (by decide), e2]
    have h4 : H 4 = F 4 := by rw [← hH, pu_a (by decide), e4]
    have hjC : jC F H := ⟨fun a x => by rw [← hH, pu_a x, pu_a x, pu_a x], fun j x => by rw [← hH, pu_r, if_neg (by omega), pu_r, if_neg (by omega), pu_r, if_neg (by omega)]⟩
    simp only [h6]
    by_cases zw : 97 ≤ F 4 p ∧ F 4 p ≤ 122
    · rw [if_neg (by omega), if_neg (by omega)]
      obtain ⟨x, a1, a2⟩ := c_takeWord (sT := sT) g3 (by rw [h2]; exact hN) h5 h3 (by rw [h2]; omega)
      rw [h4, h2] at a1 a2
      generalize hEE : En (ltB (F 4)) (F 3 2) p = E at a1 a2
      rw [a1]
      have r4 : pd_up (pd_up (pd_up H 3 8 x) 3 3 E) 3 4 (if E - p ≤ 8 then 1 else 4) 3 4 = if E - p ≤ 8 then 1 else 4 := by rw [pu_r, if_pos rfl]
      have r5 : pd_up (pd_up (pd_up H 3 8 x) 3 3 E) 3 4 (if E - p ≤ 8 then 1 else 4) 3 5 = p := by rw [pu_r, if_neg (by decide), pu_r, if_neg (by decide), pu_r, if_neg (by decide), h5]
      have r3 : pd_up (pd_up (pd_up H 3 8 x) 3 3 E) 3 4 (if E - p ≤ 8 then 1 else 4) 3 3 = E := by rw [pu_r, if_neg (by decide), pu_r, if_pos rfl]
      have r8 : pd_up (pd_up (pd_up H 3 8 x) 3 3 E) 3 4 (if E - p ≤ 8 then 1 else 4) 3 8 = x := by rw [pu_r, if_neg (by decide), pu_r, if_neg (by decide), pu_r, if_pos rfl]
      have r6 : pd_up (pd_up (pd_up H 3 8 x) 3 3 E) 3 4 (if E - p ≤ 8 then 1 else 4) 3 6 = F 4 p := by rw [pu_r, if_neg (by decide), pu_r, if_neg (by decide), pu_r, if_neg (by decide), h6]
      refine ⟨_, rfl, ((g3.up (pl_rc4 sx_3 (by decide))).up (pl_rc4 sx_3 (by decide))).up (pl_rc4 sx_3 (by decide)), ⟨fun a y => by rw [pu_a y, pu_a y, pu_a y]; exact hjC.1 a y, fun j y => by rw [pu_r, if_neg (by omega), pu_r, if_neg (by omega), pu_r, if_neg (by omega)]; exact hjC.2 j y⟩, ?_, ?_⟩
      · rw [r4, r5, r3, r8]
        exact ⟨rfl, fun y => by omega, fun _ => ⟨fun _ => ⟨hEE.symm, rfl, a2⟩, fun y => by omega, fun y => by omega, fun y => absurd zw y⟩⟩
      · rw [r5, r6]; exact fun _ => rfl
    · have hrest : (if F 4 p < 97 then pfX9_advance_b115 (pd_SH sT) 5000 H 3 else if F 4 p > 122 then pfX9_advance_b115 (pd_SH sT) 5000 H 3 else Option.bind (pfX9_takeWord (pd_SH sT) 5000 H 3) fun F13 => some F13) = pfX9_advance_b115 (pd_SH sT) 5000 H 3 := by
        by_cases y : F 4 p < 97
        · rw [if_pos y]
        · rw [if_neg y, if_pos (by omega)]
      rw [hrest]
      unfold pfX9_advance_b115
      simp only [pl_l, pl_b, pl_iT, pl_t, pl_f, gx_1, gx_2, gx_3, gx_4, gx_113, gx_114, gx_115, gx_116, gx_212, gx_213, gx_224, gn_4, gn_114, gn_115, gn_116, gn_213, gn_224, h6]
      by_cases zd : 48 ≤ F 4 p ∧ F 4 p ≤ 57
      · rw [if_neg (by omega), if_neg (by omega)]
        obtain ⟨x, a1, a2⟩ := c_takeNumber (sT := sT) g3 (by rw [h2]; exact hN) h5 h3 (by rw [h2]; omega)
        rw [h4, h2] at a1 a2
        generalize hEE : En (dgB (F 4)) (F 3 2) p = E at a1 a2
        rw [a1]
        have r4 : pd_up (pd_up (pd_up H 3 7 x) 3 3 E) 3 4 (if E - p ≤ 7 then 2 else 4) 3 4 = if E - p ≤ 7 then 2 else 4 := by rw [pu_r, if_pos rfl]
        have r5 : pd_up (pd_up (pd_up H 3 7 x) 3 3 E) 3 4 (if E - p ≤ 7 then 2 else 4) 3 5 = p := by rw [pu_r, if_neg (by decide), pu_r, if_neg (by decide), pu_r, if_neg (by decide), h5]
        have r3 : pd_up (pd_up (pd_up H 3 7 x) 3 3 E) 3 4 (if E - p ≤ 7 then 2 else 4) 3 3 = E := by rw [pu_r, if_neg (by decide), pu_r, if_pos rfl]
        have r8 : pd_up (pd_up (pd_up H 3 7 x) 3 3 E) 3 4 (if E - p ≤ 7 then 2 else 4) 3 7 = x := by rw [pu_r, if_neg (by decide), pu_r, if_neg (by decide), pu_r, if_pos rfl]
        have r6 : pd_up (pd_up (pd_up H 3 7 x) 3 3 E) 3 4 (if E - p ≤ 7 then 2 else 4) 3 6 = F 4 p := by rw [pu_r, if_neg (by decide), pu_r, if_neg (by decide), pu_r, if_neg (by decide), h6]
        refine ⟨_, rfl, ((g3.up (pl_rc4 sx_3 (by decide))).up (pl_rc4 sx_3 (by decide))).up (pl_rc4 sx_3 (by decide)), ⟨fun a y => by rw [pu_a y, pu_a y, pu_a y]; exact hjC.1 a y, fun j y => by rw [pu_r, if_neg (by omega), pu_r, if_neg (by omega), pu_r, if_neg (by omega)]; exact hjC.2 j y⟩, ?_, ?_⟩
        · rw [r4, r5, r3, r8]
          exact ⟨rfl, fun y => by omega, fun _ => ⟨fun y => absurd y zw, fun _ => ⟨hEE.symm, rfl, a2⟩, fun y => by omega, fun _ y => absurd zd y⟩⟩
        · rw [r5, r6]; exact fun _ => rfl
      · have hrest2 : (if F 4 p < 48 then pfX9_advance_b140 (pd_SH sT) 5000 H 3 else if F 4 p > 57 then pfX9_advance_b140 (pd_SH sT) 5000 H 3 else Option.bind (pfX9_takeNumber (pd_SH sT) 5000 H 3) fun F8 => some F8) = pfX9_advance_b140 (pd_SH sT) 5000 H 3 := by
          by_cases y : F 4 p < 48
          · rw [if_pos y]
          · rw [if_neg y, if_pos (by omega)]
        rw [hrest2]
        unfold pfX9_advance_b140
        simp only [pl_l, pl_b, pl_iT, pl_t, pl_f, gx_1, gx_2, gx_3, gx_4, gx_113, gx_114, gx_115, gx_116, gx_212, gx_213, gx_224, gn_4, gn_114, gn_115, gn_116, gn_213, gn_224, h6]
        by_cases zs : F 4 p = 59
        · rw [if_neg (fun y => y zs), pu_r, if_neg (by decide), h3, pl_w (by omega)]
          have r4 : pd_up (pd_up H 3 4 3) 3 3 (p + 1) 3 4 = 3 := by rw [pu_r, if_neg (by decide), pu_r, if_pos rfl]
          have r5 : pd_up (pd_up H 3 4 3) 3 3 (p + 1) 3 5 = p := by rw [pu_r, if_neg (by decide), pu_r, if_neg (by decide), h5]
          have r3 : pd_up (pd_up H 3 4 3) 3 3 (p + 1) 3 3 = p + 1 := by rw [pu_r, if_pos rfl]
          have r6 : pd_up (pd_up H 3 4 3) 3 3 (p + 1) 3 6 = F 4 p := by rw [pu_r, if_neg (by decide), pu_r, if_neg (by decide), h6]
          refine ⟨_, rfl, (g3.up (pl_rc4 sx_3 (by decide))).up (pl_rc4 sx_3 (by decide)), ⟨fun a y => by rw [pu_a y, pu_a y]; exact hjC.1 a y, fun j y => by rw [pu_r, if_neg (by omega), pu_r, if_neg (by omega)]; exact hjC.2 j y⟩, ?_, ?_⟩
          · rw [r4, r5, r3]
            exact ⟨rfl, fun y => by omega, fun _ => ⟨fun y => absurd y zw, fun y => absurd y zd, fun _ => ⟨rfl, rfl⟩, fun _ _ y => absurd zs y⟩⟩
          · rw [r5, r6]; exact fun _ => rfl
        · rw [if_pos zs]
          have r4 : pd_up H 3 4 4 3 4 = 4 := by rw [pu_r, if_pos rfl]
          have r5 : pd_up H 3 4 4 3 5 = p := by rw [pu_r, if_neg (by decide), h5]
          have r6 : pd_up H 3 4 4 3 6 = F 4 p := by rw [pu_r, if_neg (by decide), h6]
          refine ⟨_, rfl, g3.up (pl_rc4 sx_3 (by decide)), ⟨fun a y => by rw [pu_a y]; exact hjC.1 a y, fun j y => by rw [pu_r, if_neg (by omega)]; exact hjC.2 j y⟩, ?_, ?_⟩
          · rw [r4, r5]
            exact ⟨rfl, fun y => by omega, fun _ => ⟨fun y => absurd y zw, fun y => absurd y zd, fun y => absurd y zs, fun _ _ _ => rfl⟩⟩
          · rw [r5, r6]; exact fun _ => rfl
  · rw [if_neg k]
    have r4 : pd_up (pd_up (pd_up F 3 3 p) 3 5 p) 3 4 0 3 4 = 0 := by rw [pu_r, if_pos rfl]
    have r5 : pd_up (pd_up (pd_up F 3 3 p) 3 5 p) 3 4 0 3 5 = p := by rw [pu_r, if_neg (by decide), e5]
    have r3 : pd_up (pd_up (pd_up F 3 3 p) 3 5 p) 3 4 0 3 3 = p := by rw [pu_r, if_neg (by decide), pu_r, if_neg (by decide), e3]
    refine ⟨_, rfl, g2.up (pl_rc4 sx_3 (by decide)), ⟨fun a y => by rw [pu_a y, pu_a y, pu_a y], fun j y => by rw [pu_r, if_neg (by omega), pu_r, if_neg (by omega), pu_r, if_neg (by omega)]⟩, ?_, ?_⟩
    · rw [r4, r5, r3]
      exact ⟨rfl, fun _ => ⟨rfl, rfl⟩, fun y => absurd y k⟩
    · rw [r5]; exact fun y => absurd y k
end TC

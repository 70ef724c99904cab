variable {sT : pd_S}
/-! the class: its state through acts; what ifs -/
section SA
variable {D : pd_F} {s : Int → Int} {F : pd_F} {b st : Int}
theorem Ou_row {s' : Int → Int} (hn : 0 ≤ s 110 ∧ s 110 ≤ 36) (e : ∀ j, 74 ≤ j → j ≤ 110 → s' j = s j) (m : Int) : Ou s' m ↔ Ou s m := by
  unfold Ou
  rw [e 110 (by decide) (by decide)]
  exact ⟨fun ⟨i, a, b, c⟩ => ⟨i, a, b, by rw [← e (74 + i) (by omega) (by omega)]; exact c⟩, fun ⟨i, a, b, c⟩ => ⟨i, a, b, by rw [e (74 + i) (by omega) (by omega)]; exact c⟩⟩
theorem sR_part (h : sR D F b st s) {s' : Int → Int} {F' : pd_F} (eb : F' b = F b ∧ F' (b + 8) = F (b + 8)) (bal : ∀ a, 0 ≤ a → a < D 371 0 → (0 ≤ s' a ∧ s' a ≤ 9999999) ∧ F' (st + 1) a = s' a)
    (set : (0 ≤ s' 71 ∧ s' 71 ≤ 999) ∧ (0 ≤ s' 72 ∧ s' 72 ≤ 9999999) ∧ (0 ≤ s' 73 ∧ s' 73 ≤ 9999999) ∧ F' (st + 2) 0 = s' 71 ∧ F' (st + 2) 1 = s' 72 ∧ F' (st + 2) 2 = s' 73)
    (jo : (0 ≤ s' 70 ∧ s' 70 ≤ 30) ∧ F' st 4 = s' 70 ∧ ∀ k, 0 ≤ k → k < s' 70 → ((0 ≤ s' (10 + 2 * k) ∧ s' (10 + 2 * k) < D 369 0) ∧ 0 ≤ s' (11 + 2 * k) ∧ s' (11 + 2 * k) < D 369 0) ∧ F' (st + 3) k = s' (10 + 2 * k) ∧ F' (st + 4) k = s' (11 + 2 * k))
    (mk : F' st 5 = F st 5 ∧ ∀ j, 74 ≤ j → j ≤ 110 → s' j = s j) : sR D F' b st s' := by
  obtain ⟨h1, h2, h3, h4, h5, h6, h7, h8, h9, h10, h11, h12⟩ := h
  have n110 := h1.2.2.1
  have e110 := mk.2 110 (by decide) (by decide)
  have ou := Ou_row n110 mk.2
  unfold sR
  rw [eb.1, eb.2, mk.1]
  refine ⟨⟨fun a x y => (bal a x y).1, jo.1, by rw [e110]; exact n110, set.2.1, set.2.2.1⟩, fun k x y => (jo.2.2 k x y).1, fun i j a c d e w => ?_, set.1, fun m w => h5 m ((ou m).mp w), fun a x y => (bal a x y).2, set.2.2.2, jo.2.1, fun k x y => (jo.2.2 k x y).2, h10, fun i x y => ?_, by rw [e110]; exact h12⟩
  · rw [e110] at c e
    rw [mk.2 (74 + i) (by omega) (by omega), mk.2 (74 + j) (by omega) (by omega)] at w
    exact h3 i j a c d e w
  · rw [ou]; exact h11 i x y
theorem sR_balance (h : sR D F b st s) {a v : Int} (ha : 0 ≤ a ∧ a < 10) (hv : 0 ≤ v ∧ v ≤ 9999999) {F' : pd_F} (hn : D 371 0 ≤ 10) (hb : b ≠ st + 1 ∧ b + 8 ≠ st + 1) (e1 : ∀ c, c ≠ st + 1 → F' c = F c) (e2 : F' (st + 1) = ru (F (st + 1)) a v) : sR D F' b st (ru s a v) := by
  obtain ⟨h1, h2, h3, h4, h5, h6, h7, h8, h9, h10, h11, h12⟩ := id h
  refine sR_part h ⟨e1 _ hb.1, e1 _ hb.2⟩ (fun c x y => ?_) ?_ ?_ ⟨by rw [e1 _ (by omega)], fun j x y => ru_n (by omega)⟩
  · rw [e2]
    by_cases z : c = a
    · rw [z, ru_e, ru_e]; exact ⟨hv, rfl⟩
    · rw [ru_n z, ru_n z]; exact ⟨h1.1 c x y, h6 c x y⟩
  · rw [ru_n (show (71 : Int) ≠ a by omega), ru_n (show (72 : Int) ≠ a by omega), ru_n (show (73 : Int) ≠ a by omega), e1 _ (by omega)]
    exact ⟨h4, h1.2.2.2.1, h1.2.2.2.2, h7⟩
  · rw [ru_n (show (70 : Int) ≠ a by omega), e1 _ (by omega), e1 _ (by omega), e1 _ (by omega)]
    exact ⟨h1.2.1, h8, fun k x y => by rw [ru_n (by omega), ru_n (by omega)]; exact ⟨h2 k x y, h9 k x y⟩⟩
theorem sR_tell (h : sR D F b st s) {w v : Int} (hw : 0 ≤ w ∧ w ≤ 2) (hv : 0 ≤ v ∧ v ≤ tMx w) {F' : pd_F} (hn : D 371 0 ≤ 10) (hb : b ≠ st + 2 ∧ b + 8 ≠ st + 2) (e1 : ∀ c, c ≠ st + 2 → F' c = F c) (e2 : F' (st + 2) = ru (F (st + 2)) w v) : sR D F' b st (ru s (71 + w) v) := by
  obtain ⟨h1, h2, h3, h4, h5, h6, h7, h8, h9, h10, h11, h12⟩ := id h
  have n70 := h1.2.1
  refine sR_part h ⟨e1 _ hb.1, e1 _ hb.2⟩ (fun c x y => ?_) ?_ ?_ ⟨by rw [e1 _ (by omega)], fun j x y => ru_n (by omega)⟩
  · rw [e1 _ (by omega), ru_n (by omega)]; exact ⟨h1.1 c x y, h6 c x y⟩
  · rw [e2]
    unfold tMx at hv
    have c : w = 0 ∨ w = 1 ∨ w = 2 := by omega
    rcases c with rfl | rfl | rfl
    · rw [if_pos rfl] at hv
      rw [show (71 : Int) + 0 = 71 from rfl, ru_e, ru_n (by decide), ru_n (by decide), ru_e, ru_n (by decide), ru_n (by decide)]
      exact ⟨hv, h1.2.2.2.1, h1.2.2.2.2, rfl, h7.2⟩
    · rw [if_neg (by decide)] at hv
      rw [show (71 : Int) + 1 = 72 from rfl, ru_e, ru_n (by decide), ru_n (by decide), ru_e, ru_n (by decide), ru_n (by decide)]
      exact ⟨h4, hv, h1.2.2.2.2, h7.1, rfl, h7.2.2⟩
    · rw [if_neg (by decide)] at hv
      rw [show (71 : Int) + 2 = 73 from rfl, ru_e, ru_n (by decide), ru_n (by decide), ru_e, ru_n (by decide), ru_n (by decide)]
      exact ⟨h4, h1.2.2.2.1, hv, h7.1, h7.2.1, rfl⟩
  · rw [ru_n (show (70 : Int) ≠ 71 + w by omega), e1 _ (by omega), e1 _ (by omega), e1 _ (by omega)]
    exact ⟨n70, h8, fun k x y => by rw [ru_n (by omega), ru_n (by omega)]; exact ⟨h2 k x y, h9 k x y⟩⟩
theorem sR_joined (h : sR D F b st s) (h30 : s 70 < 30) {p o : Int} (hp : 0 ≤ p ∧ p < D 369 0) (ho : 0 ≤ o ∧ o < D 369 0) {F' : pd_F} (hn : D 371 0 ≤ 10) (hb : (b < st ∨ st + 4 < b) ∧ (b + 8 < st ∨ st + 4 < b + 8)) (e1 : ∀ a, a ≠ st → a ≠ st + 3 → a ≠ st + 4 → F' a = F a) (e2 : F' st = ru (F st) 4 (F st 4 + 1)) (e3 : F' (st + 3) = ru (F (st + 3)) (F st 4) p) (e4 : F' (st + 4) = ru (F (st + 4)) (F st 4) o) :
    sR D F' b st (ru (ru (ru s (10 + 2 * s 70) p) (11 + 2 * s 70) o) 70 (s 70 + 1)) := by
  obtain ⟨h1, h2, h3, h4, h5, h6, h7, h8, h9, h10, h11, h12⟩ := id h
  have n70 := h1.2.1
  have ea : ∀ j, (j < 10 ∨ 70 < j) → ru (ru (ru s (10 + 2 * s 70) p) (11 + 2 * s 70) o) 70 (s 70 + 1) j = s j := fun j hj => by rw [ru_n (by omega), ru_n (by omega), ru_n (by omega)]
  refine sR_part h ⟨e1 _ (by omega) (by omega) (by omega), e1 _ (by omega) (by omega) (by omega)⟩ (fun c x y => ?_) ?_ ?_ ⟨by rw [e2, ru_n (by decide)], fun j x y => ea j (by omega)⟩
  · rw [e1 _ (by omega) (by omega) (by omega), ea c (by omega)]; exact ⟨h1.1 c x y, h6 c x y⟩
  · rw [e1 _ (by omega) (by omega) (by omega), ea 71 (by omega), ea 72 (by omega), ea 73 (by omega)]; exact ⟨h4, h1.2.2.2.1, h1.2.2.2.2, h7⟩
  · rw [ru_e, e2, ru_e, e3, e4, h8]
    refine ⟨by omega, rfl, fun k x y => ?_⟩
    rw [ru_n (show 10 + 2 * k ≠ 70 by omega), ru_n (show 11 + 2 * k ≠ 70 by omega), ru_n (show 10 + 2 * k ≠ 11 + 2 * s 70 by omega)]
    by_cases z : k = s 70
    · rw [z, ru_e, ru_e, ru_e, ru_e]; exact ⟨⟨hp, ho⟩, rfl, rfl⟩
    · rw [ru_n (show 10 + 2 * k ≠ 10 + 2 * s 70 by omega), ru_n (show 11 + 2 * k ≠ 11 + 2 * s 70 by omega), ru_n (show 11 + 2 * k ≠ 10 + 2 * s 70 by omega), ru_n z, ru_n z]
      exact ⟨h2 k x (by omega), h9 k x (by omega)⟩
theorem sR_mark (hD : bOk D) (hk : kM D F b) (h : sR D F b st s) {s1 : Int → Int} {m out i : Int} (hm : mR s s1 m out) (hi : 0 ≤ i ∧ i < F b 14) (ei : F (b + 8) i = m) {F' : pd_F} (e1 : ∀ a, a ≠ st → F' a = F a) (hb : b ≠ st ∧ b + 8 ≠ st) (e2 : F' st = ru (F st) 5 (if out = 0 then pd_And (F st 5) (pd_Xor (pd_Shl 1 i) (-1)) else pd_Or (F st 5) (pd_Shl 1 i))) : sR D F' b st s1 := by
  obtain ⟨h1, h2, h3, h4, h5, h6, h7, h8, h9, h10, h11, h12⟩ := id h
  obtain ⟨k0, k1, k2, k3, -⟩ := hk
  have hS := h1.mR hD hm
  obtain ⟨m1, m2, m3, m4, m5⟩ := hm
  have n5 := hD.1.2.2.2.2.2.1
  have n70 := h1.2.1
  have hi36 : 0 ≤ i ∧ i < 36 := by omega
  -- the bits now
  have bits : lR (F' st 5) ∧ ∀ q, 0 ≤ q → (tb (F' st 5) q ↔ if out ≠ 0 then tb (F st 5) q ∨ q = i else tb (F st 5) q ∧ q ≠ i) := by
    rw [e2, ru_e]
    by_cases z : out = 0
    · rw [if_pos z]
      refine ⟨(tB_clr h10 hi36).1, fun q hq => ?_⟩
      rw [if_neg (show ¬ out ≠ 0 from fun w => w z)]; exact (tB_clr h10 hi36).2 q hq
    · rw [if_neg z]
      refine ⟨(tB_set h10 hi36).1, fun q hq => ?_⟩
      rw [if_pos (show out ≠ 0 from z)]; exact (tB_set h10 hi36).2 q hq
  have old := h11 i hi36.1 hi36.2
  have b11 : ∀ j, 0 ≤ j → j < 36 → (tb (F' st 5) j ↔ j < F b 14 ∧ Ou s1 (F (b + 8) j)) := fun j x y => by
    rw [bits.2 j x, m4]
    have hj := h11 j x y
    have inj : j < F b 14 → (F (b + 8) j = m ↔ j = i) := fun z => ⟨fun w => k1 j i x z hi.1 hi.2 (w.trans ei.symm), fun w => by rw [w]; exact ei⟩
    by_cases z : out ≠ 0
    · rw [if_pos z, if_pos z, hj]
      constructor
      · rintro (⟨u, v⟩ | u)
        · exact ⟨u, Or.inl v⟩
        · rw [u]; exact ⟨hi.2, Or.inr ei⟩
      · rintro ⟨u, v | v⟩
        · exact Or.inl ⟨u, v⟩
        · exact Or.inr ((inj u).mp v)
    · rw [if_neg z, if_neg z, hj]
      constructor
      · rintro ⟨⟨u, v⟩, w⟩
        exact ⟨u, v, fun q => w ((inj u).mp q)⟩
      · rintro ⟨u, v, w⟩
        exact ⟨⟨u, v⟩, fun q => w ((inj u).mpr q)⟩
  unfold sR
  rw [e1 b hb.1, e1 (b + 8) hb.2, e1 (st + 1) (by omega), e1 (st + 2) (by omega), e1 (st + 3) (by omega), e1 (st + 4) (by omega), show F' st 4 = F st 4 by rw [e2, ru_n (by decide)]]
  refine ⟨hS, fun k x y => ?_, m3, by rw [m1 71 (by omega)]; exact h4, fun x w => ?_, fun a x y => by rw [m1 a (by omega)]; exact h6 a x y, by rw [m1 71 (by omega), m1 72 (by omega), m1 73 (by omega)]; exact h7, by rw [m1 70 (by omega)]; exact h8, fun k x y => ?_, bits.1, b11, ?_⟩
  · rw [m1 70 (by omega)] at y
    rw [m1 (10 + 2 * k) (by omega), m1 (11 + 2 * k) (by omega)]; exact h2 k x y
  · have w2 := (m4 x).mp w
    by_cases z : x = m
    · exact ⟨i, hi.1, hi.2, ei.trans z.symm⟩
    · split at w2
      · exact h5 x (w2.resolve_right z)
      · exact h5 x w2.1
  · rw [m1 70 (by omega)] at y
    rw [m1 (10 + 2 * k) (by omega), m1 (11 + 2 * k) (by omega)]; exact h9 k x y
  · have eu := Sm_up (f := fun j => ci (tb (F st 5) j) 1 0) (n := 36) (j := i) (v := ci (tb (F' st 5) i) 1 0 - ci (tb (F st 5) i) 1 0) hi36.1 hi36.2
    have ec : Sm (fun j => ci (tb (F' st 5) j) 1 0) 36 = Sm (fun j => if j = i then ci (tb (F st 5) j) 1 0 + (ci (tb (F' st 5) i) 1 0 - ci (tb (F st 5) i) 1 0) else ci (tb (F st 5) j) (1 : Int) 0) 36 := Sm_congr fun j x y => by
      by_cases z : j = i
      · rw [if_pos z, z]; omega
      · rw [if_neg z]
        refine ci_c ?_
        rw [bits.2 j x]
        by_cases w : out ≠ 0
        · rw [if_pos w]; exact ⟨fun q => q.resolve_right z, Or.inl⟩
        · rw [if_neg w]; exact ⟨fun q => q.1, fun q => ⟨q, z⟩⟩
    have o1 : ci (tb (F' st 5) i) (1 : Int) 0 = ci (Ou s1 m) 1 0 := ci_c (by rw [b11 i hi36.1 hi36.2, ei]; exact ⟨fun q => q.2, fun q => ⟨hi.2, q⟩⟩)
    have o2 : ci (tb (F st 5) i) (1 : Int) 0 = ci (Ou s m) 1 0 := ci_c (by rw [old, ei]; exact ⟨fun q => q.2, fun q => ⟨hi.2, q⟩⟩)
    rw [ec, eu, o1, o2, ← h12, m5]
    omega
theorem p_indexOfMark (h : cS D s F) {m : Int} : ∃ r, pfX0_indexOfMark (pd_SH sT) 5000 F (F 1 8) m = some (r, F) ∧ ((isMk D m ∧ 0 ≤ r ∧ r < F (F 1 8) 14 ∧ F (F 1 8 + 8) r = m) ∨ (¬ isMk D m ∧ r = -1)) := by
  obtain ⟨k0, k1, k2, k3, -⟩ := h.2.2.2.1.2.2.2.2.2.2.2.2.2.2
  have hb := h.2.1
  have sb8 := (sh_b (sT := sT) hb).2.2.2.2.2.2.2.2.1
  have l7 := (ly_b h.1 hb).2.2.2.2.2.2.2.1
  unfold pfX0_indexOfMark
  rcases pl_find (f := fun j i => pfX0_indexOfMark_b2 (pd_SH sT) 5000 j F (F 1 8) m i) (Q := fun i => F (F 1 8 + 8) i = m) (hit := fun i => some (i, F)) (miss := some (-1, F)) (N := F (F 1 8) 14) k0.1 (fun j i a b c => by
      show pfX0_indexOfMark_b2 (pd_SH sT) 5000 (j + 1) F (F 1 8) m i = _
      simp (disch := omega) only [pfX0_indexOfMark_b2, pl_l, pl_b, pl_iT, pl_t, pl_f, h.ob, l7, pl_ib sb8, c, pl_i, if_neg]) (fun j i a b c => by
      show pfX0_indexOfMark_b2 (pd_SH sT) 5000 (j + 1) F (F 1 8) m i = _
      simp (disch := omega) only [pfX0_indexOfMark_b2, pl_l, pl_b, pl_iT, pl_t, pl_f, h.ob, l7, pl_ib sb8, pl_w, pl_i, if_pos, if_neg]) (fun j => by
      show pfX0_indexOfMark_b2 (pd_SH sT) 5000 (j + 1) F (F 1 8) m _ = _
      simp (disch := omega) only [pfX0_indexOfMark_b2, pl_l, pl_b, pl_iT, pl_t, pl_f, h.ob, if_pos]) 5000 (by omega) with ⟨i, a, b, c, e, f⟩ | ⟨e, f⟩
  · exact ⟨i, f, Or.inl ⟨by rw [← c]; exact k2 i a b, a, b, c⟩⟩
  · exact ⟨-1, f, Or.inr ⟨fun w => by obtain ⟨i, x, y, z⟩ := k3 m w; exact e i x y z, rfl⟩⟩
end SA

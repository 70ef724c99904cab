/-! the class: its state through acts; what ifs -/
section SA
variable {D : pd_F} {s : Int → Int} {F : pd_F} {b st : Int}
theorem Ou_row {s' : Int → Int} (hn : 0 ≤ s 110 ∧ s 110 ≤ 36) (e : ∀ j, 74 ≤ j → j ≤ 110 → s' j = s j) (m : Int) : Ou s' m ↔ Ou s m := by
  unfold Ou
  rw [e 110 (by decide) (by decide)]
  exact ⟨fun ⟨i, a, b, c⟩ => ⟨i, a, b, by rw [← e (74 + i) (by omega) (by omega)]; exact c⟩, fun ⟨i, a, b, c⟩ => ⟨i, a, b, by rw [e (74 + i) (by omega) (by omega)]; exact c⟩⟩
theorem sR_part (h : sR D F b st s) {s' : Int → Int} {F' : pd_F} (eb : F' b = F b ∧ F' (b + 8) = F (b + 8)) (bal : ∀ a, 0 ≤ a → a < D 371 0 → (0 ≤ s' a ∧ s' a ≤ 9999999) ∧ F' (st + 1) a = s' a)
    (set : (0 ≤ s' 71 ∧ s' 71 ≤ 999) ∧ (0 ≤ s' 72 ∧ s' 72 ≤ 9999999) ∧ (0 ≤ s' 73 ∧ s' 73 ≤ 9999999) ∧ F' (st + 2) 0 = s' 71 ∧ F' (st + 2) 1 = s' 72 ∧ F' (st + 2) 2 = s' 73)
    (jo : (0 ≤ s' 70 ∧ s' 70 ≤ 30) ∧ F' st 4 = s' 70 ∧ ∀ k, 0 ≤ k → k < s' 70 → ((0 ≤ s' (10 + 2 * k) ∧ s' (10 + 2 * k) < D 369 0) ∧ 0 ≤ s' (11 + 2 * k) ∧ s' (11 + 2 * k) < D 369 0) ∧ F' (st + 3) k = s' (10 + 2 * k) ∧ F' (st + 4) k = s' (11 + 2 * k))
    (mk : F' st 5 = F st 5 ∧ ∀ j, 74 ≤ j → j ≤ 110 → s' j = s j) : sR D F' b st s' := by
  obtain ⟨h1, h2, h3, h4, h5, h6, h7, h8, h9, h10, h11, h12⟩ := h
  have n110 := h1.2.2.1
  have e110 := mk.2 110 (by decide) (by decide)
  have ou := Ou_row n110 mk.2
  unfold sR
  rw [eb.1, eb.2, mk.1]
  refine ⟨⟨fun a x y => (bal a x y).1, jo.1, by rw [e110]; exact n110, set.2.1, set.2.2.1⟩, fun k x y => (jo.2.2 k x y).1, fun i j a c d e w => ?_, set.1, fun m w => h5 m ((ou m).mp w), fun a x y => (bal a x y).2, set.2.2.2, jo.2.1, fun k x y => (jo.2.2 k x y).2, h10, fun i x y => ?_, by rw [e110]; exact h12⟩
  · rw [e110] at c e
    rw [mk.2 (74 + i) (by omega) (by omega), mk.2 (74 + j) (by omega) (by omega)] at w
    exact h3 i j a c d e w
  · rw [ou]; exact h11 i x y
theorem sR_balance (h : sR D F b st s) {a v : Int} (ha : 0 ≤ a ∧ a < 10) (hv : 0 ≤ v ∧ v ≤ 9999999) {F' : pd_F} (hn : D 371 0 ≤ 10) (hb : b ≠ st + 1 ∧ b + 8 ≠ st + 1) (e1 : ∀ c, c ≠ st + 1 → F' c = F c) (e2 : F' (st + 1) = ru (F (st + 1)) a v) : sR D F' b st (ru s a v) := by
  obtain ⟨h1, h2, h3, h4, h5, h6, h7, h8, h9, h10, h11, h12⟩ := id h
  refine sR_part h ⟨e1 _ hb.1, e1 _ hb.2⟩ (fun c x y => ?_) ?_ ?_ ⟨by rw [e1 _ (by omega)], fun j x y => ru_n (by omega)⟩
  · rw [e2]
    by_cases z : c = a
    · rw [z, ru_e, ru_e]; exact ⟨hv, rfl⟩
    · rw [ru_n z, ru_n z]; exact ⟨h1.1 c x y, h6 c x y⟩
  · rw [ru_n (show (71 : Int) ≠ a by omega), ru_n (show (72 : Int) ≠ a by omega), ru_n (show (73 : Int) ≠ a by omega), e1 _ (by omega)]
    exact ⟨h4, h1.2.2.2.1, h1.2.2.2.2, h7⟩
  · rw [ru_n (show (70 : Int) ≠ a by omega), e1 _ (by omega), e1 _ (by omega), e1 _ (by omega)]
    exact ⟨h1.2.1, h8, fun k x y => by rw [ru_n (by omega), ru_n (by omega)]; exact ⟨h2 k x y, h9 k x y⟩⟩
theorem sR_tell (h : sR D F b st s) {w v : Int} (hw : 0 ≤ w ∧ w ≤ 2) (hv : 0 ≤ v ∧ v ≤ tMx w) {F' : pd_F} (hn : D 371 0 ≤ 10) (hb : b ≠ st + 2 ∧ b + 8 ≠ st + 2) (e1 : ∀ c, c ≠ st + 2 → F' c = F c) (e2 : F' (st + 2) = ru (F (st + 2)) w v) : sR D F' b st (ru s (71 + w) v) := by
  obtain ⟨h1, h2, h3, h4, h5, h6, h7, h8, h9, h10, h11, h12⟩ := id h
  have n70 := h1.2.1
  refine sR_part h ⟨e1 _ hb.1, e1 _ hb.2⟩ (fun c x y => ?_) ?_ ?_ ⟨by rw [e1 _ (by omega)], fun j x y => ru_n (by omega)⟩
  · rw [e1 _ (by omega), ru_n (by omega)]; exact ⟨h1.1 c x y, h6 c x y⟩
  · rw [e2]
    unfold tMx at hv
    have c : w = 0 ∨ w = 1 ∨ w = 2 := by omega
    rcases c with rfl | rfl | rfl
    · rw [if_pos rfl] at hv
      rw [show (71 : Int) + 0 = 71 from rfl, ru_e, ru_n (by decide), ru_n (by decide), ru_e, ru_n (by decide), ru_n (by decide)]
      exact ⟨hv, h1.2.2.2.1, h1.2.2.2.2, rfl, h7.2⟩
    · rw [if_neg (by decide)] at hv
      rw [show (71 : Int) + 1 = 72 from rfl, ru_e, ru_n (by decide), ru_n (by decide), ru_e, ru_n (by decide), ru_n (by decide)]
      exact ⟨h4, hv, h1.2.2.2.2, h7.1, rfl, h7.2.2⟩
    · rw [if_neg (by decide)] at hv
      rw [show (71 : Int) + 2 = 73 from rfl, ru_e, ru_n (by decide), ru_n (by decide), ru_e, ru_n (by decide), ru_n (by decide)]
      exact ⟨h4, h1.2.2.2.1, hv, h7.1, h7.2.1, rfl⟩
  · rw [ru_n (show (70 : Int) ≠ 71 + w by omega), e1 _ (by omega), e1 _ (by omega), e1 _ (by omega)]
    exact ⟨n70, h8, fun k x y => by rw [ru_n (by omega), ru_n (by omega)]; exact ⟨h2 k x y, h9 k x y⟩⟩
theorem sR_joined (h : sR D F b st s) (h30 : s 70 < 30) {p o : Int} (hp : 0 ≤ p ∧ p < D 369 0) (ho : 0 ≤ o ∧ o < D 369 0) {F' : pd_F} (hn : D 371 0 ≤ 10) (hb : (b < st ∨ st + 4 < b) ∧ (b + 8 < st ∨ st + 4 < b + 8)) (e1 : ∀ a, a ≠ st → a ≠ st + 3 → a ≠ st + 4 → F' a = F a) (e2 : F' st = ru (F st) 4 (F st 4 + 1)) (e3 : F' (st + 3) = ru (F (st + 3)) (F st 4) p) (e4 : F' (st + 4) = ru (F (st + 4)) (F st 4) o) :
    sR D F' b st (ru (ru (ru s (10 + 2 * s 70) p) (11 + 2 * s 70) o) 70 (s 70 + 1)) := by
  obtain ⟨h1, h2, h3, h4, h5, h6, h7, h8, h9, h10, h11, h12⟩ := id h
  have n70 := h1.2.1
  have ea : ∀ j, (j < 10 ∨ 70 < j) → ru (ru (ru s (10 + 2 * s 70) p) (11 + 2 * s 70) o) 70 (s 70 + 1) j = s j := fun j hj => by rw [ru_n (by omega), ru_n (by omega), ru_n (by omega)]
  refine sR_part h ⟨e1 _ (by omega) (by omega) (by omega), e1 _ (by omega) (by omega) (by omega)⟩ (fun c x y => ?_) ?_ ?_ ⟨by rw [e2, ru_n (by decide)], fun j x y => ea j (by omega)⟩
  · rw [e1 _ (by omega) (by omega) (by omega), ea c (by omega)]; exact ⟨h1.1 c x y, h6 c x y⟩
  · rw [e1 _ (by omega) (by omega) (by omega), ea 71 (by omega), ea 72 (by omega), ea 73 (by omega)]; exact ⟨h4, h1.2.2.2.1, h1.2.2.2.2, h7⟩
  · rw [ru_e, e2, ru_e, e3, e4, h8]
    refine ⟨by omega, rfl, fun k x y => ?_⟩
    rw [ru_n (show 10 + 2 * k ≠ 70 by omega), ru_n (show 11 + 2 * k ≠ 70 by omega), ru_n (show 10 + 2 * k ≠ 11 + 2 * s 70 by omega)]
    by_cases z : k = s 70
    · rw [z, ru_e, ru_e, ru_e, ru_e]; exact ⟨⟨hp, ho⟩, rfl, rfl⟩
    · rw [ru_n (show 10 + 2 * k ≠ 10 + 2 * s 70 by omega), ru_n (show 11 + 2 * k ≠ 11 + 2 * s 70 by omega), ru_n (show 11 + 2 * k ≠ 10 + 2 * s 70 by omega), ru_n z, ru_n z]
      exact ⟨h2 k x (by omega), h9 k x (by omega)⟩
theorem sR_split (h : sR D F b st s) {k : Int} (hk : 0 ≤ k ∧ k < s 70) {s' : Int → Int} (hs : spR s s' k) {F' : pd_F} (hn : D 371 0 ≤ 10) (hb : (b < st ∨ st + 4 < b) ∧ (b + 8 < st ∨ st + 4 < b + 8)) (e1 : ∀ a, a ≠ st → a ≠ st + 3 → a ≠ st + 4 → F' a = F a) (e2 : F' st = ru (F st) 4 (F st 4 - 1)) (e3 : ∀ j, 0 ≤ j → j < F st 4 - 1 → F' (st + 3) j = F (st + 3) (if j < k then j else j + 1)) (e4 : ∀ j, 0 ≤ j → j < F st 4 - 1 → F' (st + 4) j = F (st + 4) (if j < k then j else j + 1)) : sR D F' b st s' := by
  obtain ⟨h1, h2, h3, h4, h5, h6, h7, h8, h9, h10, h11, h12⟩ := id h
  obtain ⟨p1, p2, p3⟩ := hs
  have n70 := h1.2.1
  refine sR_part h ⟨e1 _ (by omega) (by omega) (by omega), e1 _ (by omega) (by omega) (by omega)⟩ (fun c x y => ?_) ?_ ?_ ⟨by rw [e2, ru_n (by decide)], fun j x y => p1 j (by omega)⟩
  · rw [e1 _ (by omega) (by omega) (by omega), p1 c (by omega)]; exact ⟨h1.1 c x y, h6 c x y⟩
  · rw [e1 _ (by omega) (by omega) (by omega), p1 71 (by omega), p1 72 (by omega), p1 73 (by omega)]; exact ⟨h4, h1.2.2.2.1, h1.2.2.2.2, h7⟩
  · rw [p2, e2, ru_e, h8]
    refine ⟨by omega, rfl, fun j x y => ?_⟩
    rw [e3 j x (by omega), e4 j x (by omega)]
    have q1 := p3 (2 * j) (by omega) (by omega)
    have q2 := p3 (2 * j + 1) (by omega) (by omega)
    rw [show 11 + 2 * j = 10 + (2 * j + 1) by omega, q1, q2]
    by_cases z : j < k
    · rw [if_pos z, if_pos (by omega), if_pos (by omega), show 10 + (2 * j + 1) = 11 + 2 * j by omega]
      exact ⟨h2 j x (by omega), h9 j x (by omega)⟩
    · rw [if_neg z, if_neg (by omega), if_neg (by omega), show 12 + 2 * j = 10 + 2 * (j + 1) by omega, show 12 + (2 * j + 1) = 11 + 2 * (j + 1) by omega]
      exact ⟨h2 (j + 1) (by omega) (by omega), h9 (j + 1) (by omega) (by omega)⟩
theorem sR_mark (hD : bOk D) (hk : kM D F b) (h : sR D F b st s) {s1 : Int → Int} {m out i : Int} (hm : mR s s1 m out) (hi : 0 ≤ i ∧ i < F b 14) (ei : F (b + 8) i = m) {F' : pd_F} (e1 : ∀ a, a ≠ st → F' a = F a) (hb : b ≠ st ∧ b + 8 ≠ st) (e2 : F' st = ru (F st) 5 (if out = 0 then pd_And (F st 5) (pd_Xor (pd_Shl 1 i) (-1)) else pd_Or (F st 5) (pd_Shl 1 i))) : sR D F' b st s1 := by
  obtain ⟨h1, h2, h3, h4, h5, h6, h7, h8, h9, h10, h11, h12⟩ := id h
  obtain ⟨k0, k1, k2, k3, -⟩ := hk
  have hS := h1.mR hD hm
  obtain ⟨m1, m2, m3, m4, m5⟩ := hm
  have n5 := hD.1.2.2.2.2.2.1
  have n70 := h1.2.1
  have hi36 : 0 ≤ i ∧ i < 36 := by omega
  -- the bits now
  have bits : lR (F' st 5) ∧ ∀ q, 0 ≤ q → (tb (F' st 5) q ↔ if out ≠ 0 then tb (F st 5) q ∨ q = i else tb (F st 5) q ∧ q ≠ i) := by
    rw [e2, ru_e]
    by_cases z : out = 0
    · rw [if_pos z]
      refine ⟨(tB_clr h10 hi36).1, fun q hq => ?_⟩
      rw [if_neg (show ¬ out ≠ 0 from fun w => w z)]; exact (tB_clr h10 hi36).2 q hq
    · rw [if_neg z]
      refine ⟨(tB_set h10 hi36).1, fun q hq => ?_⟩
      rw [if_pos (show out ≠ 0 from z)]; exact (tB_set h10 hi36).2 q hq
  have old := h11 i hi36.1 hi36.2
  have b11 : ∀ j, 0 ≤ j → j < 36 → (tb (F' st 5) j ↔ j < F b 14 ∧ Ou s1 (F (b + 8) j)) := fun j x y => by
    rw [bits.2 j x, m4]
    have hj := h11 j x y
    have inj : j < F b 14 → (F (b + 8) j = m ↔ j = i) := fun z => ⟨fun w => k1 j i x z hi.1 hi.2 (w.trans ei.symm), fun w => by rw [w]; exact ei⟩
    by_cases z : out ≠ 0
    · rw [if_pos z, if_pos z, hj]
      constructor
      · rintro (⟨u, v⟩ | u)
        · exact ⟨u, Or.inl v⟩
        · rw [u]; exact ⟨hi.2, Or.inr ei⟩
      · rintro ⟨u, v | v⟩
        · exact Or.inl ⟨u, v⟩
        · exact Or.inr ((inj u).mp v)
    · rw [if_neg z, if_neg z, hj]
      constructor
      · rintro ⟨⟨u, v⟩, w⟩
        exact ⟨u, v, fun q => w ((inj u).mp q)⟩
      · rintro ⟨u, v, w⟩
        exact ⟨⟨u, v⟩, fun q => w ((inj u).mpr q)⟩
  unfold sR
  rw [e1 b hb.1, e1 (b + 8) hb.2, e1 (st + 1) (by omega), e1 (st + 2) (by omega), e1 (st + 3) (by omega), e1 (st + 4) (by omega), show F' st 4 = F st 4 by rw [e2, ru_n (by decide)]]
  refine ⟨hS, fun k x y => ?_, m3, by rw [m1 71 (by omega)]; exact h4, fun x w => ?_, fun a x y => by rw [m1 a (by omega)]; exact h6 a x y, by rw [m1 71 (by omega), m1 72 (by omega), m1 73 (by omega)]; exact h7, by rw [m1 70 (by omega)]; exact h8, fun k x y => ?_, bits.1, b11, ?_⟩
  · rw [m1 70 (by omega)] at y
    rw [m1 (10 + 2 * k) (by omega), m1 (11 + 2 * k) (by omega)]; exact h2 k x y
  · have w2 := (m4 x).mp w
    by_cases z : x = m
    · exact ⟨i, hi.1, hi.2, ei.trans z.symm⟩
    · split at w2
      · exact h5 x (w2.resolve_right z)
      · exact h5 x w2.1
  · rw [m1 70 (by omega)] at y
    rw [m1 (10 + 2 * k) (by omega), m1 (11 + 2 * k) (by omega)]; exact h9 k x y
  · have eu := Sm_up (f := fun j => ci (tb (F st 5) j) 1 0) (n := 36) (j := i) (v := ci (tb (F' st 5) i) 1 0 - ci (tb (F st 5) i) 1 0) hi36.1 hi36.2
    have ec : Sm (fun j => ci (tb (F' st 5) j) 1 0) 36 = Sm (fun j => if j = i then ci (tb (F st 5) j) 1 0 + (ci (tb (F' st 5) i) 1 0 - ci (tb (F st 5) i) 1 0) else ci (tb (F st 5) j) (1 : Int) 0) 36 := Sm_congr fun j x y => by
      by_cases z : j = i
      · rw [if_pos z, z]; omega
      · rw [if_neg z]
        refine ci_c ?_
        rw [bits.2 j x]
        by_cases w : out ≠ 0
        · rw [if_pos w]; exact ⟨fun q => q.resolve_right z, Or.inl⟩
        · rw [if_neg w]; exact ⟨fun q => q.1, fun q => ⟨q, z⟩⟩
    have o1 : ci (tb (F' st 5) i) (1 : Int) 0 = ci (Ou s1 m) 1 0 := ci_c (by rw [b11 i hi36.1 hi36.2, ei]; exact ⟨fun q => q.2, fun q => ⟨hi.2, q⟩⟩)
    have o2 : ci (tb (F st 5) i) (1 : Int) 0 = ci (Ou s m) 1 0 := ci_c (by rw [old, ei]; exact ⟨fun q => q.2, fun q => ⟨hi.2, q⟩⟩)
    rw [ec, eu, o1, o2, ← h12, m5]
    omega
theorem p_indexOfMark (h : cS D s F) {m : Int} : ∃ r, pfX0_indexOfMark pd_SH 5000 F (F 1 8) m = some (r, F) ∧ ((isMk D m ∧ 0 ≤ r ∧ r < F (F 1 8) 14 ∧ F (F 1 8 + 8) r = m) ∨ (¬ isMk D m ∧ r = -1)) := by
  obtain ⟨k0, k1, k2, k3, -⟩ := h.2.2.2.1.2.2.2.2.2.2.2.2.2.2
  have hb := h.2.1
  have sb8 := (sh_b hb).2.2.2.2.2.2.2.2.1
  have l7 := (ly_b h.1 hb).2.2.2.2.2.2.2.1
  unfold pfX0_indexOfMark
  rcases pl_find (f := fun j i => pfX0_indexOfMark_b2 pd_SH 5000 j F (F 1 8) m i) (Q := fun i => F (F 1 8 + 8) i = m) (hit := fun i => some (i, F)) (miss := some (-1, F)) (N := F (F 1 8) 14) k0.1 (fun j i a b c => by
      show pfX0_indexOfMark_b2 pd_SH 5000 (j + 1) F (F 1 8) m i = _
      simp (disch := omega) only [pfX0_indexOfMark_b2, pl_l, pl_b, pl_iT, pl_t, pl_f, h.ob, l7, pl_ib sb8, c, pl_i, if_neg]) (fun j i a b c => by
      show pfX0_indexOfMark_b2 pd_SH 5000 (j + 1) F (F 1 8) m i = _
      simp (disch := omega) only [pfX0_indexOfMark_b2, pl_l, pl_b, pl_iT, pl_t, pl_f, h.ob, l7, pl_ib sb8, pl_w, pl_i, if_pos, if_neg]) (fun j => by
      show pfX0_indexOfMark_b2 pd_SH 5000 (j + 1) F (F 1 8) m _ = _
      simp (disch := omega) only [pfX0_indexOfMark_b2, pl_l, pl_b, pl_iT, pl_t, pl_f, h.ob, if_pos]) 5000 (by omega) with ⟨i, a, b, c, e, f⟩ | ⟨e, f⟩
  · exact ⟨i, f, Or.inl ⟨by rw [← c]; exact k2 i a b, a, b, c⟩⟩
  · exact ⟨-1, f, Or.inr ⟨fun w => by obtain ⟨i, x, y, z⟩ := k3 m w; exact e i x y z, rfl⟩⟩
theorem p_markless (h : cS D s F) {m : Int} : (¬ isMk D m ∧ pfX11_markless pd_SH 5000 F 1 m = some (none, F)) ∨
    (isMk D m ∧ ∀ s1, mR s s1 m (1 - ci (Ou s m) 1 0) → ∃ F', pfX11_markless pd_SH 5000 F 1 m = some (some (cPU D s1 (s 72) - cPU D s (s 72)), F') ∧ cS D s F' ∧ yF F F') := by
  obtain ⟨r, f1, f2⟩ := p_indexOfMark h (m := m)
  rcases f2 with ⟨q1, q2, q3, q4⟩ | ⟨q1, q2⟩
  · refine Or.inr ⟨q1, fun s1 hm => ?_⟩
    obtain ⟨F1, g1, g2, g3, g4, g5⟩ := c_toTrial h
    have hb := aB_out h.2.1
    have k0 := h.2.2.2.1.2.2.2.2.2.2.2.2.2.2.1
    have e8 : F1 1 8 = F 1 8 := by rw [g3 1 (by omega)]
    have eb : F1 (F 1 8) = F (F 1 8) := g3 _ (by omega)
    have eb8 : F1 (F 1 8 + 8) = F (F 1 8 + 8) := g3 _ (by omega)
    have z0 := g2.2.2.2.2.1
    have lo := c_isLeftOut g2.1 aS_now (i := r) (by omega) z0.2.2.2.2.2.2.2.2.2.1
    have eo : ci (tb (F1 231 5) r) (1 : Int) 0 = ci (Ou s m) 1 0 := ci_c (by
      rw [z0.2.2.2.2.2.2.2.2.2.2.1 r (by omega) (by omega), e8, eb, eb8, q4]
      exact ⟨fun w => w.2, fun w => ⟨q3, w⟩⟩)
    rw [eo] at lo
    have h8 := hm.1
    -- with the mark the other way
    have tail : ∀ out : Int, out = 1 - ci (Ou s m) 1 0 → ∃ F', pfX11_markless_b57 pd_SH 5000 F1 1 out r 245 = some (some (cPU D s1 (s 72) - cPU D s (s 72)), F') ∧ cS D s F' ∧ yF F F' := by
      intro out ho
      obtain ⟨F2, u1, u2, u3, u4⟩ := c_leaveOut g2.1 (st := 245) (i := r) (out := out) (Or.inr (Or.inl rfl))
      have y2 : yF F1 F2 := fun a ha => u3 a (by omega)
      have c2 := g2.y u2 y2
      have e82 : F2 1 8 = F1 1 8 := by rw [u3 1 (by decide)]
      rw [← ho] at hm
      have sr : sR D F2 (F1 1 8) 245 s1 := sR_mark h.2.2.1 g2.2.2.2.1.2.2.2.2.2.2.2.2.2.2 g5 hm (i := r) (by rw [e8, eb]; omega) (by rw [e8, eb8]; exact q4) u3 (by omega) u4
      rw [← e82] at sr
      obtain ⟨F3, v1, v2, v3⟩ := c_gainOfTrial c2 sr.1 (fun j x y => h8 j (by omega)) sr.2.2.2.1.2 sr.2.2.2.2.2.2.1 (br_cOk c2.2.2.1 c2.2.2.2.1 sr) (br_cn c2.2.2.1 c2.2.2.2.1 sr)
      rw [h8 72 (by omega)] at v1
      refine ⟨F3, ?_, v2, (g3.tr y2).tr v3⟩
      unfold pfX11_markless_b57
      simp only [pl_l, pl_b, pl_iT, pl_t, pl_f, gx_1, gx_2, gx_3, gx_4, gx_113, gx_114, gx_115, gx_116, gx_212, gx_213, gx_224, gn_4, gn_114, gn_115, gn_116, gn_213, gn_224, ox_245, u1, v1]
    unfold pfX11_markless
    simp only [pl_l, pl_b, pl_iT, pl_t, pl_f, gx_1, gx_2, gx_3, gx_4, gx_113, gx_114, gx_115, gx_116, gx_212, gx_213, gx_224, gn_4, gn_114, gn_115, gn_116, gn_213, gn_224, h.ob, f1]
    rw [if_pos (by omega)]
    simp only [lx_1_0 h.1, lx_1_1 h.1, lx_1_2 h.1, lx_1_3 h.1, lx_1_4 h.1, lx_1_5 h.1, lx_1_6 h.1, lx_1_7 h.1, lx_2_0 h.1, lx_3_0 h.1, lx_113_0 h.1, lx_113_1 h.1, lx_113_2 h.1, lx_212_0 h.1, lx_212_1 h.1, ox_245, g1, pl_l, pl_b, pl_iT, pl_t, pl_f]
    simp only [lx_1_0 g2.1, lx_1_1 g2.1, lx_1_2 g2.1, lx_1_3 g2.1, lx_1_4 g2.1, lx_1_5 g2.1, lx_1_6 g2.1, lx_1_7 g2.1, lx_2_0 g2.1, lx_3_0 g2.1, lx_113_0 g2.1, lx_113_1 g2.1, lx_113_2 g2.1, lx_212_0 g2.1, lx_212_1 g2.1, ox_231, lo, pl_l, pl_b, pl_iT, pl_t, pl_f]
    rcases ci_o (Ou s m) (1 : Int) 0 with w | w
    · rw [w.2, if_pos (by decide)]
      exact tail 0 (by rw [w.2]; rfl)
    · rw [w.2, if_neg (by decide)]
      exact tail 1 (by rw [w.2]; rfl)
  · refine Or.inl ⟨q1, ?_⟩
    unfold pfX11_markless
    simp only [pl_l, pl_b, pl_iT, pl_t, pl_f, gx_1, gx_2, gx_3, gx_4, gx_113, gx_114, gx_115, gx_116, gx_212, gx_213, gx_224, gn_4, gn_114, gn_115, gn_116, gn_213, gn_224, h.ob, f1]
    rw [if_neg (by omega)]
theorem Ax_in {np : Int} {A : Int → Int → Prop} {p o : Int} (hn : np ≤ 12) (hA : ∀ x y, A x y → A y x) (hp : 0 ≤ p ∧ p < np) (ho : 0 ≤ o ∧ o < np) (h : Cn np A p o) {x y : Int} (hx : 0 ≤ x ∧ x < np) : Cn np A x y ↔ Cn np (Ax A p o) x y := by
  refine ⟨fun c => Cn_sub hn hx (fun u v a b c d w => Cn_step hn ⟨a, b⟩ Cn_rf ⟨c, d⟩ (Or.inl w)) c, fun c => Cn_sub hn hx (fun u v a b c d w => ?_) c⟩
  rcases w with w | ⟨w1, w2⟩ | ⟨w1, w2⟩
  · exact Cn_step hn ⟨a, b⟩ Cn_rf ⟨c, d⟩ w
  · rw [w1, w2]; exact h
  · rw [w1, w2]; exact Cn_sy hn hA hp h
theorem p_joining (h : cS D s F) {p o : Int} : (¬ ((0 ≤ p ∧ p < D 369 0) ∧ (0 ≤ o ∧ o < D 369 0) ∧ p ≠ o) ∧ pfX11_joining pd_SH 5000 F 1 p o = some (none, F)) ∨
    (((0 ≤ p ∧ p < D 369 0) ∧ (0 ≤ o ∧ o < D 369 0) ∧ p ≠ o) ∧ ∀ s', aOk D s' → (∀ j, (j < 10 ∨ 70 < j) → s' j = s j) → (∀ x y, 0 ≤ x → x < D 369 0 → 0 ≤ y → y < D 369 0 → (sC D s' x y ↔ Cn (D 369 0) (Ax (Bs (D 375) (D 376) s) p o) x y)) →
      ∃ F', pfX11_joining pd_SH 5000 F 1 p o = some (some (cPU D s' (s 72) - cPU D s (s 72)), F') ∧ cS D s F' ∧ yF F F') := by
  have hn := h.2.2.1.1.2.1
  rcases Classical.em (¬ ((0 ≤ p ∧ p < D 369 0) ∧ (0 ≤ o ∧ o < D 369 0) ∧ p ≠ o)) with k | k
  · refine Or.inl ⟨k, ?_⟩
    unfold pfX11_joining
    simp only [pl_l, pl_b, pl_iT, pl_t, pl_f, gx_1, gx_2, gx_3, gx_4, gx_113, gx_114, gx_115, gx_116, gx_212, gx_213, gx_224, gn_4, gn_114, gn_115, gn_116, gn_213, gn_224, p_areTwo h]
    rw [if_neg k, if_neg (by decide)]
  have k := Classical.not_not.mp k
  refine Or.inr ⟨k, fun s' hs' es hC => ?_⟩
  obtain ⟨F1, g1, g2, g3, g4, g5⟩ := c_toTrial h
  have n70 := h.2.2.2.2.1.1.2.1
  have e4 : F1 245 4 = s 70 := g5.2.2.2.2.2.2.2.1
  obtain ⟨F2, u1, u2, u3, u4, u5, u6⟩ := c_addJoin g2.1 (st := 245) (p := p) (o := o) (Or.inr (Or.inl rfl)) (by omega)
  rw [show (245 : Int) + 3 = 248 from rfl, show (245 : Int) + 4 = 249 from rfl] at u3
  rw [show (245 : Int) + 3 = 248 from rfl] at u5
  rw [show (245 : Int) + 4 = 249 from rfl] at u6
  have y2 : yF F1 F2 := fun a ha => u3 a (by omega) (by omega) (by omega)
  have c2 := g2.y u2 y2
  have hb := aB_out g2.2.1
  have e82 : F2 1 8 = F1 1 8 := by rw [u3 1 (by decide) (by decide) (by decide)]
  have eb : F2 (F1 1 8) = F1 (F1 1 8) := y2 _ (by omega)
  have eb9 : F2 (F1 1 8 + 9) = F1 (F1 1 8 + 9) := y2 _ (by omega)
  have ok1 := br_cOk g2.2.2.1 g2.2.2.2.1 g5
  have f4 : F2 245 4 = s 70 + 1 := by rw [u4, ru_e, e4]
  have f5 : F2 245 5 = F1 245 5 := by rw [u4, ru_n (by decide)]
  have jn : ∀ j, 0 ≤ j → j < s 70 → F2 248 j = F1 248 j ∧ F2 249 j = F1 249 j := fun j x y => by rw [u5, u6, ru_n (by omega), ru_n (by omega)]; exact ⟨rfl, rfl⟩
  have jl : F2 248 (s 70) = p ∧ F2 249 (s 70) = o := by rw [u5, u6, e4, ru_e, ru_e]; exact ⟨rfl, rfl⟩
  obtain ⟨o1, o2, o3, o4, o5, o6, o7⟩ := ok1
  have ok2 : cOk F2 (F2 1 8) 245 (D 369 0) := by
    unfold cOk
    rw [e82, eb, eb9, f4, f5]
    refine ⟨o1, o2, o3, o4, by omega, fun j x y => ?_, o7⟩
    rw [show (245 : Int) + 3 = 248 from rfl, show (245 : Int) + 4 = 249 from rfl]
    by_cases z : j = s 70
    · rw [z, jl.1, jl.2]; exact ⟨k.1, k.2.1⟩
    · rw [(jn j x (by omega)).1, (jn j x (by omega)).2]; exact o6 j x (by omega)
  have eA : ∀ x y, cA F2 (F2 1 8) 245 x y ↔ Ax (cA F1 (F1 1 8) 245) p o x y := fun x y => by
    unfold Ax cA
    rw [e82, eb, eb9, f4, f5, e4, show (245 : Int) + 3 = 248 from rfl, show (245 : Int) + 4 = 249 from rfl]
    constructor
    · rintro ⟨ne, w | ⟨j, a, c, w⟩⟩
      · exact Or.inl ⟨ne, Or.inl w⟩
      · by_cases z : j = s 70
        · rw [z, jl.1, jl.2] at w
          rcases w with w | w
          · exact Or.inr (Or.inl ⟨w.1.symm, w.2.symm⟩)
          · exact Or.inr (Or.inr ⟨w.2.symm, w.1.symm⟩)
        · rw [(jn j a (by omega)).1, (jn j a (by omega)).2] at w
          exact Or.inl ⟨ne, Or.inr ⟨j, a, by omega, w⟩⟩
    · rintro (⟨ne, w | ⟨j, a, c, w⟩⟩ | ⟨w1, w2⟩ | ⟨w1, w2⟩)
      · exact ⟨ne, Or.inl w⟩
      · exact ⟨ne, Or.inr ⟨j, a, by omega, by rw [(jn j a c).1, (jn j a c).2]; exact w⟩⟩
      · exact ⟨by rw [w1, w2]; exact k.2.2, Or.inr ⟨s 70, n70.1, by omega, Or.inl ⟨jl.1.trans w1.symm, jl.2.trans w2.symm⟩⟩⟩
      · exact ⟨by rw [w1, w2]; exact fun e => k.2.2 e.symm, Or.inr ⟨s 70, n70.1, by omega, Or.inr ⟨jl.1.trans w2.symm, jl.2.trans w1.symm⟩⟩⟩
  have hA : ∀ x y, 0 ≤ x → x < D 369 0 → 0 ≤ y → y < D 369 0 → (Cn (D 369 0) (cA F2 (F2 1 8) 245) x y ↔ sC D s' x y) := fun x y x0 x1 y0 y1 => by
    rw [hC x y x0 x1 y0 y1]
    refine (Cn_iff ⟨x0, x1⟩ eA).trans (Rk_congr ⟨x0, x1⟩ fun u v a c d e => ?_)
    unfold Ax
    rw [br_cA g2.2.2.1 g2.2.2.2.1 g5 a c d e]
  have z7 := g5.2.2.2.2.2.2.1
  have e247 : F2 (245 + 2) = F1 (245 + 2) := u3 _ (by decide) (by decide) (by decide)
  obtain ⟨F3, v1, v2, v3⟩ := c_gainOfTrial c2 hs' (fun j x y => es j (by omega)) (by rw [es 71 (by omega)]; exact g5.2.2.2.1.2) (by rw [show (247 : Int) = 245 + 2 from rfl, e247, es 71 (by omega), es 72 (by omega), es 73 (by omega)]; exact z7) ok2 hA
  rw [es 72 (by omega)] at v1
  refine ⟨F3, ?_, v2, (g3.tr y2).tr v3⟩
  unfold pfX11_joining
  simp only [pl_l, pl_b, pl_iT, pl_t, pl_f, gx_1, gx_2, gx_3, gx_4, gx_113, gx_114, gx_115, gx_116, gx_212, gx_213, gx_224, gn_4, gn_114, gn_115, gn_116, gn_213, gn_224, p_areTwo h]
  rw [if_pos k, if_pos (by decide)]
  simp only [lx_1_0 h.1, lx_1_1 h.1, lx_1_2 h.1, lx_1_3 h.1, lx_1_4 h.1, lx_1_5 h.1, lx_1_6 h.1, lx_1_7 h.1, lx_2_0 h.1, lx_3_0 h.1, lx_113_0 h.1, lx_113_1 h.1, lx_113_2 h.1, lx_212_0 h.1, lx_212_1 h.1, ox_245, g1, pl_l, pl_b, pl_iT, pl_t, pl_f]
  simp only [lx_1_0 g2.1, lx_1_1 g2.1, lx_1_2 g2.1, lx_1_3 g2.1, lx_1_4 g2.1, lx_1_5 g2.1, lx_1_6 g2.1, lx_1_7 g2.1, lx_2_0 g2.1, lx_3_0 g2.1, lx_113_0 g2.1, lx_113_1 g2.1, lx_113_2 g2.1, lx_212_0 g2.1, lx_212_1 g2.1, ox_245, u1, pl_l, pl_b, pl_iT, pl_t, pl_f, v1]
end SA

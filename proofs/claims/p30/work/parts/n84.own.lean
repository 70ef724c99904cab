/-! the class reads: parts -/
def gF (g : Int) (F F' : pd_F) : Prop := (∀ a, a ≠ 3 → a ≠ g → a ≠ g + 1 → a ≠ g + 2 → F' a = F a) ∧ (∀ j, j ≠ 3 → F' g j = F g j) ∧ ∀ j, (j < 3 ∨ 8 < j) → F' 3 j = F 3 j
theorem gF.tr {g : Int} {F1 F2 F3 : pd_F} (h : gF g F1 F2) (k : gF g F2 F3) : gF g F1 F3 := ⟨fun a x y z w => (k.1 a x y z w).trans (h.1 a x y z w), fun j x => (k.2.1 j x).trans (h.2.1 j x), fun j x => (k.2.2 j x).trans (h.2.2 j x)⟩
theorem gF.rf (g : Int) (F : pd_F) : gF g F F := ⟨fun _ _ _ _ _ => rfl, fun _ _ => rfl, fun _ _ => rfl⟩
def cod (q : Int × Int × Int) : Int := if q.1 = 112 then q.2.1 else 12 + q.2.1
def pcu (r : Int) : Int := if r < 12 then r else r + 4
theorem pcl_pcu {r : Int} : pcl (pcu r) = r := by
  unfold pcl pcu
  by_cases h : r < 12
  · rw [if_pos h, if_pos (by omega)]
  · rw [if_neg h, if_neg (by omega)]; omega
theorem cod_in {np nt : Int} {a q : Int × Int × Int} (hn : np ≤ 12) (ha : (a.1 = 112 ∧ 0 ≤ a.2.1 ∧ a.2.1 < np) ∨ (a.1 = 116 ∧ 0 ≤ a.2.1 ∧ a.2.1 < nt)) (hq : (q.1 = 112 ∧ 0 ≤ q.2.1 ∧ q.2.1 < np) ∨ (q.1 = 116 ∧ 0 ≤ q.2.1 ∧ q.2.1 < nt)) (h : cod a = cod q) : a.1 = q.1 ∧ a.2.1 = q.2.1 := by
  unfold cod at h
  rcases ha with ha | ha <;> rcases hq with hq | hq
  · rw [if_pos ha.1, if_pos hq.1] at h; omega
  · rw [if_pos ha.1, if_neg (by omega)] at h; omega
  · rw [if_neg (by omega), if_pos hq.1] at h; omega
  · rw [if_neg (by omega), if_neg (by omega)] at h; omega
theorem ptxt_0 {ps : List (Int × Int × Int)} : (ptxt ps ++ [59]).getD 0 0 = 32 ∨ (ptxt ps ++ [59]).getD 0 0 = 59 := by
  cases ps with
  | nil => exact Or.inr rfl
  | cons a ps => exact Or.inl rfl
theorem gp.tail {np nt : Int} {a : Int × Int × Int} {ps : List (Int × Int × Int)} (h : gp np nt (a :: ps)) : gp np nt ps := ⟨fun q hq => h.1 q (List.mem_cons_of_mem _ hq), (List.pairwise_cons.mp h.2).2⟩
section PA
variable {sT : pd_S} {b g : Int} {F F' B : pd_F} {T : Int → Int} {N p q np nt na nh nl : Int} {u : List Int}
theorem atl_0 {T : Int → Int} {p : Int} {u : List Int} (h : atl T p u) (hu : 1 ≤ u.length) : T p = u.getD 0 0 := by
  have := h 0 (by omega)
  rw [show p + ((0 : Nat) : Int) = p by omega] at this
  exact this
theorem z_parts (hb : aB b) (hg : pd_sh (pd_SH sT) g = some (4, 2, 8)) (hg1 : pd_sh (pd_SH sT) (g + 1) = some (0, 0, 5)) (hg2 : pd_sh (pd_SH sT) (g + 2) = some (0, 0, 5)) (hgl : ∀ H : pd_F, pd_Ly H → H g 0 = g + 1 ∧ H g 1 = g + 2) {l : Int} (hgb : b + 34 + 4 * l = g) (hl : (0 ≤ l ∧ l < 5 ∧ nt ≤ l) ∨ (5 ≤ l ∧ l < 15 ∧ na ≤ l - 5)) : ∀ (ps : List (Int × Int × Int)) (k : Nat) (F : pd_F) (q m : Int), ps.length < k → ad F T N q → 0 ≤ q → F 2 1 = b → ZK b F B np nt na nh nl → gp np nt ps → F g 3 = m → 0 ≤ m → m + ps.length ≤ 5 → (∀ i, 0 ≤ i → i < m → ((0 ≤ F (g + 1) i ∧ F (g + 1) i < np) ∨ (12 ≤ F (g + 1) i ∧ F (g + 1) i < 12 + nt)) ∧ 0 ≤ F (g + 2) i ∧ F (g + 2) i ≤ 99) → (∀ i, 0 ≤ i → i < m → ∀ a ∈ ps, F (g + 1) i ≠ cod a) → atl T q (ptxt ps ++ [59]) → q + (ptxt ps).length + 1 ≤ N →
    ∃ F', pfX6_readParts_b2 (pd_SH sT) 5000 k F 2 g m = some (1, F') ∧ ad F' T N (q + (ptxt ps).length) ∧ gF g F F' ∧ F' g 3 = m + ps.length ∧ ∀ i, 0 ≤ i → i < m + ps.length → ((0 ≤ F' (g + 1) i ∧ F' (g + 1) i < np) ∨ (12 ≤ F' (g + 1) i ∧ F' (g + 1) i < 12 + nt)) ∧ 0 ≤ F' (g + 2) i ∧ F' (g + 2) i ≤ 99
  | _, 0, F, q, m, hk, _, _, _, _, _, _, _, _, _, _, _, _ => by omega
  | [], k + 1, F, q, m, hk, h, q0, h21, hZ, hgp, h3, m0, m5, hin, hno, ht, hN => by
    have x1 : T q = 59 := atl_1 ht
    have hN' : q + 1 ≤ N := by have : (ptxt []).length = 0 := rfl; omega
    have k4 := (h.semi (by omega) x1).1
    have h1 := h.1
    have e0 : pfX6_atName (pd_SH sT) 5000 F 2 = some (0, F) := by rw [c_atName h1, ci_f (fun z => by omega)]
    have m5' : m ≤ 5 := by have : ([] : List (Int × Int × Int)).length = 0 := rfl; omega
    refine ⟨F, ?_, by rw [show q + ((ptxt []).length : Int) = q by show q + ((0 : Nat) : Int) = q; omega]; exact h, gF.rf g F, by rw [h3]; show m = m + ((0 : Nat) : Int); omega, fun i x y => hin i x (by have : i < m + ((0 : Nat) : Int) := y; omega)⟩
    rw [pfX6_readParts_b2]
    simp only [pl_l, pl_b, pl_iT, pl_t, pl_f, gx_1, gx_2, gx_3, gx_4, gx_113, gx_114, gx_115, gx_116, gx_212, gx_213, gx_224, gn_4, gn_114, gn_115, gn_116, gn_213, gn_224, e0]
    rw [if_neg (by omega)]
  | a :: ps, k + 1, F, q, m, hk, h, q0, h21, hZ, hgp, h3, m0, m5, hin, hno, ht, hN => by
    have b5 := aB_5 hb
    have cb := hZ.bd
    have h1 := h.1
    obtain ⟨s0, -⟩ := sh_b (sT := sT) hb
    obtain ⟨ha, hw0, hw1⟩ := hgp.1 a List.mem_cons_self
    have lc : ((a :: ps).length : Int) = ps.length + 1 := by rw [List.length_cons]; omega
    have lcn : (a :: ps).length = ps.length + 1 := List.length_cons
    have et : ptxt (a :: ps) ++ [59] = [32] ++ [a.1, 97 + a.2.1] ++ [32] ++ dg a.2.2 ++ (ptxt ps ++ [59]) := by
      show (ptx a ++ ptxt ps) ++ [59] = _
      unfold ptx
      simp only [List.append_assoc, List.cons_append, List.nil_append]
    have d1 := (dg_lenv (v := a.2.2)).1 hw1
    have el : ((ptxt (a :: ps)).length : Int) = 5 + (ptxt ps).length := by
      show (((ptx a ++ ptxt ps).length : Nat) : Int) = _
      rw [List.length_append, ptx_len hw1]; omega
    rw [et] at ht
    have x1 : T q = 32 := atl_1 ht.l.l.l.l
    have x2 : atl T (q + 1) [a.1, 97 + a.2.1] := ht.l.l.l.r rfl
    have x3 : T (q + 3) = 32 := atl_1 (ht.l.l.r (by simp only [List.length_append, List.length_cons, List.length_nil]; omega))
    have x4 : atl T (q + 3 + 1) (dg a.2.2) := ht.l.r (by simp only [List.length_append, List.length_cons, List.length_nil]; omega)
    have x5 : atl T (q + 5) (ptxt ps ++ [59]) := ht.r (by simp only [List.length_append, List.length_cons, List.length_nil]; omega)
    have x50 := atl_0 x5 (by rw [List.length_append]; show 1 ≤ _ + 1; omega)
    have x5s : T (q + 5) = 32 ∨ T (q + 5) = 59 := by rw [x50]; exact ptxt_0
    have hc : 97 ≤ a.1 ∧ a.1 ≤ 122 ∧ 0 ≤ a.2.1 ∧ a.2.1 < 26 := by omega
    obtain ⟨g1, g2, g3, -⟩ := h.nm ⟨hc.1, hc.2.1⟩ ⟨hc.2.2.1, hc.2.2.2⟩ x1 x2 (m := q + 3) rfl ⟨by omega, Or.inl x3⟩
    have hf : pfX0_find (pd_SH sT) 5000 F b (a.1 * 256 + 97 + a.2.1) = some (cod a, F) := by
      unfold cod
      rcases ha with ha | ha
      · rw [if_pos ha.1]; exact (z_find h1 hb hZ).1 _ ha.2.1 ha.2.2 (by omega)
      · rw [if_neg (by omega)]; exact (z_find h1 hb hZ).2.1 _ ha.2.1 ha.2.2 (by omega)
    have cr : (0 ≤ cod a ∧ cod a < np) ∨ (12 ≤ cod a ∧ cod a < 12 + nt) := by
      unfold cod
      rcases ha with ha | ha
      · rw [if_pos ha.1]; omega
      · rw [if_neg (by omega)]; omega
    have hn := c_atName1 (sT := sT) h1 ⟨g1, by rw [g2]; exact kw_no (by omega)⟩
    have eH := c_hasPart h1 hg hg1 (hgl F h1).1 (by rw [h3]; omega) (v := cod a)
    rw [h3, ci_f (fun ⟨i, x, y, z⟩ => hno i x y a List.mem_cons_self z)] at eH
    obtain ⟨F1, a1, a2, a3⟩ := h.adv (sT := sT) g3 (by omega)
    obtain ⟨k1, k2, k3⟩ := a2.dg (v := a.2.2) (by omega) x3 x4 (m := q + 5) (by omega) ⟨by omega, x5s⟩
    obtain ⟨F2, c1, c2, c3⟩ := a2.take (sT := sT) (lo := 0) (hi := 99) ⟨k1, k2⟩ (by omega) k3 (by omega)
    have jj := a3.tr c3
    have f2 := c2.1
    have fg : F2 g 3 = m := by rw [jj.1 g (by omega)]; exact h3
    have u1 : pd_Ly (pd_up F2 (g + 1) m (cod a)) := f2.up (pl_rc0 hg1 (by decide))
    have u2 : pd_Ly (pd_up (pd_up F2 (g + 1) m (cod a)) (g + 2) m a.2.2) := u1.up (pl_rc0 hg2 (by decide))
    obtain ⟨F3, hF3⟩ : ∃ F3, pd_up (pd_up (pd_up F2 (g + 1) m (cod a)) (g + 2) m a.2.2) g 3 (m + 1) = F3 := ⟨_, rfl⟩
    have u3 : pd_Ly F3 := by rw [← hF3]; exact u2.up (pl_rc4 hg (by decide))
    have r1 : ∀ x, x ≠ g → x ≠ g + 1 → x ≠ g + 2 → F3 x = F2 x := fun x y z w => by rw [← hF3, pu_a y, pu_a w, pu_a z]
    have rg3 : F3 g 3 = m + 1 := by rw [← hF3, pu_r, if_pos rfl]
    have rg : ∀ j, j ≠ 3 → F3 g j = F2 g j := fun j x => by rw [← hF3, pu_r, if_neg x, pu_a (by omega), pu_a (by omega)]
    have rp : ∀ j, F3 (g + 1) j = if j = m then cod a else F (g + 1) j := fun j => by rw [← hF3, pu_a (by omega), pu_a (by omega), pu_r, jj.1 (g + 1) (by omega)]
    have rw2 : ∀ j, F3 (g + 2) j = if j = m then a.2.2 else F (g + 2) j := fun j => by rw [← hF3, pu_a (by omega), pu_r, pu_a (by omega), jj.1 (g + 2) (by omega)]
    have hgF : gF g F F3 := ⟨fun x y z w v => by rw [r1 x z w v]; exact jj.1 x y, fun j x => by rw [rg j x, jj.1 g (by omega)], fun j x => by rw [r1 3 (by omega) (by omega) (by omega)]; exact jj.2 j x⟩
    have aF3 : ad F3 T N (q + 5) := c2.up u3 (r1 3 (by omega) (by omega) (by omega)) (r1 4 (by omega) (by omega) (by omega))
    have Z3 : ZK b F3 B np nt na nh nl := by
      have Z2 := hZ.j hb jj
      obtain ⟨⟨e1, e2, e3, e4, e5⟩, kk1, ⟨kt1, kt2, kt3, kt4⟩, kk3, kk4, kk5, kk6, kk7⟩ := Z2
      rw [e1] at kt3 kt4
      rw [e2] at kt3
      rw [e3] at kt4
      have fr : ∀ x, b ≤ x → (x < g ∨ g + 2 < x) → F3 x = F2 x := fun x _ y => r1 x (by omega) (by omega) (by omega)
      refine ⟨⟨e1, e2, e3, e4, e5⟩, kk1.fr (by rw [fr b (by omega) (by omega)]) (by rw [fr b (by omega) (by omega)]) (fun x y z => fr x (by omega) (by omega)) rfl rfl rfl rfl rfl, ⟨by rw [fr b (by omega) (by omega)]; exact kt1, by rw [fr b (by omega) (by omega)]; exact kt2, fun t x y => ?_, fun t x y => ?_⟩, kk3.fr (by rw [fr b (by omega) (by omega)]) (fun x y z => fr x (by omega) (by omega)) (Int.le_refl _) rfl rfl rfl rfl rfl, kk4.fr (by rw [fr b (by omega) (by omega)]) (fun x y z => fr x (by omega) (by omega)) (Int.le_refl _) rfl rfl rfl rfl, kk5.fr (fr _ (by omega) (by omega)) rfl rfl, ⟨fun i x y => by rw [fr _ (by omega) (by omega)]; exact kk6.1 i x y, fun i x y => by rw [fr _ (by omega) (by omega)]; exact kk6.2.1 i x y, fun i x y => by rw [fr _ (by omega) (by omega)]; exact kk6.2.2 i x y⟩, kk7⟩
      · rw [e2] at y
        rw [e1]
        exact ⟨(kt3 t x y).1.fr (fun z v w => fr z (by omega) (by omega)) rfl rfl rfl, (kt3 t x y).2⟩
      · rw [e3] at y
        rw [e1, fr (b + 4) (by omega) (by omega)]
        exact ⟨(kt4 t x y).1.fr (fun z v w => fr z (by omega) (by omega)) rfl rfl rfl, (kt4 t x y).2⟩
    have F321 : F3 2 1 = b := by rw [hgF.1 2 (by omega) (by omega) (by omega) (by omega)]; exact h21
    obtain ⟨F', i1, i2, i3, i4, i5⟩ := z_parts hb hg hg1 hg2 hgl hgb hl ps k F3 (q + 5) (m + 1) (by omega) aF3 (by omega) F321 Z3 hgp.tail rg3 (by omega) (by omega) (fun i x y => by
      rw [rp, rw2]
      by_cases e : i = m
      · rw [if_pos e, if_pos e]; exact ⟨cr, hw0, by omega⟩
      · rw [if_neg e, if_neg e]; exact hin i x (by omega)) (fun i x y c hc => by
      rw [rp]
      by_cases e : i = m
      · rw [if_pos e]
        intro z
        exact (List.pairwise_cons.mp hgp.2).1 c hc (cod_in cb.1.2 ha (hgp.1 c (List.mem_cons_of_mem _ hc)).1 z)
      · rw [if_neg e]; exact hno i x (by omega) c (List.mem_cons_of_mem _ hc)) x5 (by omega)
    refine ⟨F', ?_, by rw [show q + ((ptxt (a :: ps)).length : Int) = q + 5 + (ptxt ps).length by omega]; exact i2, hgF.tr i3, by rw [i4]; omega, fun i x y => i5 i x (by omega)⟩
    rw [← i1, pfX6_readParts_b2]
    have Xf : F 2 0 = 3 := lx_2_0 h1
    simp only [pl_l, pl_b, pl_iT, pl_t, pl_f, gx_1, gx_2, gx_3, gx_4, gx_113, gx_114, gx_115, gx_116, gx_212, gx_213, gx_224, gn_4, gn_114, gn_115, gn_116, gn_213, gn_224, hn, Xf, h21, pl_ob s0, g2, hf, pl_ob hg, eH]
    rw [if_neg (show ¬ m > 5 by omega), if_neg (show ¬ (1 : Int) = 0 by decide), if_neg (show ¬ cod a = -1 by omega)]
    unfold pfX6_readParts_b48 pfX2_addPart
    simp only [pl_l, pl_b, pl_iT, pl_t, pl_f, gx_1, gx_2, gx_3, gx_4, gx_113, gx_114, gx_115, gx_116, gx_212, gx_213, gx_224, gn_4, gn_114, gn_115, gn_116, gn_213, gn_224, pl_ob hg, h3, Xf]
    rw [if_neg (show ¬ cod a = -1 by omega), if_pos (show cod a < 17 by omega), if_pos (show m < 5 by omega), a1]
    have q1 : pd_up F2 (g + 1) m (cod a) g 1 = g + 2 := (hgl _ u1).2
    have q2 : pd_up F2 (g + 1) m (cod a) g 3 = m := by rw [pu_a (by omega)]; exact fg
    have q3 : pd_up (pd_up F2 (g + 1) m (cod a)) (g + 2) m a.2.2 g 3 = m := by rw [pu_a (by omega)]; exact q2
    simp only [pl_l, pl_b, pl_iT, pl_t, pl_f, c1, (hgl F2 f2).1, pl_ln hg1, fg, pl_ib hg1, pl_ib hg2, q1, q2, q3]
    rw [if_pos (show a.2.2 ≠ -1 by omega), pl_i (by decide), if_neg (by omega), pl_i (by omega), pl_i (by omega), pl_w (by omega)]
    simp only [pl_l, pl_b, pl_iT, pl_t, pl_f, hF3]
end PA

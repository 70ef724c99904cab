/-! the class reads: settings, loans, highs -/
theorem atl.l {T : Int → Int} {p : Int} {u v : List Int} (h : atl T p (u ++ v)) : atl T p u := (atl_app h).1
theorem atl.r {T : Int → Int} {p n : Int} {u v : List Int} (h : atl T p (u ++ v)) (hn : n = p + u.length) : atl T n v := hn ▸ (atl_app h).2
theorem atl_1 {T : Int → Int} {p c : Int} (h : atl T p [c]) : T p = c := by
  have := h 0 (by simp)
  rw [show p + ((0 : Nat) : Int) = p by omega] at this
  exact this
theorem wl81 : True = True := rfl
theorem nm_w {c i : Int} : w8l [c, 97 + i] = c * 256 + 97 + i := by
  show (0 * 256 + (c - 96 + 96)) * 256 + (97 + i - 96 + 96) = _; omega
theorem nm_l {c i : Int} (hc : 97 ≤ c ∧ c ≤ 122) (hi : 0 ≤ i ∧ i < 26) : lets [c, 97 + i] := fun k hk => by
  have : k = 0 ∨ k = 1 := by have : k < 2 := hk; omega
  rcases this with rfl | rfl
  · exact hc
  · show 97 ≤ 97 + i ∧ 97 + i ≤ 122; omega
def wF (b : Int) (F F' : pd_F) : Prop := (∀ a, a ≠ 3 → (a < b ∨ b + 107 < a) → F' a = F a) ∧ ∀ j, (j < 3 ∨ 8 < j) → F' 3 j = F 3 j
theorem wF.tr {b : Int} {F G H : pd_F} (h : wF b F G) (g : wF b G H) : wF b F H := ⟨fun a x y => (g.1 a x y).trans (h.1 a x y), fun j x => (g.2 j x).trans (h.2 j x)⟩
theorem jC.tr {F G H : pd_F} (h : jC F G) (g : jC G H) : jC F H := ⟨fun a x => (g.1 a x).trans (h.1 a x), fun j x => (g.2 j x).trans (h.2 j x)⟩
theorem jC.w {b : Int} {F G : pd_F} (h : jC F G) : wF b F G := ⟨fun a x _ => h.1 a x, h.2⟩
theorem wF.up {b : Int} {F G : pd_F} (h : wF b F G) (hb : 5 ≤ b) {a i v : Int} (ha : b ≤ a ∧ a ≤ b + 107) : wF b F (pd_up G a i v) := ⟨fun c x y => by rw [pu_a (by omega)]; exact h.1 c x y, fun j x => by rw [pu_a (by omega)]; exact h.2 j x⟩
theorem ad.up {F F' : pd_F} {T : Int → Int} {N p : Int} (h : ad F T N p) (hL : pd_Ly F') (e3 : F' 3 = F 3) (e4 : F' 4 = F 4) : ad F' T N p := by
  obtain ⟨-, h⟩ := h
  refine ⟨hL, ?_⟩
  rw [e3, e4]; exact h
/-- the names so far -/
def zN (b : Int) (F : pd_F) (np nt na : Int) : Prop := (∀ i, 0 ≤ i → i < np → F (b + 10 + 2 * i) 2 = 28769 + i ∧ F (b + 10 + 2 * i) 3 = 15) ∧ (∀ t, 0 ≤ t → t < nt → F (b + 34 + 4 * t) 4 = 29793 + t) ∧ ∀ a, 0 ≤ a → a < na → F (b + 34 + 4 * (5 + a)) 4 = 24929 + a
/-- the book so far -/
def ZK (b : Int) (F B : pd_F) (np nt na nh nl : Int) : Prop := (B 369 0 = np ∧ B 370 0 = nt ∧ B 371 0 = na ∧ B 372 0 = nh ∧ B 373 0 = nl) ∧ Kp b F B ∧ Kl b F B ∧ Kh b F B ∧ Ko b F B ∧ Ks b F B ∧ zN b F np nt na ∧ ∀ p, 0 ≤ p → p < np → 1 ≤ B 375 p
section ZL
variable {sT : pd_S} {b : Int} {F F' B : pd_F} {T : Int → Int} {N p q np nt na nh nl : Int} {u : List Int}
theorem zN.fr (h : zN b F np nt na) (c : np ≤ 12 ∧ nt ≤ 5 ∧ na ≤ 10) (e : ∀ a, b + 10 ≤ a → a ≤ b + 93 → F' a = F a) : zN b F' np nt na := by
  obtain ⟨h1, h2, h3⟩ := h
  exact ⟨fun i x y => by rw [e _ (by omega) (by omega)]; exact h1 i x y, fun i x y => by rw [e _ (by omega) (by omega)]; exact h2 i x y, fun i x y => by rw [e _ (by omega) (by omega)]; exact h3 i x y⟩
theorem ZK.bd (h : ZK b F B np nt na nh nl) : (0 ≤ np ∧ np ≤ 12) ∧ (0 ≤ nt ∧ nt ≤ 5) ∧ (0 ≤ na ∧ na ≤ 10) ∧ (0 ≤ nh ∧ nh ≤ 6) ∧ 0 ≤ nl ∧ nl ≤ 8 := by
  obtain ⟨⟨rfl, rfl, rfl, rfl, rfl⟩, k1, k2, k3, k4, -⟩ := h
  exact ⟨k1.2.1, k2.1.2, k2.2.1.2, k3.2.1, k4.2.1⟩
theorem ZK.cn (h : ZK b F B np nt na nh nl) : F b 9 = np ∧ F b 10 = nt ∧ F b 11 = na ∧ F b 12 = nh ∧ F b 13 = nl := by
  obtain ⟨⟨rfl, rfl, rfl, rfl, rfl⟩, k1, k2, k3, k4, -⟩ := h
  exact ⟨k1.1, k2.1.1, k2.2.1.1, k3.1, k4.1⟩
theorem ZK.fr (h : ZK b F B np nt na nh nl) (e : ∀ a, b ≤ a → a ≤ b + 107 → F' a = F a) : ZK b F' B np nt na nh nl := by
  have c := h.bd
  obtain ⟨h0, k1, k2, k3, k4, k5, k6, k7⟩ := h
  have eb := e b (by omega) (by omega)
  exact ⟨h0, k1.fr (by rw [eb]) (by rw [eb]) (fun a x y => e a (by omega) (by omega)) rfl rfl rfl rfl rfl, k2.fr (by rw [eb]) (by rw [eb]) (e _ (by omega) (by omega)) (fun a x y => e a (by omega) (by omega)) (Int.le_refl _) rfl rfl rfl rfl rfl rfl, k3.fr (by rw [eb]) (fun a x y => e a (by omega) (by omega)) (Int.le_refl _) rfl rfl rfl rfl rfl, k4.fr (by rw [eb]) (fun a x y => e a (by omega) (by omega)) (Int.le_refl _) rfl rfl rfl rfl, k5.fr (e _ (by omega) (by omega)) rfl rfl, k6.fr (by omega) (fun a x y => e a (by omega) (by omega)), k7⟩
theorem ZK.j (h : ZK b F B np nt na nh nl) (hb : aB b) (j : jC F F') : ZK b F' B np nt na nh nl := h.fr fun a x _ => j.1 a (by have := aB_5 hb; omega)
/-- a name looked up -/
theorem z_fi {f : Int → Int} {k0 m w : Int} (hf : ∀ k, 0 ≤ k → k < m → f k = k0 + k) : (∀ i, 0 ≤ i → i < m → w = k0 + i → fI (fun k => f k = w) m i) ∧ ((w < k0 ∨ k0 + m ≤ w) → fI (fun k => f k = w) m (-1)) := by
  refine ⟨fun i x y e => Or.inl ⟨x, y, by show f i = w; rw [hf i x y, e], fun j a c z => ?_⟩, fun e => Or.inr ⟨rfl, fun j a c z => ?_⟩⟩
  · have z : f j = w := z
    rw [hf j a (by omega)] at z; omega
  · have z : f j = w := z
    rw [hf j a c] at z; omega
theorem z_find (hL : pd_Ly F) (hb : aB b) (hZ : ZK b F B np nt na nh nl) {w : Int} : (∀ i, 0 ≤ i → i < np → w = 28769 + i → pfX0_find (pd_SH sT) 5000 F b w = some (i, F)) ∧ (∀ i, 0 ≤ i → i < nt → w = 29793 + i → pfX0_find (pd_SH sT) 5000 F b w = some (12 + i, F)) ∧ (∀ i, 0 ≤ i → i < na → w = 24929 + i → pfX0_find (pd_SH sT) 5000 F b w = some (17 + i, F)) ∧ ((w < 28769 ∨ 28769 + np ≤ w) → (w < 29793 ∨ 29793 + nt ≤ w) → (w < 24929 ∨ 24929 + na ≤ w) → pfX0_find (pd_SH sT) 5000 F b w = some (-1, F)) := by
  have c := hZ.bd
  have cn := hZ.cn
  obtain ⟨n1, n2, n3⟩ := hZ.2.2.2.2.2.2.1
  obtain ⟨p1, p0⟩ := z_fi (w := w) (fun k x y => (n1 k x y).1)
  obtain ⟨t1, t0⟩ := z_fi (w := w) n2
  obtain ⟨a1, a0⟩ := z_fi (w := w) n3
  have go : ∀ i t a, fI (fun k => F (b + 10 + 2 * k) 2 = w) np i → fI (fun k => F (b + 34 + 4 * k) 4 = w) nt t → fI (fun k => F (b + 34 + 4 * (5 + k)) 4 = w) na a → pfX0_find (pd_SH sT) 5000 F b w = some (if 0 ≤ i then i else if 0 ≤ t then 12 + t else if 0 ≤ a then 17 + a else -1, F) := fun i t a x y z =>
    c_find hL hb (by omega) (by omega) (by omega) (by rw [cn.1]; exact x) (by rw [cn.2.1]; exact y) (by rw [cn.2.2.1]; exact z)
  refine ⟨fun i x y e => ?_, fun i x y e => ?_, fun i x y e => ?_, fun x y z => ?_⟩
  · rw [go i (-1) (-1) (p1 i x y e) (t0 (by omega)) (a0 (by omega)), if_pos x]
  · rw [go (-1) i (-1) (p0 (by omega)) (t1 i x y e) (a0 (by omega)), if_neg (by decide), if_pos x]
  · rw [go (-1) (-1) i (p0 (by omega)) (t0 (by omega)) (a1 i x y e), if_neg (by decide), if_neg (by decide), if_pos x]
  · rw [go (-1) (-1) (-1) (p0 x) (t0 y) (a0 z), if_neg (by decide), if_neg (by decide), if_neg (by decide)]
theorem kw_no {w : Int} (h : 24929 ≤ w ∧ w < 29807) : ¬ Kw8 w := by unfold Kw8; omega
/-- a blank, then a number that is told -/
theorem ad.dg (h : ad F T N q) {v m : Int} (hv : 0 ≤ v ∧ v < 10000) (x1 : T q = 32) (x2 : atl T (q + 1) (dg v)) (hm : m = q + 1 + (dg v).length) (x3 : sep T N m) : F 3 4 = 2 ∧ F 3 7 = v ∧ F 3 3 = m := by
  obtain ⟨d1, d2, d3, d4⟩ := digs_dg hv
  subst hm
  have := h.num (Or.inr ⟨rfl, x1⟩) x2 d1 (by omega) x3
  rw [d2] at this
  exact this
/-- a blank, then a name -/
theorem ad.nm (h : ad F T N q) {c i m : Int} (hc : 97 ≤ c ∧ c ≤ 122) (hi : 0 ≤ i ∧ i < 26) (x1 : T q = 32) (x2 : atl T (q + 1) [c, 97 + i]) (hm : m = q + 3) (x3 : sep T N m) : F 3 4 = 1 ∧ F 3 8 = c * 256 + 97 + i ∧ F 3 3 = m ∧ F 3 6 = c := by
  subst hm
  have := h.word (Or.inr ⟨rfl, x1⟩) x2 (nm_l hc hi) (show 1 ≤ 2 ∧ 2 ≤ 8 by decide) (by show sep T N (q + 1 + 2); rw [show q + 1 + 2 = q + 3 by omega]; exact x3)
  rw [nm_w] at this
  exact ⟨this.1, this.2.1, by rw [this.2.2.1]; show q + 1 + 2 = q + 3; omega, this.2.2.2⟩
/-- a setting told -/
theorem z_setting (h : ad F T N p) (hb : aB b) (h21 : F 2 1 = b) (hZ : ZK b F B np nt na nh nl) {w v : Int} (hw : 0 ≤ w ∧ w < 3) (hno : F (b + 7) w = -1) (h3 : F 3 3 = q) (q0 : 0 ≤ q) (hv : 0 ≤ v ∧ v < 10000 ∧ v ≤ tMx w) (ht : atl T q ([32] ++ dg v ++ [59])) (hN : q + 1 + (dg v).length + 1 ≤ N) :
    ∃ F' B', pfX6_readSetting (pd_SH sT) 5000 F 2 w = some (1, F') ∧ ad F' T N (q + 1 + (dg v).length + 1) ∧ wF b F F' ∧ ZK b F' B' np nt na nh nl ∧ ∀ x, x ≠ w → F' (b + 7) x = F (b + 7) x := by
  have b5 := aB_5 hb
  have c := hZ.bd
  obtain ⟨s0, -, -, -, -, -, -, s7, -⟩ := sh_b (sT := sT) hb
  have l6 : ∀ {H : pd_F}, pd_Ly H → H b 6 = b + 7 := fun hH => (ly_b hH hb).2.2.2.2.2.2.1
  have x1 : T (q) = 32 := atl_1 (ht.l.l)
  have x2 : atl T (q + 1) (dg v) := (atl.r (n := q + 1) (ht.l) (by simp only [List.length_append, List.length_cons, List.length_nil, wl81]; omega))
  have x3 : T (q + 1 + (dg v).length) = 59 := atl_1 (atl.r (n := q + 1 + (dg v).length) (ht) (by simp only [List.length_append, List.length_cons, List.length_nil, wl81]; omega))
  obtain ⟨F1, a1, a2, a3⟩ := h.adv (sT := sT) h3 (by omega)
  obtain ⟨k1, k2, k3⟩ := a2.dg (v := v) ⟨hv.1, hv.2.1⟩ x1 x2 rfl ⟨by omega, Or.inr x3⟩
  obtain ⟨F2, c1, c2, c3⟩ := a2.take (sT := sT) (lo := 0) (hi := tMx w) ⟨k1, k2⟩ ⟨hv.1, hv.2.2⟩ k3 (by omega)
  obtain ⟨k4, k5⟩ := c2.semi (by omega) x3
  obtain ⟨F3, d1, d2, d3⟩ := c2.passEnd (sT := sT) k4 k5 (by omega)
  have zz := (a3.tr c3).tr d3
  have h1 := h.1
  have f3 := d2.1
  have e5 : F3 2 1 = b := by rw [zz.1 2 (by decide)]; exact h21
  have eg : pfX11_greatestOf (pd_SH sT) 5000 F1 w = some (tMx w, F1) := by
    unfold pfX11_greatestOf tMx
    by_cases k : w = 0
    · rw [if_neg (fun e => e k), if_pos k]
    · rw [if_pos k, if_neg k]
  have ff : ∀ a, b ≤ a → a ≠ b + 7 → pd_up F3 (b + 7) w v a = F a := fun a x y => by rw [pu_a y]; exact zz.1 a (by omega)
  have ra : ∀ a, a ≠ 391 → a ≠ 392 → pd_up (pd_up B 392 w 1) 391 w v a = B a := fun a x y => by rw [pu_a x, pu_a y]
  refine ⟨pd_up F3 (b + 7) w v, pd_up (pd_up B 392 w 1) 391 w v, ?_, d2.up (f3.up (pl_rc0 s7 (by decide))) (pu_a (by omega)) (pu_a (by omega)), zz.w.up b5.1 (by omega), ?_, fun x hx => by rw [pu_r, if_neg hx, zz.1 _ (by omega)]⟩
  · unfold pfX6_readSetting
    simp only [pl_l, pl_b, pl_iT, pl_t, pl_f, gx_1, gx_2, gx_3, gx_4, gx_113, gx_114, gx_115, gx_116, gx_212, gx_213, gx_224, gn_4, gn_114, gn_115, gn_116, gn_213, gn_224, lx_1_0 h1, lx_1_1 h1, lx_1_2 h1, lx_1_3 h1, lx_1_4 h1, lx_1_5 h1, lx_1_6 h1, lx_1_7 h1, lx_2_0 h1, lx_3_0 h1, lx_113_0 h1, lx_113_1 h1, lx_113_2 h1, lx_212_0 h1, lx_212_1 h1, h21, pl_ob s0, l6 h1, pl_ib s7]
    rw [pl_i (by omega), if_pos hno]
    simp only [pl_l, pl_b, pl_iT, pl_t, pl_f, a1, eg, c1, d1]
    rw [if_neg (by omega), if_pos (show (1 : Int) ≠ 0 by decide)]
    simp only [lx_1_0 f3, lx_1_1 f3, lx_1_2 f3, lx_1_3 f3, lx_1_4 f3, lx_1_5 f3, lx_1_6 f3, lx_1_7 f3, lx_2_0 f3, lx_3_0 f3, lx_113_0 f3, lx_113_1 f3, lx_113_2 f3, lx_212_0 f3, lx_212_1 f3, gx_1, gx_2, gx_3, gx_4, gx_113, gx_114, gx_115, gx_116, gx_212, gx_213, gx_224, gn_4, gn_114, gn_115, gn_116, gn_213, gn_224, pl_l, pl_b, pl_iT, pl_t, pl_f, e5, pl_ob s0, l6 f3, pl_ib s7]
    rw [pl_i (by omega)]
  · obtain ⟨h0, k1, k2, k3, k4, k5, k6, k7⟩ := hZ
    have fb := ff b (Int.le_refl _) (by omega)
    refine ⟨by rw [ra _ (by decide) (by decide), ra _ (by decide) (by decide), ra _ (by decide) (by decide), ra _ (by decide) (by decide), ra _ (by decide) (by decide)]; exact h0,
      k1.fr (by rw [fb]) (by rw [fb]) (fun a x y => ff a (by omega) (by omega)) (by rw [ra _ (by decide) (by decide)]) (ra _ (by decide) (by decide)) (ra _ (by decide) (by decide)) (ra _ (by decide) (by decide)) (ra _ (by decide) (by decide)),
      k2.fr (by rw [fb]) (by rw [fb]) (ff _ (by omega) (by omega)) (fun a x y => ff a (by omega) (by omega)) (by rw [ra _ (by decide) (by decide)]; exact Int.le_refl _) (by rw [ra _ (by decide) (by decide)]) (by rw [ra _ (by decide) (by decide)]) (ra _ (by decide) (by decide)) (ra _ (by decide) (by decide)) (ra _ (by decide) (by decide)) (ra _ (by decide) (by decide)),
      k3.fr (by rw [fb]) (fun a x y => ff a (by omega) (by omega)) (by rw [ra _ (by decide) (by decide)]; exact Int.le_refl _) (by rw [ra _ (by decide) (by decide)]) (ra _ (by decide) (by decide)) (ra _ (by decide) (by decide)) (ra _ (by decide) (by decide)) (ra _ (by decide) (by decide)),
      k4.fr (by rw [fb]) (fun a x y => ff a (by omega) (by omega)) (by rw [ra _ (by decide) (by decide)]; exact Int.le_refl _) (by rw [ra _ (by decide) (by decide)]) (ra _ (by decide) (by decide)) (ra _ (by decide) (by decide)) (ra _ (by decide) (by decide)), fun x x0 x1 => ?_, k6.fr (by omega) (fun a x y => ff a (by omega) (by omega)), fun x y z => by rw [ra _ (by decide) (by decide)]; exact k7 x y z⟩
    rw [pu_a (show (392 : Int) ≠ 391 by decide), pu_r, pu_r, pu_r, pu_a (show (391 : Int) ≠ 392 by decide)]
    by_cases e : x = w
    · subst e
      rw [if_pos rfl, if_pos rfl, if_pos rfl]
      exact Or.inr ⟨rfl, rfl, hv.1, hv.2.2⟩
    · rw [if_neg e, if_neg e, if_neg e, zz.1 _ (by omega)]
      exact k5 x x0 x1
/-- somebody or something told ahead -/
theorem ad.told (h : ad F T N p) (h21 : F 2 1 = b) (hb : aB b) {w r lo hi : Int} (hk : F 3 4 = 1 ∧ F 3 8 = w) (hw : 24929 ≤ w ∧ w < 29807) (hf : pfX0_find (pd_SH sT) 5000 F b w = some (r, F)) (hr : lo ≤ r ∧ r < hi ∧ 0 ≤ lo ∧ hi ≤ 100) (h3 : F 3 3 = q) (hq : 0 ≤ q ∧ q ≤ N) : ∃ F', pfX6_takeTold (pd_SH sT) 5000 F 2 lo hi = some (r - lo, F') ∧ ad F' T N q ∧ jC F F' := by
  obtain ⟨F', a, c, d⟩ := h.adv (sT := sT) h3 hq
  refine ⟨F', ?_, c, d⟩
  have q1 := h.1
  obtain ⟨s0, -⟩ := sh_b (sT := sT) hb
  have hn := c_atName1 (sT := sT) q1 ⟨hk.1, by rw [hk.2]; exact kw_no hw⟩
  unfold pfX6_takeTold
  simp only [pl_l, pl_b, pl_iT, pl_t, pl_f, gx_1, gx_2, gx_3, gx_4, gx_113, gx_114, gx_115, gx_116, gx_212, gx_213, gx_224, gn_4, gn_114, gn_115, gn_116, gn_213, gn_224, lx_1_0 q1, lx_1_1 q1, lx_1_2 q1, lx_1_3 q1, lx_1_4 q1, lx_1_5 q1, lx_1_6 q1, lx_1_7 q1, lx_2_0 q1, lx_3_0 q1, lx_113_0 q1, lx_113_1 q1, lx_113_2 q1, lx_212_0 q1, lx_212_1 q1, hn, hk.2, h21, pl_ob s0, hf, a]
  rw [if_pos (show (1 : Int) ≠ 0 by decide), if_neg (by omega), if_pos hr.2.1, pl_w (by omega)]
def wDue0 : List Int := [100, 117, 101]
def wFrom0 : List Int := [102, 114, 111, 109]
def wTo0 : List Int := [116, 111]
theorem z_loan (h : ad F T N p) (hb : aB b) (h21 : F 2 1 = b) (hZ : ZK b F B np nt na nh nl) (hnl : nl < 8) {i u d : Int} (h3 : F 3 3 = q) (q0 : 0 ≤ q) (hi : 0 ≤ i ∧ i < np) (hu : 0 ≤ u ∧ u < 10000) (hd : 0 ≤ d ∧ d ≤ 999) (ht : atl T q ([32] ++ [112, 97 + i] ++ [32] ++ dg u ++ [32] ++ [100, 117, 101] ++ [32] ++ dg d ++ [59])) {m : Int} (hm : m = q + 10 + (dg u).length + (dg d).length) (hN : m ≤ N) :
    ∃ F' B', pfX6_readLoan (pd_SH sT) 5000 F 2 = some (1, F') ∧ ad F' T N m ∧ wF b F F' ∧ ZK b F' B' np nt na nh (nl + 1) := by
  have b5 := aB_5 hb
  have c := hZ.bd
  have cn := hZ.cn
  obtain ⟨s0, -, -, -, -, -, s6, -⟩ := sh_b (sT := sT) hb
  have x1 : T (q) = 32 := atl_1 (ht.l.l.l.l.l.l.l.l)
  have x2 : atl T (q + 1) [112, 97 + i] := (atl.r (n := q + 1) (ht.l.l.l.l.l.l.l) (by simp only [List.length_append, List.length_cons, List.length_nil, wl81]; omega))
  have x3 : T (q + 1 + 2) = 32 := atl_1 (atl.r (n := q + 1 + 2) (ht.l.l.l.l.l.l) (by simp only [List.length_append, List.length_cons, List.length_nil, wl81]; omega))
  have x4 : atl T (q + 1 + 2 + 1) (dg u) := (atl.r (n := q + 1 + 2 + 1) (ht.l.l.l.l.l) (by simp only [List.length_append, List.length_cons, List.length_nil, wl81]; omega))
  have x5 : T (q + 1 + 2 + 1 + (dg u).length) = 32 := atl_1 (atl.r (n := q + 1 + 2 + 1 + (dg u).length) (ht.l.l.l.l) (by simp only [List.length_append, List.length_cons, List.length_nil, wl81]; omega))
  have x6 : atl T (q + 1 + 2 + 1 + (dg u).length + 1) [100, 117, 101] := (atl.r (n := q + 1 + 2 + 1 + (dg u).length + 1) (ht.l.l.l) (by simp only [List.length_append, List.length_cons, List.length_nil, wl81]; omega))
  have x7 : T (q + 1 + 2 + 1 + (dg u).length + 1 + 3) = 32 := atl_1 (atl.r (n := q + 1 + 2 + 1 + (dg u).length + 1 + 3) (ht.l.l) (by simp only [List.length_append, List.length_cons, List.length_nil, wl81]; omega))
  have x8 : atl T (q + 1 + 2 + 1 + (dg u).length + 1 + 3 + 1) (dg d) := (atl.r (n := q + 1 + 2 + 1 + (dg u).length + 1 + 3 + 1) (ht.l) (by simp only [List.length_append, List.length_cons, List.length_nil, wl81]; omega))
  have x9 : T (q + 1 + 2 + 1 + (dg u).length + 1 + 3 + 1 + (dg d).length) = 59 := atl_1 (atl.r (n := q + 1 + 2 + 1 + (dg u).length + 1 + 3 + 1 + (dg d).length) (ht) (by simp only [List.length_append, List.length_cons, List.length_nil, wl81]; omega))
  obtain ⟨F1, a1, a2, a3⟩ := h.adv (sT := sT) h3 (by omega)
  have Z1 := hZ.j hb a3
  obtain ⟨g1, g2, g3, -⟩ := a2.nm (by decide) (by omega) x1 x2 rfl ⟨by omega, Or.inl (by rw [show q + 3 = q + 1 + 2 by omega]; exact x3)⟩
  obtain ⟨F2, c1, c2, c3⟩ := a2.told (sT := sT) (by rw [a3.1 2 (by decide)]; exact h21) hb (lo := 0) (hi := 12) ⟨g1, g2⟩ (by omega) ((z_find a2.1 hb Z1).1 i hi.1 hi.2 (by omega)) (by omega) g3 (by omega)
  obtain ⟨k1, k2, k3⟩ := c2.dg (v := u) (by omega) (by rw [show q + 3 = q + 1 + 2 by omega]; exact x3) (by rw [show q + 3 + 1 = q + 1 + 2 + 1 by omega]; exact x4) rfl ⟨by omega, Or.inl (by rw [show q + 3 + 1 + ((dg u).length : Int) = q + 1 + 2 + 1 + (dg u).length by omega]; exact x5)⟩
  obtain ⟨F3, d1, d2, d3⟩ := c2.take (sT := sT) (lo := 0) (hi := 9999999) ⟨k1, k2⟩ (by omega) k3 (by omega)
  obtain ⟨k4, k5, k6, -⟩ := d2.word (q := q + 1 + 2 + 1 + (dg u).length + 1) (Or.inr ⟨by omega, by rw [show q + 3 + 1 + ((dg u).length : Int) = q + 1 + 2 + 1 + (dg u).length by omega]; exact x5⟩) x6 (by unfold lets; decide) (by decide) ⟨by show _ + (3 : Int) < N; omega, Or.inl x7⟩
  obtain ⟨F4, e1, e2, e3⟩ := d2.pass (sT := sT) (w := 6583653) ⟨k4, k5⟩ k6 (by show 0 ≤ _ + (3 : Int) ∧ _ + (3 : Int) ≤ N; omega)
  obtain ⟨k7, k8, k9⟩ := e2.dg (v := d) (by omega) x7 x8 rfl ⟨by show _ + (3 : Int) + 1 + _ < N; omega, Or.inr x9⟩
  obtain ⟨F5, i1, i2, i3⟩ := e2.take (sT := sT) (lo := 0) (hi := 999) ⟨k7, k8⟩ (by omega) k9 (by show 0 ≤ _ + (3 : Int) + 1 + _ ∧ _ + (3 : Int) + 1 + _ ≤ N; omega)
  obtain ⟨k10, k11⟩ := i2.semi (by show _ + (3 : Int) + 1 + _ < N; omega) x9
  obtain ⟨F6, j1, j2, j3⟩ := i2.passEnd (sT := sT) (q := m) k10 (by rw [k11]; show _ + (3 : Int) + 1 + _ + 1 = m; omega) (by omega)
  have zz := ((((a3.tr c3).tr d3).tr e3).tr i3).tr j3
  have h1 := h.1
  have f6 := j2.1
  have e5 : F6 2 1 = b := by rw [zz.1 2 (by decide)]; exact h21
  have l5 : F6 b 5 = b + 6 := (ly_b f6 hb).2.2.2.2.2.1
  obtain ⟨lo, so⟩ := fy_o (sT := sT) f6 hb (i := nl) (by omega) (by omega)
  have q13 : F6 b 13 = nl := by rw [zz.1 b (by omega)]; exact cn.2.2.2.2
  obtain ⟨tl, gl⟩ := c_dated (sT := sT) f6 (c := b + 100 + nl) (v0 := i - 0) (v1 := u) (v2 := d) (v3 := 999) so
  generalize hH : pd_up (pd_up (pd_up (pd_up F6 (b + 100 + nl) 0 (i - 0)) (b + 100 + nl) 1 u) (b + 100 + nl) 2 d) (b + 100 + nl) 3 999 = H at tl gl
  obtain ⟨q0', q1, q2, q3, q4⟩ := d_4 hH.symm
  have hb2 : H 2 1 = b := by rw [q4 2 (by omega)]; exact e5
  have hb13 : H b 13 = nl := by rw [q4 b (by omega)]; exact q13
  have gf : pd_Ly (pd_up H b 13 (nl + 1)) := gl.up (pl_rc4 s0 (by decide))
  have ff : ∀ a, a ≠ 3 → a ≠ b → a ≠ b + 100 + nl → pd_up H b 13 (nl + 1) a = F a := fun a y z w => by rw [pu_a z, q4 a w]; exact zz.1 a y
  have fb : ∀ j, j ≠ 13 → pd_up H b 13 (nl + 1) b j = F b j := fun j x => by rw [pu_r, if_neg x, q4 b (by omega), zz.1 b (by omega)]
  have ra : ∀ a, a ≠ 373 → a ≠ 388 → a ≠ 389 → a ≠ 390 → pd_up (pd_up (pd_up (pd_up B 388 nl i) 389 nl u) 390 nl d) 373 0 (nl + 1) a = B a := fun a x y z w => by rw [pu_a x, pu_a w, pu_a z, pu_a y]
  refine ⟨pd_up H b 13 (nl + 1), pd_up (pd_up (pd_up (pd_up B 388 nl i) 389 nl u) 390 nl d) 373 0 (nl + 1), ?_, j2.up gf (by rw [pu_a (by omega), q4 3 (by omega)]) (by rw [pu_a (by omega), q4 4 (by omega)]), ⟨fun a x y => ff a x (by omega) (by omega), fun j x => by rw [pu_a (by omega), q4 3 (by omega)]; exact zz.2 j x⟩, ?_⟩
  · unfold pfX6_readLoan
    simp only [pl_l, pl_b, pl_iT, pl_t, pl_f, gx_1, gx_2, gx_3, gx_4, gx_113, gx_114, gx_115, gx_116, gx_212, gx_213, gx_224, gn_4, gn_114, gn_115, gn_116, gn_213, gn_224, lx_1_0 h1, lx_1_1 h1, lx_1_2 h1, lx_1_3 h1, lx_1_4 h1, lx_1_5 h1, lx_1_6 h1, lx_1_7 h1, lx_2_0 h1, lx_3_0 h1, lx_113_0 h1, lx_113_1 h1, lx_113_2 h1, lx_212_0 h1, lx_212_1 h1, h21, pl_ob s0]
    rw [if_pos (by rw [cn.2.2.2.2]; exact hnl)]
    simp only [pl_l, pl_b, pl_iT, pl_t, pl_f, a1, c1]
    rw [if_pos (by omega)]
    simp only [pl_l, pl_b, pl_iT, pl_t, pl_f, d1]
    rw [if_neg (by omega)]
    simp only [pl_l, pl_b, pl_iT, pl_t, pl_f, e1]
    rw [if_pos (show (1 : Int) ≠ 0 by decide)]
    simp only [pl_l, pl_b, pl_iT, pl_t, pl_f, i1]
    rw [if_neg (by omega)]
    simp only [pl_l, pl_b, pl_iT, pl_t, pl_f, j1]
    rw [if_pos (show (1 : Int) ≠ 0 by decide)]
    simp only [pl_l, pl_b, pl_iT, pl_t, pl_f, gx_1, gx_2, gx_3, gx_4, gx_113, gx_114, gx_115, gx_116, gx_212, gx_213, gx_224, gn_4, gn_114, gn_115, gn_116, gn_213, gn_224, lx_1_0 f6, lx_1_1 f6, lx_1_2 f6, lx_1_3 f6, lx_1_4 f6, lx_1_5 f6, lx_1_6 f6, lx_1_7 f6, lx_2_0 f6, lx_3_0 f6, lx_113_0 f6, lx_113_1 f6, lx_113_2 f6, lx_212_0 f6, lx_212_1 f6, e5, pl_ob s0, l5, pl_ib s6, q13, lo, pl_ob so, tl]
    rw [pl_i (by omega)]
    simp only [pl_l, pl_b, pl_iT, pl_t, pl_f, hb2, pl_ob s0, hb13]
    rw [pl_w (by omega)]
  · obtain ⟨⟨m1, m2, m3, m4, m5⟩, k1, k2, k3, ⟨o1, o2, o3⟩, k5, k6, k7⟩ := hZ
    refine ⟨⟨by rw [ra _ (by decide) (by decide) (by decide) (by decide)]; exact m1, by rw [ra _ (by decide) (by decide) (by decide) (by decide)]; exact m2, by rw [ra _ (by decide) (by decide) (by decide) (by decide)]; exact m3, by rw [ra _ (by decide) (by decide) (by decide) (by decide)]; exact m4, by rw [pu_r, if_pos rfl]⟩,
      k1.fr (fb 9 (by decide)) (fb 14 (by decide)) (fun a x y => ff a (by omega) (by omega) (by omega)) (by rw [ra _ (by decide) (by decide) (by decide) (by decide)]) (ra _ (by decide) (by decide) (by decide) (by decide)) (ra _ (by decide) (by decide) (by decide) (by decide)) (ra _ (by decide) (by decide) (by decide) (by decide)) (ra _ (by decide) (by decide) (by decide) (by decide)),
      k2.fr (fb 10 (by decide)) (fb 11 (by decide)) (ff _ (by omega) (by omega) (by omega)) (fun a x y => ff a (by omega) (by omega) (by omega)) (by rw [ra _ (by decide) (by decide) (by decide) (by decide)]; exact Int.le_refl _) (by rw [ra _ (by decide) (by decide) (by decide) (by decide)]) (by rw [ra _ (by decide) (by decide) (by decide) (by decide)]) (ra _ (by decide) (by decide) (by decide) (by decide)) (ra _ (by decide) (by decide) (by decide) (by decide)) (ra _ (by decide) (by decide) (by decide) (by decide)) (ra _ (by decide) (by decide) (by decide) (by decide)),
      k3.fr (fb 12 (by decide)) (fun a x y => ff a (by omega) (by omega) (by omega)) (by rw [ra _ (by decide) (by decide) (by decide) (by decide)]; exact Int.le_refl _) (by rw [ra _ (by decide) (by decide) (by decide) (by decide)]) (ra _ (by decide) (by decide) (by decide) (by decide)) (ra _ (by decide) (by decide) (by decide) (by decide)) (ra _ (by decide) (by decide) (by decide) (by decide)) (ra _ (by decide) (by decide) (by decide) (by decide)), ⟨?_, ?_, fun l x y => ?_⟩,
      k5.fr (ff _ (by omega) (by omega) (by omega)) (ra _ (by decide) (by decide) (by decide) (by decide)) (ra _ (by decide) (by decide) (by decide) (by decide)), k6.fr (by omega) (fun a x y => ff a (by omega) (by omega) (by omega)), fun x y z => by rw [ra _ (by decide) (by decide) (by decide) (by decide)]; exact k7 x y z⟩
    · rw [pu_r, if_pos rfl, pu_r, if_pos rfl]
    · rw [pu_r, if_pos rfl]; omega
    · rw [pu_r, if_pos rfl] at y
      rw [pu_a (show (388 : Int) ≠ 373 by decide), pu_a (show (388 : Int) ≠ 390 by decide), pu_a (show (388 : Int) ≠ 389 by decide), pu_a (show (389 : Int) ≠ 373 by decide), pu_a (show (389 : Int) ≠ 390 by decide), pu_a (show (390 : Int) ≠ 373 by decide), ra 369 (by decide) (by decide) (by decide) (by decide), pu_r, pu_r, pu_r, pu_a (show (389 : Int) ≠ 388 by decide), pu_a (show (390 : Int) ≠ 389 by decide), pu_a (show (390 : Int) ≠ 388 by decide)]
      by_cases e : l = nl
      · subst e
        rw [if_pos rfl, if_pos rfl, if_pos rfl, pu_a (by omega)]
        exact ⟨⟨by rw [q0']; omega, q1, q2, q3⟩, by omega, by omega⟩
      · rw [if_neg e, if_neg e, if_neg e, ff _ (by omega) (by omega) (by omega)]
        exact o3 l x (by omega)
theorem z_high (h : ad F T N p) (hb : aB b) (h21 : F 2 1 = b) (hZ : ZK b F B np nt na nh nl) (hnh : nh < 6) {i u d g : Int} (h3 : F 3 3 = q) (q0 : 0 ≤ q) (hi : 0 ≤ i ∧ i < na) (hu : 0 ≤ u ∧ u < 10000) (hd : 0 ≤ d ∧ d ≤ 999) (hg : d ≤ g ∧ g ≤ 999) (ht : atl T q ([32] ++ [97, 97 + i] ++ [32] ++ dg u ++ [32] ++ [102, 114, 111, 109] ++ [32] ++ dg d ++ [32] ++ [116, 111] ++ [32] ++ dg g ++ [59])) {m : Int} (hm : m = q + 15 + (dg u).length + (dg d).length + (dg g).length) (hN : m ≤ N) :
    ∃ F' B', pfX6_readHigh (pd_SH sT) 5000 F 2 = some (1, F') ∧ ad F' T N m ∧ wF b F F' ∧ ZK b F' B' np nt na (nh + 1) nl := by
  have b5 := aB_5 hb
  have c := hZ.bd
  have cn := hZ.cn
  obtain ⟨s0, -, -, -, -, s5, -⟩ := sh_b (sT := sT) hb
  have x1 : T (q) = 32 := atl_1 (ht.l.l.l.l.l.l.l.l.l.l.l.l)
  have x2 : atl T (q + 1) [97, 97 + i] := (atl.r (n := q + 1) (ht.l.l.l.l.l.l.l.l.l.l.l) (by simp only [List.length_append, List.length_cons, List.length_nil, wl81]; omega))
  have x3 : T (q + 1 + 2) = 32 := atl_1 (atl.r (n := q + 1 + 2) (ht.l.l.l.l.l.l.l.l.l.l) (by simp only [List.length_append, List.length_cons, List.length_nil, wl81]; omega))
  have x4 : atl T (q + 1 + 2 + 1) (dg u) := (atl.r (n := q + 1 + 2 + 1) (ht.l.l.l.l.l.l.l.l.l) (by simp only [List.length_append, List.length_cons, List.length_nil, wl81]; omega))
  have x5 : T (q + 1 + 2 + 1 + (dg u).length) = 32 := atl_1 (atl.r (n := q + 1 + 2 + 1 + (dg u).length) (ht.l.l.l.l.l.l.l.l) (by simp only [List.length_append, List.length_cons, List.length_nil, wl81]; omega))
  have x6 : atl T (q + 1 + 2 + 1 + (dg u).length + 1) [102, 114, 111, 109] := (atl.r (n := q + 1 + 2 + 1 + (dg u).length + 1) (ht.l.l.l.l.l.l.l) (by simp only [List.length_append, List.length_cons, List.length_nil, wl81]; omega))
  have x7 : T (q + 1 + 2 + 1 + (dg u).length + 1 + 4) = 32 := atl_1 (atl.r (n := q + 1 + 2 + 1 + (dg u).length + 1 + 4) (ht.l.l.l.l.l.l) (by simp only [List.length_append, List.length_cons, List.length_nil, wl81]; omega))
  have x8 : atl T (q + 1 + 2 + 1 + (dg u).length + 1 + 4 + 1) (dg d) := (atl.r (n := q + 1 + 2 + 1 + (dg u).length + 1 + 4 + 1) (ht.l.l.l.l.l) (by simp only [List.length_append, List.length_cons, List.length_nil, wl81]; omega))
  have x9 : T (q + 1 + 2 + 1 + (dg u).length + 1 + 4 + 1 + (dg d).length) = 32 := atl_1 (atl.r (n := q + 1 + 2 + 1 + (dg u).length + 1 + 4 + 1 + (dg d).length) (ht.l.l.l.l) (by simp only [List.length_append, List.length_cons, List.length_nil, wl81]; omega))
  have x10 : atl T (q + 1 + 2 + 1 + (dg u).length + 1 + 4 + 1 + (dg d).length + 1) [116, 111] := (atl.r (n := q + 1 + 2 + 1 + (dg u).length + 1 + 4 + 1 + (dg d).length + 1) (ht.l.l.l) (by simp only [List.length_append, List.length_cons, List.length_nil, wl81]; omega))
  have x11 : T (q + 1 + 2 + 1 + (dg u).length + 1 + 4 + 1 + (dg d).length + 1 + 2) = 32 := atl_1 (atl.r (n := q + 1 + 2 + 1 + (dg u).length + 1 + 4 + 1 + (dg d).length + 1 + 2) (ht.l.l) (by simp only [List.length_append, List.length_cons, List.length_nil, wl81]; omega))
  have x12 : atl T (q + 1 + 2 + 1 + (dg u).length + 1 + 4 + 1 + (dg d).length + 1 + 2 + 1) (dg g) := (atl.r (n := q + 1 + 2 + 1 + (dg u).length + 1 + 4 + 1 + (dg d).length + 1 + 2 + 1) (ht.l) (by simp only [List.length_append, List.length_cons, List.length_nil, wl81]; omega))
  have x13 : T (q + 1 + 2 + 1 + (dg u).length + 1 + 4 + 1 + (dg d).length + 1 + 2 + 1 + (dg g).length) = 59 := atl_1 (atl.r (n := q + 1 + 2 + 1 + (dg u).length + 1 + 4 + 1 + (dg d).length + 1 + 2 + 1 + (dg g).length) (ht) (by simp only [List.length_append, List.length_cons, List.length_nil, wl81]; omega))
  obtain ⟨F1, a1, a2, a3⟩ := h.adv (sT := sT) h3 (by omega)
  have Z1 := hZ.j hb a3
  obtain ⟨g1, g2, g3, -⟩ := a2.nm (by decide) (by omega) x1 x2 (m := q + 1 + 2) (by omega) ⟨by omega, Or.inl x3⟩
  obtain ⟨F2, c1, c2, c3⟩ := a2.told (sT := sT) (by rw [a3.1 2 (by decide)]; exact h21) hb (lo := 17) (hi := 27) ⟨g1, g2⟩ (by omega) ((z_find a2.1 hb Z1).2.2.1 i hi.1 hi.2 (by omega)) (by omega) g3 (by omega)
  obtain ⟨k1, k2, k3⟩ := c2.dg (v := u) (by omega) x3 x4 rfl ⟨by omega, Or.inl x5⟩
  obtain ⟨F3, d1, d2, d3⟩ := c2.take (sT := sT) (lo := 0) (hi := 9999999) ⟨k1, k2⟩ (by omega) k3 (by omega)
  obtain ⟨k4, k5, k6, -⟩ := d2.word (q := q + 1 + 2 + 1 + (dg u).length + 1) (Or.inr ⟨by omega, x5⟩) x6 (by unfold lets; decide) (by decide) ⟨by show _ + (4 : Int) < N; omega, Or.inl x7⟩
  obtain ⟨F4, e1, e2, e3⟩ := d2.pass (sT := sT) (w := 1718775661) ⟨k4, k5⟩ k6 (by show 0 ≤ _ + (4 : Int) ∧ _ + (4 : Int) ≤ N; omega)
  obtain ⟨k7, k8, k9⟩ := e2.dg (v := d) (by omega) x7 x8 rfl ⟨by show _ + (4 : Int) + 1 + _ < N; omega, Or.inl x9⟩
  obtain ⟨F5, i1, i2, i3⟩ := e2.take (sT := sT) (lo := 0) (hi := 999) ⟨k7, k8⟩ (by omega) k9 (by show 0 ≤ _ + (4 : Int) + 1 + _ ∧ _ + (4 : Int) + 1 + _ ≤ N; omega)
  obtain ⟨k12, k13, k14, -⟩ := i2.word (q := q + 1 + 2 + 1 + (dg u).length + 1 + 4 + 1 + (dg d).length + 1) (Or.inr ⟨rfl, x9⟩) x10 (by unfold lets; decide) (by decide) ⟨by show _ + (2 : Int) < N; omega, Or.inl x11⟩
  obtain ⟨F6, n1, n2, n3⟩ := i2.pass (sT := sT) (w := 29807) ⟨k12, k13⟩ k14 (by show 0 ≤ _ + (2 : Int) ∧ _ + (2 : Int) ≤ N; omega)
  obtain ⟨k15, k16, k17⟩ := n2.dg (v := g) (by omega) x11 x12 rfl ⟨by show _ + (2 : Int) + 1 + _ < N; omega, Or.inr x13⟩
  obtain ⟨F7, r1, r2, r3⟩ := n2.take (sT := sT) (lo := d) (hi := 999) ⟨k15, k16⟩ (by omega) k17 (by show 0 ≤ _ + (2 : Int) + 1 + _ ∧ _ + (2 : Int) + 1 + _ ≤ N; omega)
  obtain ⟨k10, k11⟩ := r2.semi (by show _ + (2 : Int) + 1 + _ < N; omega) x13
  obtain ⟨F8, j1, j2, j3⟩ := r2.passEnd (sT := sT) (q := m) k10 (by rw [k11]; show _ + (2 : Int) + 1 + _ + 1 = m; omega) (by omega)
  have zz := ((((((a3.tr c3).tr d3).tr e3).tr i3).tr n3).tr r3).tr j3
  have h1 := h.1
  have f6 := j2.1
  have e5 : F8 2 1 = b := by rw [zz.1 2 (by decide)]; exact h21
  have l5 : F8 b 4 = b + 5 := (ly_b f6 hb).2.2.2.2.1
  obtain ⟨lo, so⟩ := fy_h (sT := sT) f6 hb (i := nh) (by omega) (by omega)
  have q13 : F8 b 12 = nh := by rw [zz.1 b (by omega)]; exact cn.2.2.2.1
  obtain ⟨tl, gl⟩ := c_dated (sT := sT) f6 (c := b + 94 + nh) (v0 := 17 + i - 17) (v1 := u) (v2 := d) (v3 := g) so
  generalize hH : pd_up (pd_up (pd_up (pd_up F8 (b + 94 + nh) 0 (17 + i - 17)) (b + 94 + nh) 1 u) (b + 94 + nh) 2 d) (b + 94 + nh) 3 g = H at tl gl
  obtain ⟨q0', q1, q2, q3, q4⟩ := d_4 hH.symm
  have hb2 : H 2 1 = b := by rw [q4 2 (by omega)]; exact e5
  have hb13 : H b 12 = nh := by rw [q4 b (by omega)]; exact q13
  have gf : pd_Ly (pd_up H b 12 (nh + 1)) := gl.up (pl_rc4 s0 (by decide))
  have ff : ∀ a, a ≠ 3 → a ≠ b → a ≠ b + 94 + nh → pd_up H b 12 (nh + 1) a = F a := fun a y z w => by rw [pu_a z, q4 a w]; exact zz.1 a y
  have fb : ∀ j, j ≠ 12 → pd_up H b 12 (nh + 1) b j = F b j := fun j x => by rw [pu_r, if_neg x, q4 b (by omega), zz.1 b (by omega)]
  obtain ⟨B', hB'⟩ : ∃ B', pd_up (pd_up (pd_up (pd_up (pd_up B 384 nh i) 385 nh u) 386 nh d) 387 nh g) 372 0 (nh + 1) = B' := ⟨_, rfl⟩
  have ra : ∀ a, a ≠ 372 → a ≠ 384 → a ≠ 385 → a ≠ 386 → a ≠ 387 → B' a = B a := fun a x y z w v => by rw [← hB', pu_a x, pu_a v, pu_a w, pu_a z, pu_a y]
  have r372 : B' 372 0 = nh + 1 := by rw [← hB', pu_r, if_pos rfl]
  have r384 : ∀ j, B' 384 j = if j = nh then i else B 384 j := fun j => by rw [← hB', pu_a (by decide), pu_a (by decide), pu_a (by decide), pu_a (by decide), pu_r]
  have r385 : ∀ j, B' 385 j = if j = nh then u else B 385 j := fun j => by rw [← hB', pu_a (by decide), pu_a (by decide), pu_a (by decide), pu_r, pu_a (by decide)]
  have r386 : ∀ j, B' 386 j = if j = nh then d else B 386 j := fun j => by rw [← hB', pu_a (by decide), pu_a (by decide), pu_r, pu_a (by decide), pu_a (by decide)]
  have r387 : ∀ j, B' 387 j = if j = nh then g else B 387 j := fun j => by rw [← hB', pu_a (by decide), pu_r, pu_a (by decide), pu_a (by decide), pu_a (by decide)]
  have rr : ∀ a, (a ≤ 371 ∨ (373 ≤ a ∧ a ≤ 383) ∨ 388 ≤ a) → B' a = B a := fun a x => ra a (by omega) (by omega) (by omega) (by omega) (by omega)
  refine ⟨pd_up H b 12 (nh + 1), B', ?_, j2.up gf (by rw [pu_a (by omega), q4 3 (by omega)]) (by rw [pu_a (by omega), q4 4 (by omega)]), ⟨fun a x y => ff a x (by omega) (by omega), fun j x => by rw [pu_a (by omega), q4 3 (by omega)]; exact zz.2 j x⟩, ?_⟩
  · unfold pfX6_readHigh
    simp only [pl_l, pl_b, pl_iT, pl_t, pl_f, gx_1, gx_2, gx_3, gx_4, gx_113, gx_114, gx_115, gx_116, gx_212, gx_213, gx_224, gn_4, gn_114, gn_115, gn_116, gn_213, gn_224, lx_1_0 h1, lx_1_1 h1, lx_1_2 h1, lx_1_3 h1, lx_1_4 h1, lx_1_5 h1, lx_1_6 h1, lx_1_7 h1, lx_2_0 h1, lx_3_0 h1, lx_113_0 h1, lx_113_1 h1, lx_113_2 h1, lx_212_0 h1, lx_212_1 h1, h21, pl_ob s0]
    rw [if_pos (by rw [cn.2.2.2.1]; exact hnh)]
    simp only [pl_l, pl_b, pl_iT, pl_t, pl_f, a1, c1]
    rw [if_pos (by omega)]
    simp only [pl_l, pl_b, pl_iT, pl_t, pl_f, d1]
    rw [if_neg (by omega)]
    simp only [pl_l, pl_b, pl_iT, pl_t, pl_f, e1]
    rw [if_pos (show (1 : Int) ≠ 0 by decide)]
    simp only [pl_l, pl_b, pl_iT, pl_t, pl_f, i1]
    rw [if_neg (by omega)]
    simp only [pl_l, pl_b, pl_iT, pl_t, pl_f, n1]
    rw [if_pos (show (1 : Int) ≠ 0 by decide)]
    simp only [pl_l, pl_b, pl_iT, pl_t, pl_f, r1]
    rw [if_neg (by omega)]
    simp only [pl_l, pl_b, pl_iT, pl_t, pl_f, j1]
    rw [if_pos (show (1 : Int) ≠ 0 by decide)]
    simp only [pl_l, pl_b, pl_iT, pl_t, pl_f, gx_1, gx_2, gx_3, gx_4, gx_113, gx_114, gx_115, gx_116, gx_212, gx_213, gx_224, gn_4, gn_114, gn_115, gn_116, gn_213, gn_224, lx_1_0 f6, lx_1_1 f6, lx_1_2 f6, lx_1_3 f6, lx_1_4 f6, lx_1_5 f6, lx_1_6 f6, lx_1_7 f6, lx_2_0 f6, lx_3_0 f6, lx_113_0 f6, lx_113_1 f6, lx_113_2 f6, lx_212_0 f6, lx_212_1 f6, e5, pl_ob s0, l5, pl_ib s5, q13, lo, pl_ob so, tl]
    rw [pl_i (by omega)]
    simp only [pl_l, pl_b, pl_iT, pl_t, pl_f, hb2, pl_ob s0, hb13]
    rw [pl_w (by omega)]
  · obtain ⟨⟨m1, m2, m3, m4, m5⟩, k1, k2, ⟨o1, o2, o3⟩, k4, k5, k6, k7⟩ := hZ
    refine ⟨⟨by rw [rr _ (by decide)]; exact m1, by rw [rr _ (by decide)]; exact m2, by rw [rr _ (by decide)]; exact m3, r372, by rw [rr _ (by decide)]; exact m5⟩,
      k1.fr (fb 9 (by decide)) (fb 14 (by decide)) (fun a x y => ff a (by omega) (by omega) (by omega)) (by rw [rr _ (by decide)]) (rr _ (by decide)) (rr _ (by decide)) (rr _ (by decide)) (rr _ (by decide)),
      k2.fr (fb 10 (by decide)) (fb 11 (by decide)) (ff _ (by omega) (by omega) (by omega)) (fun a x y => ff a (by omega) (by omega) (by omega)) (by rw [rr _ (by decide)]; exact Int.le_refl _) (by rw [rr _ (by decide)]) (by rw [rr _ (by decide)]) (rr _ (by decide)) (rr _ (by decide)) (rr _ (by decide)) (rr _ (by decide)),
      ⟨by rw [r372, pu_r, if_pos rfl], by rw [r372]; omega, fun l x y => ?_⟩,
      k4.fr (fb 13 (by decide)) (fun a x y => ff a (by omega) (by omega) (by omega)) (by rw [rr _ (by decide)]; exact Int.le_refl _) (by rw [rr _ (by decide)]) (rr _ (by decide)) (rr _ (by decide)) (rr _ (by decide)),
      k5.fr (ff _ (by omega) (by omega) (by omega)) (rr _ (by decide)) (rr _ (by decide)), k6.fr (by omega) (fun a x y => ff a (by omega) (by omega) (by omega)), fun x y z => by rw [rr _ (by decide)]; exact k7 x y z⟩
    rw [r372] at y
    rw [r384, r385, r386, r387, rr 371 (by decide)]
    by_cases e : l = nh
    · subst e
      rw [if_pos rfl, if_pos rfl, if_pos rfl, if_pos rfl, pu_a (by omega)]
      exact ⟨⟨by rw [q0']; omega, q1, q2, q3⟩, by omega, by omega, by omega, by omega⟩
    · rw [if_neg e, if_neg e, if_neg e, if_neg e, ff _ (by omega) (by omega) (by omega)]
      exact o3 l x (by omega)
end ZL

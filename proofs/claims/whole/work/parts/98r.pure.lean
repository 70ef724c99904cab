/-! books alike: what is reckoned of one is reckoned of the other -/
def eB (B D : pd_F) : Prop := (D 369 0 = B 369 0 ∧ D 370 0 = B 370 0 ∧ D 371 0 = B 371 0 ∧ D 372 0 = B 372 0 ∧ D 373 0 = B 373 0) ∧ (∀ p, 0 ≤ p → p < 12 → D 374 p = B 374 p ∧ D 375 p = B 375 p ∧ D 377 p = B 377 p) ∧ (∀ j, 0 ≤ j → j < 36 → D 376 j = B 376 j) ∧ (∀ l, 0 ≤ l → l < 15 → D 381 l = B 381 l) ∧
  (∀ j, 0 ≤ j → j < 75 → D 382 j = B 382 j ∧ D 383 j = B 383 j) ∧ (∀ h, 0 ≤ h → h < 6 → D 384 h = B 384 h ∧ D 385 h = B 385 h ∧ D 386 h = B 386 h ∧ D 387 h = B 387 h) ∧ ∀ l, 0 ≤ l → l < 8 → D 388 l = B 388 l ∧ D 389 l = B 389 l ∧ D 390 l = B 390 l
section EB
variable {B D F : pd_F} {s : Int → Int} {b : Int}
theorem eB.fit (e : eB B D) (h : bOk B) : (∀ l j, Ls (B 370 0) (B 371 0) l → j ≤ B 381 l → lW (D 383) l j = lW (B 383) l j) ∧ ∀ (k : Nat) (l : Int), Ls (B 370 0) (B 371 0) l → (lFl (D 381) (D 382) (D 383) k l ↔ lFl (B 381) (B 382) (B 383) k l) ∧ lDp (D 381) (D 382) k l = lDp (B 381) (B 382) k l ∧ (∀ p, lWy (D 381) (D 382) k l p = lWy (B 381) (B 382) k l p) ∧ ∀ a p, lGv (D 381) (D 382) (D 383) k l a p = lGv (B 381) (B 382) (B 383) k l a p := by
  obtain ⟨-, n1, -, n3, -, n5, h1, h2⟩ := h.1
  refine l_fit (np := B 369 0) n1 h1 h2 (fun l y => ?_) (fun l i y x0 x1 => ?_)
  · unfold Ls at y
    exact e.2.2.2.1 l (by omega) (by omega)
  · unfold Ls at y
    exact e.2.2.2.2.1 (5 * l + i) (by omega) (by omega)
theorem eB.list (e : eB B D) (h : bOk B) {np l nt : Int} (y : Ls (B 370 0) (B 371 0) l) (o : lOk np (B 381) (B 382) (B 383) l nt) : lOk np (D 381) (D 382) (D 383) l nt := by
  obtain ⟨-, n1, -, n3, -, n5, h1, h2⟩ := h.1
  unfold Ls at y
  have o5 := o.2.1
  unfold lOk
  rw [e.2.2.2.1 l (by omega) (by omega)]
  refine ⟨o.1, o.2.1, fun i x0 x1 => ?_⟩
  obtain ⟨q1, q2⟩ := e.2.2.2.2.1 (5 * l + i) (by omega) (by omega)
  rw [q1, q2]
  exact o.2.2 i x0 x1
theorem eB.ok (e : eB B D) (h : bOk B) : bOk D := by
  obtain ⟨⟨n0, n1, n2, n3, n4, n5, t1, t2⟩, h2, h3, h4, h5, h6, h7⟩ := id h
  obtain ⟨⟨c1, c2, c3, c4, c5⟩, e1, e2, e3, e4, e5, e6⟩ := id e
  unfold bOk lWf
  rw [c1, c2, c3, c4, c5]
  refine ⟨⟨n0, n1, n2, n3, n4, n5, fun t x y => e.list h (Or.inl ⟨x, y⟩) (t1 t x y), fun a x y => e.list h (Or.inr (by omega)) (t2 a x y)⟩, fun p x y => ?_, h3, h4, fun k x y => ?_, fun l x y => ?_, fun p x y => ?_⟩
  · rw [(e1 p x (by omega)).2.1]; exact h2 p x y
  · obtain ⟨q1, q2, -, -⟩ := e5 k x (by omega)
    rw [q1, q2]; exact h5 k x y
  · obtain ⟨q1, q2, -⟩ := e6 l x (by omega)
    rw [q1, q2]; exact h6 l x y
  · rw [(e1 p x (by omega)).2.2]; exact h7 p x y
theorem eB.dk (e : eB B D) (h : bOk B) (k : dOk B) : dOk D := fun t x y => by
  have n := h.2.2.1.2
  rw [e.1.2.2.2.1] at y
  obtain ⟨-, -, q1, q2⟩ := e.2.2.2.2.2.1 t x (by omega)
  rw [q1, q2]
  exact k t x y
theorem eB.hk (e : eB B D) (h : bOk B) {q m : Int} (x : 0 ≤ q) (y : q < B 369 0) : Hk (D 375) (D 376) q m ↔ Hk (B 375) (B 376) q m := by
  have n1 := h.1.2.1
  have c := h.2.1 q x y
  unfold Hk
  rw [(e.2.1 q x (by omega)).2.1]
  constructor
  · rintro ⟨i, u, v, w⟩
    rw [e.2.2.1 _ (by omega) (by omega)] at w
    exact ⟨i, u, v, w⟩
  · rintro ⟨i, u, v, w⟩
    refine ⟨i, u, v, ?_⟩
    rw [e.2.2.1 _ (by omega) (by omega)]
    exact w
theorem eB.mk (e : eB B D) (h : bOk B) {m : Int} : isMk D m ↔ isMk B m := by
  unfold isMk
  rw [e.1.1]
  exact ⟨fun ⟨p, x, y, z⟩ => ⟨p, x, y, (e.hk h x y).mp z⟩, fun ⟨p, x, y, z⟩ => ⟨p, x, y, (e.hk h x y).mpr z⟩⟩
theorem eB.kb (e : eB B D) (h : bOk B) (k : kB B F b) : kB D F b := by
  obtain ⟨n0, n1, n2, n3, n4, n5, t1, t2⟩ := h.1
  obtain ⟨c1, c2, c3, c4, c5⟩ := e.1
  obtain ⟨k1, k2, k3, k4, k5, k6, k7, k8, k9, k10, k11⟩ := k
  obtain ⟨f1, f2⟩ := e.fit h
  have gg : ∀ l m, Ls (B 370 0) (B 371 0) l → lOk (B 369 0) (B 381) (B 382) (B 383) l m → kG B F b l → kG D F b l := fun l m y o g => by
    obtain ⟨d1, d2, d3, -⟩ := f2 8 l y
    have o5 := o.2.1
    have el : D 381 l = B 381 l := e.2.2.2.1 l (by unfold Ls at y; omega) (by unfold Ls at y; omega)
    obtain ⟨g1, g2, g3, g4, g5, g6⟩ := g
    unfold kG
    rw [el, f1 l _ y (Int.le_refl _), ci_c d1, d2]
    refine ⟨g1, g2, g3, g4, fun p x0 x1 => by rw [d3]; exact g5 p x0 x1, fun i x0 x1 => ?_⟩
    obtain ⟨q1, q2⟩ := e.2.2.2.2.1 (5 * l + i) (by unfold Ls at y; omega) (by unfold Ls at y; omega)
    rw [q1, q2]
    exact g6 i x0 x1
  unfold kB
  rw [c1, c2, c3, c4, c5]
  refine ⟨k1, k2, k3, k4, k5, fun p x y => ?_, fun t x y => gg t t (Or.inl ⟨x, y⟩) (t1 t x y) (k7 t x y), fun a x y => gg (5 + a) (B 370 0) (Or.inr (by omega)) (t2 a x y) (k8 a x y), fun t x y => ?_, fun t x y => ?_, ?_⟩
  · have c := h.2.1 p x y
    obtain ⟨q1, q2, q3⟩ := e.2.1 p x (by omega)
    obtain ⟨m1, m2, m3, m4⟩ := k6 p x y
    unfold kP
    rw [q1, q2, q3]
    refine ⟨m1, fun i x0 x1 => ?_, m3, m4⟩
    rw [e.2.2.1 _ (by omega) (by omega)]
    exact m2 i x0 x1
  · have c := h.2.2.1.2
    obtain ⟨q1, q2, q3, q4⟩ := e.2.2.2.2.2.1 t x (by omega)
    rw [q1, q2, q3, q4]
    exact k9 t x y
  · have c := h.2.2.2.1.2
    obtain ⟨q1, q2, q3⟩ := e.2.2.2.2.2.2 t x (by omega)
    rw [q1, q2, q3]
    exact k10 t x y
  · obtain ⟨m1, m2, m3, m4, m5⟩ := k11
    refine ⟨m1, m2, fun i x y => (e.mk h).mpr (m3 i x y), fun m hm => m4 m ((e.mk h).mp hm), fun i x y => ?_⟩
    rw [c1]
    exact bR_c (m5 i x y) fun q x0 _ => ⟨fun z => ⟨z.1, (e.hk h x0 z.1).mpr z.2⟩, fun z => ⟨z.1, (e.hk h x0 z.1).mp z.2⟩⟩
theorem eB.sr (e : eB B D) {st : Int} (h : sR B F b st s) : sR D F b st s := by
  unfold sR aOk jOk at h ⊢
  rw [e.1.1, e.1.2.2.1]
  exact h
theorem eB.bs (e : eB B D) (h : bOk B) {x y : Int} (x0 : 0 ≤ x) (x1 : x < B 369 0) (y0 : 0 ≤ y) (y1 : y < B 369 0) : Bs (D 375) (D 376) s x y ↔ Bs (B 375) (B 376) s x y := by
  have n1 := h.1.2.1
  have c := h.2.1 x x0 x1
  unfold Bs Hm
  refine and_congr Iff.rfl (or_congr ?_ Iff.rfl)
  rw [(e.2.1 x x0 (by omega)).2.1]
  constructor
  · rintro ⟨i, u, v, w, z⟩
    rw [e.2.2.1 (3 * x + i) (by omega) (by omega)] at w z
    exact ⟨i, u, v, (e.hk h y0 y1).mp w, z⟩
  · rintro ⟨i, u, v, w, z⟩
    refine ⟨i, u, v, ?_, ?_⟩
    · rw [e.2.2.1 (3 * x + i) (by omega) (by omega)]; exact (e.hk h y0 y1).mpr w
    · rw [e.2.2.1 (3 * x + i) (by omega) (by omega)]; exact z
theorem eB.dn (e : eB B D) (h : bOk B) : dn (D 369 0) (sC D s) (D 369 0).toNat = dn (B 369 0) (sC B s) (B 369 0).toNat := by
  have n0 := h.1.1
  rw [e.1.1]
  refine dn_congr (fun p q a c d f => ?_) _ (by omega)
  unfold sC
  rw [e.1.1]
  exact Rk_congr ⟨a, c⟩ (fun x y x0 x1 y0 y1 => e.bs h x0 x1 y0 y1)
theorem eB.sn (e : eB B D) (h : bOk B) (p : Int) : sN D s p = sN B s p := by
  unfold sN DN
  rw [e.dn h]
theorem eB.sd (e : eB B D) (h : bOk B) : sD D s = sD B s := by
  unfold sD DC
  rw [e.dn h]
theorem eB.ga (e : eB B D) (h : bOk B) {a : Int} (a0 : 0 ≤ a) (a1 : a < B 371 0) (p : Int) : gA D s a p = gA B s a p := by
  obtain ⟨d1, -, -, d4⟩ := (e.fit h).2 8 (5 + a) (Or.inr (by omega))
  unfold gA
  rw [ci_c d1, d4]
theorem eB.gh (e : eB B D) (h : bOk B) {t : Int} (t0 : 0 ≤ t) (t1 : t < B 372 0) (p : Int) : gH D s t p = gH B s t p := by
  have n := h.2.2.1.2
  have c := (h.2.2.2.2.1 t t0 t1).1
  obtain ⟨q1, q2, -, -⟩ := e.2.2.2.2.2.1 t t0 (by omega)
  obtain ⟨d1, -, -, d4⟩ := (e.fit h).2 8 (5 + B 384 t) (Or.inr (by omega))
  unfold gH
  rw [q1, q2, ci_c d1, d4]
theorem eB.has (e : eB B D) (h : bOk B) (d : Int) : sHas D s d = sHas B s d := by
  unfold sHas sG
  rw [e.1.1, e.1.2.2.1]
  refine Sm_congr fun p _ _ => ?_
  rw [e.sn h, Sm_congr (f := fun a => gA D s a p) (g := fun a => gA B s a p) (fun a u v => e.ga h u v p)]
theorem eB.hi (e : eB B D) (h : bOk B) (d : Int) : sHi D s d = sHi B s d := by
  have n := h.2.2.1.2
  unfold sHi sHg
  rw [e.1.1, e.1.2.2.2.1]
  refine Sm_congr fun p _ _ => ?_
  rw [e.sn h, Sm_congr (f := fun t => gT D s t p) (g := fun t => gT B s t p) (fun t u v => ?_)]
  obtain ⟨-, -, q1, q2⟩ := e.2.2.2.2.2.1 t u (by omega)
  unfold gT
  rw [e.gh h u v, q1, q2]
theorem eB.ow (e : eB B D) (h : bOk B) (d : Int) : sOw D s d = sOw B s d := by
  have n := h.2.2.2.1.2
  unfold sOw
  rw [e.1.2.2.2.2]
  refine Sm_congr fun l x y => ?_
  obtain ⟨q1, q2, q3⟩ := e.2.2.2.2.2.2 l x (by omega)
  unfold oT
  rw [q1, q2, q3, e.sn h]
theorem eB.ci (e : eB B D) (h : bOk B) (d : Int) : cI D s d = cI B s d := by
  have n1 := h.1.2.1
  unfold cI
  refine ci_c ?_
  unfold sIn
  rw [e.1.1]
  constructor
  · rintro ⟨p, x, y, z, w⟩
    rw [(e.2.1 p x (by omega)).2.2] at z
    rw [e.sn h] at w
    exact ⟨p, x, y, z, w⟩
  · rintro ⟨p, x, y, z, w⟩
    refine ⟨p, x, y, ?_, ?_⟩
    · rw [(e.2.1 p x (by omega)).2.2]; exact z
    · rw [e.sn h]; exact w
theorem eB.rd (e : eB B D) (h : bOk B) (r : rD B s F) : rD D s F := by
  obtain ⟨⟨p1, p2⟩, ⟨v1, v2, v3⟩, r3, r4, r5⟩ := r
  obtain ⟨c1, c2, c3, c4, c5⟩ := e.1
  unfold rD hP kV
  rw [c1, c3, c4, e.sd h]
  refine ⟨⟨fun a p x y z w => by rw [e.ga h x y]; exact p1 a p x y z w, fun t p x y z w => by rw [e.gh h x y]; exact p2 t p x y z w⟩, ⟨v1, v2, fun d x y => by rw [e.has h, e.ow h, e.hi h, e.ci h]; exact v3 d x y⟩, fun p x y => by rw [e.sn h]; exact r3 p x y, fun d x y => bR_c (r4 d x y) fun q x0 _ => by rw [e.sn h], ?_⟩
  rcases r5 with r5 | r5
  · exact Or.inl r5
  · refine Or.inr (nR_c r5 fun p q _ _ _ _ => or_congr Iff.rfl ⟨fun ⟨w1, w2, w3⟩ => ⟨w1, w2, (e.bs h w1.1 w1.2 w2.1 w2.2).mpr w3⟩, fun ⟨w1, w2, w3⟩ => ⟨w1, w2, (e.bs h w1.1 w1.2 w2.1 w2.2).mp w3⟩⟩)
/-- another heap, another book alike -/
theorem cS.mv {G : pd_F} (h : cS B s F) (e : eB B D) (hG : pd_Ly G) (y1 : G 1 = F 1) (y : ∀ a, (F 1 8 ≤ a ∧ a ≤ F 1 8 + 107) ∨ (214 ≤ a ∧ a ≤ 244) → G a = F a) : cS D s G := by
  obtain ⟨h1, h2, h3, h4, h5, h6, h7, h8, h9, h10⟩ := h
  have hb := aB_out h2
  have n5 := h3.1.2.2.2.2.2.1
  have n7 := h3.2.2.1.2
  have kk : kV B s 236 G := by
    unfold kV
    rw [y 236 (by omega), y (236 + 1) (by omega), y (236 + 5) (by omega), y (236 + 6) (by omega), y (236 + 7) (by omega), y (236 + 8) (by omega)]
    exact h7
  have rr : rD B s G := by
    unfold rD
    rw [y 239 (by omega), y 240 (by omega), y 238 (by omega)]
    exact ⟨⟨fun a p x z u w => by rw [y _ (by omega)]; exact h6.1 a p x z u w, fun a p x z u w => by rw [y _ (by omega)]; exact h6.2 a p x z u w⟩, kk, h8, h9, h10⟩
  unfold cS
  rw [y1]
  exact ⟨hG, h2, e.ok h3, e.kb h3 (h4.fr h2 h3 (fun a x z => y a (by omega))), e.sr (sR_fr h5 ⟨y _ (by omega), y _ (by omega)⟩ (fun a x z => y a (by omega))), e.rd h3 rr⟩
theorem cH.mv {u : Int} {R : Int → Int → Int} {K : Int → Int} {KR : Int → Int → Int} {G : pd_F} (h : cH B F u R K KR) (e : eB B D) (hb : aB (F 1 8)) (y1 : G 1 = F 1) (y : ∀ a, (F 1 8 ≤ a ∧ a ≤ F 1 8 + 107) ∨ (113 ≤ a ∧ a ≤ 211) → G a = F a) : cH D G u R K KR := by
  have hb' := aB_out hb
  unfold cH
  rw [y 113 (by omega), y 116 (by omega), y1]
  obtain ⟨h1, h2, h3, h4, h5⟩ := h
  have eb : G (F 1 8) = F (F 1 8) ∧ G (F 1 8 + 8) = F (F 1 8 + 8) := ⟨y _ (by omega), y _ (by omega)⟩
  refine ⟨h1, h2, h3, fun j x z => e.sr (sR_fr (h4 j x z) eb (fun a v w => y a ?_)), fun k x z => ⟨(h5 k x z).1, fun q => e.sr (sR_fr ((h5 k x z).2 q) eb (fun a v w => y a (by omega)))⟩⟩
  unfold slt at v w
  omega
theorem Kf.ok (h : Kf b F B) : bOk B ∧ kB B F b ∧ dOk B := by
  obtain ⟨⟨p1, p2, p3, p4, p5⟩, ⟨⟨t1, t2⟩, ⟨a1, a2⟩, l1, l2⟩, ⟨h1, h2, h3⟩, ⟨o1, o2, o3⟩, st⟩ := h
  refine ⟨⟨⟨p2.1, p2.2, t2.1, t2.2, a2.1, a2.2, fun t x y => (l1 t x y).2, fun a x y => (l2 a x y).2.1⟩, fun p x y => (p3 p x y).2.1, h2, o2, fun t x y => ⟨(h3 t x y).2.1, (h3 t x y).2.2.1⟩, fun t x y => ⟨(o3 t x y).2.1, (o3 t x y).2.2⟩, fun p x y => (p3 p x y).2.2⟩,
    ⟨p1, t1, a1, h1, o1, fun p x y => (p3 p x y).1, fun t x y => (l1 t x y).1, fun a x y => (l2 a x y).1, fun t x y => (h3 t x y).1, fun t x y => (o3 t x y).1, p4⟩, fun t x y => ⟨(h3 t x y).2.2.2.1, (h3 t x y).2.2.2.2⟩⟩
end EB
/-- the class with a new book -/
theorem c_bookOk {D F F' : pd_F} {b n N : Int} {s : Int → Int} (hL : pd_Ly F') (hn : 0 ≤ n ∧ n ≤ F 3 1) (f0 : pd_Ly F) (hr : pfX6_read pd_SH 5000 F 2 n = some (N, F')) (hN : 1 ≤ N) (hb : aB b) (h21 : F' 2 1 = b) (hb0 : aB (F' 1 8)) (hne : F' 1 8 ≠ b) (hD : bOk D) (hk : kB D F' b)
    (hs : aOk D s ∧ s 70 = 0 ∧ s 110 = 0 ∧ (0 ≤ s 71 ∧ s 71 ≤ 999) ∧ (∀ a, 0 ≤ a → a < D 371 0 → F' (b + 4) a = s a) ∧ ∀ w, 0 ≤ w → w < 3 → F' (b + 7) w = s (71 + w)) (h113 : 0 ≤ F' 113 3 ∧ F' 113 3 ≤ 16) :
    ∃ F1, pfX11_book pd_SH 5000 F 1 n = some (N, F1) ∧ pd_Ly F1 ∧ cS D s F1 ∧ F1 1 8 = b ∧ F1 1 9 = 1 ∧ F1 2 1 = F' 1 8 ∧ F1 3 1 = 0 ∧ F1 113 4 = 0 ∧ (0 ≤ F1 113 3 ∧ F1 113 3 ≤ 16) ∧ (∀ k, 0 ≤ k → k < 3 → F1 116 k = 0) ∧ ∀ a, 367 ≤ a → F1 a = F' a := by
  have b5 := aB_5 hb
  have bb : (b < 231 ∨ 235 < b) ∧ (b + 107 < 113 ∨ 244 < b) := by rcases hb with rfl | rfl <;> decide
  have b05 := aB_5 hb0
  obtain ⟨P, hP⟩ : ∃ P, pd_up (pd_up (pd_up (pd_up F' 3 1 0) 2 1 (F' 1 8)) 1 8 b) 1 9 1 = P := ⟨_, rfl⟩
  have u1 : pd_Ly (pd_up F' 3 1 0) := hL.up (pl_rc4 sx_3 (by decide))
  have u2 : pd_Ly (pd_up (pd_up F' 3 1 0) 2 1 (F' 1 8)) := u1.up (pl_rc4 sx_2 (by decide))
  have u3 : pd_Ly (pd_up (pd_up (pd_up F' 3 1 0) 2 1 (F' 1 8)) 1 8 b) := u2.up (pl_rc4 sx_1 (by decide))
  have uP : pd_Ly P := by rw [← hP]; exact u3.up (pl_rc4 sx_1 (by decide))
  have pa : ∀ a, a ≠ 1 → a ≠ 2 → a ≠ 3 → P a = F' a := fun a x y z => by rw [← hP, pu_a x, pu_a x, pu_a y, pu_a z]
  have p18 : P 1 8 = b := by rw [← hP, pu_r, if_neg (by decide), pu_r, if_pos rfl]
  have p19 : P 1 9 = 1 := by rw [← hP, pu_r, if_pos rfl]
  have p21 : P 2 1 = F' 1 8 := by rw [← hP, pu_a (by decide), pu_a (by decide), pu_r, if_pos rfl]
  have p31 : P 3 1 = 0 := by rw [← hP, pu_a (by decide), pu_a (by decide), pu_a (by decide), pu_r, if_pos rfl]
  obtain ⟨Q, q1, q2, q3, q4, q5, q6, q7⟩ := c_begin uP (d := 231) (b := b) aS_now hb
  obtain ⟨R, r1, r2, r3, r4, r5⟩ := c_forget q2
  have rb : ∀ a, (a < 231 ∨ 235 < a) → a ≠ 113 → a ≠ 116 → R a = P a := fun a x y z => by rw [r3 a y z, q3 a (by omega)]
  have kR : kB D R b := hk.fr hb hD (fun a x y => by rw [rb a (by omega) (by omega) (by omega), pa a (by omega) (by omega) (by omega)])
  have R18 : R 1 8 = b := by rw [rb 1 (by decide) (by decide) (by decide)]; exact p18
  have nO : ∀ m, ¬ Ou s m := fun m ⟨i, x, y, _⟩ => by omega
  have e232 : ∀ i, 0 ≤ i → i < 10 → R 232 i = F' (b + 4) i := fun i x y => by rw [r3 232 (by decide) (by decide)]; exact (q6 i x y).trans (by rw [pa _ (by omega) (by omega) (by omega)])
  have e233 : ∀ w, 0 ≤ w → w < 3 → R 233 w = s (71 + w) := fun w x y => by rw [r3 233 (by decide) (by decide)]; exact (q7 w x y).trans (by rw [pa _ (by omega) (by omega) (by omega)]; exact hs.2.2.2.2.2 w x y)
  have e4 : R 231 4 = 0 := by rw [r3 231 (by decide) (by decide)]; exact q4
  have e5 : R 231 5 = 0 := by rw [r3 231 (by decide) (by decide)]; exact q5
  have n5 := hD.1.2.2.2.2.2.1
  have sRR : sR D R b 231 s := by
    refine ⟨hs.1, fun k x y => by have := hs.2.1; omega, fun i j x y => by have := hs.2.2.1; omega, hs.2.2.2.1, fun m w => absurd w (nO m), fun a x y => (e232 a x (by omega)).trans (hs.2.2.2.2.1 a x y), ⟨e233 0 (by decide) (by decide), e233 1 (by decide) (by decide), e233 2 (by decide) (by decide)⟩, by rw [e4, hs.2.1], fun k x y => by have := hs.2.1; omega, by rw [e5]; unfold lR; omega, fun i x y => ?_, ?_⟩
    · rw [e5]
      exact ⟨fun w => absurd w (tb_0 i), fun w => absurd w.2 (nO _)⟩
    · rw [hs.2.2.1, Sm_zero]
      intro i _ _
      rw [e5, ci_f (tb_0 i)]
  obtain ⟨F1, c1, c2, c3, c4⟩ := c_refresh hD hb r2 R18 kR sRR
  have fr : ∀ a, (a < 214 ∨ 244 < a) → a ≠ 113 → a ≠ 116 → F1 a = P a := fun a x y z => by rw [c3 a (by omega), rb a (by omega) y z]
  have F118 : F1 1 8 = b := by rw [fr 1 (by decide) (by decide) (by decide)]; exact p18
  refine ⟨F1, ?_, c2, ?_, F118, by rw [fr 1 (by decide) (by decide) (by decide)]; exact p19, by rw [fr 2 (by decide) (by decide) (by decide)]; exact p21, by rw [fr 3 (by decide) (by decide) (by decide)]; exact p31, ?_, ?_, fun k x y => by rw [c3 116 (by decide)]; exact r5 k x y, fun a x => by rw [fr a (by omega) (by omega) (by omega), pa a (by omega) (by omega) (by omega)]⟩
  · have x11 : F 1 1 = 3 := lx_1_1 f0
    have x10 : F 1 0 = 2 := lx_1_0 f0
    have y11 : F' 1 1 = 3 := lx_1_1 hL
    have y10 : pd_up F' 3 1 0 1 0 = 2 := lx_1_0 u1
    have y18 : pd_up F' 3 1 0 1 8 = F' 1 8 := by rw [pu_a (by decide)]
    have y21 : pd_up F' 3 1 0 2 1 = b := by rw [pu_a (by decide)]; exact h21
    have x14 : P 1 4 = 231 := lx_1_4 uP
    have x12 : Q 1 2 = 113 := lx_1_2 q2
    have gs := pl_ob (sh_s aS_now).1
    unfold pfX11_book
    rw [if_neg (by omega)]
    simp only [pl_l, pl_b, pl_iT, pl_t, pl_f, gx_1, gx_2, gx_3, gx_4, gx_113, gx_114, gx_115, gx_116, gx_212, gx_213, gx_224, gn_4, gn_114, gn_115, gn_116, gn_213, gn_224, x11, x10]
    rw [if_pos hn.2, hr]
    simp only [pl_l, pl_b, pl_iT, pl_t, pl_f, gx_1, gx_2, gx_3, gx_4, gx_113, gx_114, gx_115, gx_116, gx_212, gx_213, gx_224, gn_4, gn_114, gn_115, gn_116, gn_213, gn_224, y11, y10, y18]
    rw [if_neg (by omega)]
    unfold pfX6_trade
    simp only [pl_l, pl_b, pl_iT, pl_t, pl_f, gx_1, gx_2, gx_3, gx_4, gx_113, gx_114, gx_115, gx_116, gx_212, gx_213, gx_224, gn_4, gn_114, gn_115, gn_116, gn_213, gn_224, y21]
    rw [pl_i (by omega)]
    simp only [pl_l, pl_b, pl_iT, pl_t, pl_f, hP, x14, p18, gs, q1, x12, gx_1, gx_2, gx_3, gx_4, gx_113, gx_114, gx_115, gx_116, gx_212, gx_213, gx_224, gn_4, gn_114, gn_115, gn_116, gn_213, gn_224, r1, c1]
  · exact ⟨c2, by rw [F118]; exact hb, hD, by rw [F118]; exact kR.fr hb hD (fun a x y => c3 a (by omega)), by rw [F118]; exact sR_fr sRR ⟨c3 _ (by omega), c3 _ (by omega)⟩ (fun a x y => c3 a (by omega)), c4⟩
  · rw [c3 113 (by decide), r4, ru_e]
  · rw [c3 113 (by decide), r4, ru_n (by decide), q3 113 (by decide), pa 113 (by decide) (by decide) (by decide)]
    exact h113

/-! both side by side: the calls that only answer -/
/-- what the parsers want of old cells, and whether there is a book -/
def Ix (F : pd_F) : Prop := F 1 9 = F 367 12 ∧ F 2 1 + F 1 8 = 264 ∧ (∀ k, 12 ≤ k → k < 24 → F 377 k = 0 ∨ F 377 k = 1) ∧ ∀ j, 0 ≤ j → j < F 367 2 → -128 ≤ F 368 j ∧ F 368 j ≤ 127
theorem Ix.fr {F G : pd_F} (h : Ix F) (e1 : G 1 = F 1) (e2 : G 2 = F 2) (e3 : G 377 = F 377) (e4 : G 368 = F 368) (e5 : G 367 12 = F 367 12) (e6 : G 367 2 = F 367 2) : Ix G := by
  unfold Ix
  rw [e1, e2, e3, e4, e5, e6]
  exact h
/-- class and reference after the same calls -/
def Iv (D : pd_F) (s : Int → Int) (F : pd_F) : Prop := rS D s F ∧ cS D s F ∧ dOk D ∧ cH D F (F 367 41) (fun j i => F 394 (111 * j + i)) (F 396) (fun k i => F 395 (111 * k + i)) ∧ ((0 ≤ F 367 2 ∧ F 367 2 ≤ 1000) ∧ F 3 1 = F 367 2 ∧ ∀ j, 0 ≤ j → j < F 367 2 → F 4 j = F 368 j) ∧ Ix F
section IV
variable {D : pd_F} {s : Int → Int} {F : pd_F}
theorem cS.lo {G : pd_F} (h : cS D s F) (hG : pd_Ly G) (y : ∀ a, a < 367 → G a = F a) : cS D s G := by
  obtain ⟨h1, h2, h3, h4, h5, h6, h7, h8, h9, h10⟩ := h
  have hb := aB_out h2
  have n5 := h3.1.2.2.2.2.2.1
  have n7 := h3.2.2.1.2
  have e1 : G 1 = F 1 := y 1 (by omega)
  have kk : kV D s 236 G := by
    unfold kV
    rw [y 236 (by omega), y (236 + 1) (by omega), y (236 + 5) (by omega), y (236 + 6) (by omega), y (236 + 7) (by omega), y (236 + 8) (by omega)]
    exact h7
  unfold cS rD
  rw [e1, y 239 (by omega), y 240 (by omega), y 238 (by omega)]
  exact ⟨hG, h2, h3, h4.fr h2 h3 (fun a x z => y a (by omega)), sR_fr h5 ⟨y _ (by omega), y _ (by omega)⟩ (fun a x z => y a (by omega)), ⟨fun a p x z u w => by rw [y _ (by omega)]; exact h6.1 a p x z u w, fun a p x z u w => by rw [y _ (by omega)]; exact h6.2 a p x z u w⟩, kk, h8, h9, h10⟩
theorem cH.lo {u : Int} {R : Int → Int → Int} {K : Int → Int} {KR : Int → Int → Int} {G : pd_F} (h : cH D F u R K KR) (hb : aB (F 1 8)) (y : ∀ a, a < 367 → G a = F a) : cH D G u R K KR := by
  have hb' := aB_out hb
  unfold cH
  rw [y 113 (by omega), y 116 (by omega), y 1 (by omega)]
  obtain ⟨h1, h2, h3, h4, h5⟩ := h
  have eb : G (F 1 8) = F (F 1 8) ∧ G (F 1 8 + 8) = F (F 1 8 + 8) := ⟨y _ (by omega), y _ (by omega)⟩
  refine ⟨h1, h2, h3, fun j x z => sR_fr (h4 j x z) eb (fun a v w => y a ?_), fun k x z => ⟨(h5 k x z).1, fun q => sR_fr ((h5 k x z).2 q) eb (fun a v w => y a (by omega))⟩⟩
  unfold slt at v w
  omega
theorem Iv.q {G : pd_F} (h : Iv D s F) (hG : pd_Ly G) (q : qF F G) : Iv D s G := by
  obtain ⟨h1, h2, h3, h4, h5, h6⟩ := h
  have y : ∀ a, a < 367 → G a = F a := fun a x => q.1 a (by omega) (by omega)
  unfold Iv
  rw [q.2 41 (by decide) (by decide), q.2 2 (by decide) (by decide), q.1 394 (by decide) (by decide), q.1 395 (by decide) (by decide), q.1 396 (by decide) (by decide), q.1 368 (by decide) (by decide), y 3 (by decide), y 4 (by decide)]
  exact ⟨h1.q hG q, h2.lo hG y, h3, h4.lo h2.2.1 y, h5, h6.fr (y 1 (by decide)) (y 2 (by decide)) (q.1 377 (by decide) (by decide)) (q.1 368 (by decide) (by decide)) (q.2 12 (by decide) (by decide)) (q.2 2 (by decide) (by decide))⟩
theorem Iv.y {G : pd_F} (h : Iv D s F) (c : cS D s G) (y : yF F G) : Iv D s G := by
  obtain ⟨h1, h2, h3, h4, h5, h6⟩ := h
  unfold Iv
  rw [y 367 (by omega), y 394 (by omega), y 395 (by omega), y 396 (by omega), y 368 (by omega), y 3 (by omega), y 4 (by omega)]
  exact ⟨⟨c.1, fun b x z => (y b (by omega)).trans (h1.2.1 b x z), (y 393 (by omega)).trans h1.2.2.1, h1.2.2.2⟩, c, h3, h4.fr h2.2.1 (fun a x => y a (by omega)), h5, h6.fr (y 1 (by omega)) (y 2 (by omega)) (y 377 (by omega)) (y 368 (by omega)) (by rw [y 367 (by omega)]) (by rw [y 367 (by omega)])⟩
/-- both answer the same and go on side by side -/
def Bo (D : pd_F) (s : Int → Int) (c r : pd_F → Option (Int × pd_F)) (F : pd_F) : Prop := ∃ v F1 F2, c F = some (v, F1) ∧ r F1 = some (v, F2) ∧ Iv D s F2
theorem i_person (h : Iv D s F) {p w : Int} : Bo D s (fun F => pfX11_person pd_SH 5000 F 1 p w) (fun F => pfX12_person pd_SH 5000 F 367 p w) F := by
  have a := p_person h.2.1 (p := p) (w := w)
  by_cases k : 0 ≤ p ∧ p < D 369 0
  · obtain ⟨c, n, hn, hc, e8, e5, ef⟩ := (h.2.1.2.2.2.1.2.2.2.2.2.1 p k.1 k.2).2.2.2
    obtain ⟨F2, b1, b2, b3⟩ := q_person h.1 (p := p) (w := w) (c := c) (n := n) (fun _ _ => ⟨hn, hc, e5⟩)
    rw [ef] at a
    exact ⟨_, F, F2, a, b1, h.q b2 b3⟩
  · obtain ⟨F2, b1, b2, b3⟩ := q_person h.1 (p := p) (w := w) (c := fun _ => 1) (n := 1) (fun x y => absurd ⟨x, y⟩ k)
    have e : aPs D s p w (F (F 1 8 + 10 + 2 * p) 3) = aPs D s p w ((fun _ => 1 : Nat → Int) 0 - 1) := by unfold aPs; rw [if_neg k, if_neg k]
    rw [e] at a
    exact ⟨_, F, F2, a, b1, h.q b2 b3⟩
theorem i_trust (h : Iv D s F) {p w : Int} : Bo D s (fun F => pfX11_trust pd_SH 5000 F 1 p w) (fun F => pfX12_trust pd_SH 5000 F 367 p w) F := by
  obtain ⟨F2, b1, b2, b3⟩ := q_trust h.1 (t := p) (w := w)
  exact ⟨_, F, F2, p_trust h.2.1, b1, h.q b2 b3⟩
theorem i_account (h : Iv D s F) {p w : Int} : Bo D s (fun F => pfX11_account pd_SH 5000 F 1 p w) (fun F => pfX12_account pd_SH 5000 F 367 p w) F := by
  obtain ⟨F2, b1, b2, b3⟩ := q_account h.1 (a := p) (w := w)
  exact ⟨_, F, F2, p_account h.2.1, b1, h.q b2 b3⟩
theorem i_ways (h : Iv D s F) {p w : Int} : Bo D s (fun F => pfX11_ways pd_SH 5000 F 1 p w) (fun F => pfX12_ways pd_SH 5000 F 367 p w) F := by
  obtain ⟨F2, b1, b2, b3⟩ := q_ways h.1 (a := p) (p := w)
  exact ⟨_, F, F2, p_ways h.2.1, b1, h.q b2 b3⟩
theorem i_view (h : Iv D s F) {p w : Int} : Bo D s (fun F => pfX11_view pd_SH 5000 F 1 p w) (fun F => pfX12_view pd_SH 5000 F 367 p w) F := by
  obtain ⟨F2, b1, b2, b3⟩ := q_view h.1 (d := p) (w := w)
  exact ⟨_, F, F2, p_view h.2.1, b1, h.q b2 b3⟩
theorem i_all (h : Iv D s F) {w : Int} : Bo D s (fun F => pfX11_all pd_SH 5000 F 1 w) (fun F => pfX12_all pd_SH 5000 F 367 w) F := by
  obtain ⟨F2, b1, b2, b3⟩ := q_all h.1 (w := w)
  exact ⟨_, F, F2, p_all h.2.1, b1, h.q b2 b3⟩
theorem i_estate (h : Iv D s F) {m d : Int} : Bo D s (fun F => pfX11_estate pd_SH 5000 F 1 m d) (fun F => pfX12_estate pd_SH 5000 F 367 m d) F := by
  obtain ⟨F2, b1, b2, b3⟩ := q_estate h.1 (m := m) (d := d)
  exact ⟨_, F, F2, p_estate h.2.1, b1, h.q b2 b3⟩
theorem i_enough (h : Iv D s F) {r : Int} : Bo D s (fun F => pfX11_enough pd_SH 5000 F 1 r) (fun F => pfX12_enough pd_SH 5000 F 367 r) F := by
  obtain ⟨F2, b1, b2, b3⟩ := q_enough h.1 (r := r)
  exact ⟨_, F, F2, p_enough h.2.1, b1, h.q b2 b3⟩
theorem i_count (h : Iv D s F) {w : Int} : Bo D s (fun F => pfX11_count pd_SH 5000 F 1 w) (fun F => pfX12_count pd_SH 5000 F 367 w) F := by
  obtain ⟨F2, b1, b2, b3⟩ := q_count h.1 (w := w)
  have a := p_count h.2.1 (w := w)
  rw [h.2.2.2.1.1, h.2.2.2.2.1.2.1] at a
  exact ⟨_, F, F2, a, b1, h.q b2 b3⟩
theorem i_onDay (h : Iv D s F) {d : Int} : Bo D s (fun F => pfX11_onDay pd_SH 5000 F 1 d) (fun F => pfX12_onDay pd_SH 5000 F 367 d) F := by
  obtain ⟨F1, a1, a2, a3⟩ := p_onDay h.2.1 (day := d)
  have h1 := h.y a2 a3
  obtain ⟨F2, b1, b2, b3⟩ := q_onDay h1.1 (day := d)
  exact ⟨_, F1, F2, a1, b1, h1.q b2.1 b3⟩
theorem aRk_un {k v v' : Int} (h : aRk D s k v) (h' : aRk D s k v') : v = v' := by
  rcases h with ⟨a1, a2, a3, a4⟩ | ⟨a1, a2⟩ <;> rcases h' with ⟨b1, b2, b3, b4⟩ | ⟨b1, b2⟩
  · rcases Int.lt_trichotomy v v' with z | z | z
    · exact absurd a3 (b4 v a1 z)
    · exact z
    · exact absurd b3 (a4 v' b1 z)
  · exact absurd a3 (b1 v a1 a2)
  · exact absurd b3 (a1 v' b1 b2)
  · rw [a2, b2]
theorem aCv_un {k v v' : Int} (h : aCv D s k v) (h' : aCv D s k v') : v = v' := by
  obtain ⟨a1, a2, a3, a4⟩ := h
  obtain ⟨b1, b2, b3, b4⟩ := h'
  rcases Int.lt_trichotomy v v' with z | z | z
  · have := b4 v a1 z; omega
  · exact z
  · have := a4 v' b1 z; omega
theorem aBd_un {a b w v v' : Int} (h : aBd D s a b w v) (h' : aBd D s a b w v') : v = v' := by
  have x := h.2.2 v' h'.1 h'.2.1
  have y := h'.2.2 v h.1 h.2.1
  unfold aBe at x y
  by_cases z : w = 0
  · rw [if_pos z] at x y; omega
  · rw [if_neg z] at x y; omega
theorem i_ranked (h : Iv D s F) {k : Int} : Bo D s (fun F => pfX11_ranked pd_SH 5000 F 1 k) (fun F => pfX12_ranked pd_SH 5000 F 367 k) F := by
  obtain ⟨v, a1, a2⟩ := p_ranked h.2.1 (k := k)
  obtain ⟨F2, v', b1, b2, b3, b4⟩ := q_ranked h.1 (k := k)
  rw [← aRk_un a2 b4] at b1
  exact ⟨v, F, F2, a1, b1, h.q b2 b3⟩
theorem i_coverFor (h : Iv D s F) {k : Int} : Bo D s (fun F => pfX11_coverFor pd_SH 5000 F 1 k) (fun F => pfX12_coverFor pd_SH 5000 F 367 k) F := by
  obtain ⟨v, a1, a2⟩ := p_coverFor h.2.1 (hu := k)
  obtain ⟨F2, v', b1, b2, b3, b4⟩ := q_coverFor h.1 (hu := k)
  have e : v' = v := by
    rcases a2 with ⟨x1, x2⟩ | ⟨x1, x2⟩ <;> rcases b4 with ⟨y1, y2⟩ | ⟨y1, y2⟩
    · rw [x2, y2]
    · exact absurd y1 x1
    · exact absurd x1 y1
    · exact aCv_un y2 x2
  rw [e] at b1
  exact ⟨v, F, F2, a1, b1, h.q b2 b3⟩
theorem i_bestDay (h : Iv D s F) {a b w : Int} : Bo D s (fun F => pfX11_bestDay pd_SH 5000 F 1 a b w) (fun F => pfX12_bestDay pd_SH 5000 F 367 a b w) F := by
  obtain ⟨F1, v, a1, a2, a3, a4⟩ := p_bestDay h.2.1 h.2.2.1 (a := a) (b := b) (w := w)
  have h1 := h.y a2 a3
  obtain ⟨F2, v', b1, b2, b3, b4⟩ := q_bestDay h1.1 (a := a) (b := b) (w := w)
  have e : v' = v := by
    rcases a4 with ⟨x1, x2⟩ | ⟨x1, x2⟩ <;> rcases b4 with ⟨y1, y2⟩ | ⟨y1, y2⟩
    · rw [x2, y2]
    · exact absurd y1 x1
    · exact absurd x1 y1
    · exact aBd_un y2 x2
  rw [e] at b1
  exact ⟨v, F1, F2, a1, b1, h1.q b2.1 b3⟩
theorem i_who (h : Iv D s F) {d : Int} : Bo D s (fun F => pfX11_who pd_SH 5000 F 1 d) (fun F => pfX12_who pd_SH 5000 F 367 d) F := by
  obtain ⟨v, a1, a2⟩ := p_who h.2.1 (d := d)
  obtain ⟨F2, v', b1, b2, b3, b4⟩ := q_who h.1 (d := d)
  have e : v' = v := by
    rcases a2 with ⟨x1, x2⟩ | ⟨x1, x2, x3⟩ <;> rcases b4 with ⟨y1, y2⟩ | ⟨y1, y2, y3⟩
    · rw [x2, y2]
    · exact absurd y1 x1
    · exact absurd x1 y1
    · exact tb_ext y2 x2 (fun p p0 p1 => (y3 p p0 p1).trans (x3 p p0 p1).symm)
  rw [e] at b1
  exact ⟨v, F, F2, a1, b1, h.q b2 b3⟩
theorem i_apart (h : Iv D s F) {p o : Int} : Bo D s (fun F => pfX11_apart pd_SH 5000 F 1 p o) (fun F => pfX12_apart pd_SH 5000 F 367 p o) F := by
  obtain ⟨v, a1, a2⟩ := p_apart h.2.1 (p := p) (o := o)
  obtain ⟨F2, v', b1, b2, b3, b4⟩ := q_apart h.1 (p := p) (o := o)
  have hn := h.1.2.2.2.1.1.2.1
  have e : v' = v := by
    rcases a2 with ⟨x1, x2⟩ | ⟨x1, x2⟩ <;> rcases b4 with ⟨y1, y2⟩ | ⟨y1, y2⟩
    · rw [x2, y2]
    · exact absurd y1 x1
    · exact absurd x1 y1
    · rcases x2 with ⟨e1, u1, u2⟩ | ⟨u1, u2⟩ <;> rcases y2 with ⟨e2, w1, w2⟩ | ⟨w1, w2⟩
      · rw [u1, w1, fL_un u2 w2]
      · exact absurd (Rk_11 hn x1.1 e1 u2.1) w1
      · exact absurd (Rk_11 hn x1.1 e2 w2.1) u1
      · rw [u2, w2]
  rw [e] at b1
  exact ⟨v, F, F2, a1, b1, h.q b2 b3⟩
end IV

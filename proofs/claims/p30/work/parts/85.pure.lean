variable {sT : pd_S}
/-! the class: what a ledger tells -/
theorem pl_sum {f : Nat → Int → Int → Option (Int × pd_F)} {g : Int → Int} {N : Int} {G : pd_F} (hN : 0 ≤ N) (hs : ∀ k q i, 0 ≤ i → i < N → q = Sm g i → f (k + 1) q i = f k (q + g i) (i + 1)) (he : ∀ k q, f (k + 1) q N = some (q, G)) {k : Nat} (hk : N < k) : f k 0 0 = some (Sm g N, G) := by
  refine pl_for (f := f) (P := fun i q => q = Sm g i) (N := N) (res := fun o => o = some (Sm g N, G)) ?_ ?_ k 0 0 (by omega) hN (by omega) rfl
  · intro k q i a b e
    exact Or.inl ⟨q + g i, by rw [e, Sm_s a], hs k q i a b e⟩
  · intro k q e
    show f (k + 1) q N = _
    rw [he, e]
theorem Sm_tm {g : Int → Int} {n d : Int} (h : ∀ i, 0 ≤ i → i < n → 0 ≤ g i) (h0 : 0 ≤ d) (h1 : d < n) : g d ≤ Sm g n := by
  have := Sm_le (f := fun i => if i = d then g d else 0) (g := g) (n := n) (by omega) (fun i a b => by
    by_cases e : i = d
    · rw [if_pos e, e]; exact Int.le_refl _
    · rw [if_neg e]; exact h i a b)
  have e := Sm_up (f := fun _ => 0) (n := n) (j := d) (v := g d) h0 h1
  rw [Sm_zero (f := fun _ => 0) (fun _ _ _ => rfl)] at e
  have e2 : Sm (fun i => if i = d then (0 : Int) + g d else 0) n = Sm (fun i => if i = d then g d else 0) n := Sm_congr fun i _ _ => by split <;> omega
  omega
def kW (D : pd_F) (s : Int → Int) (l : Int) (G : pd_F) : Prop := pd_Ly G ∧ aL l ∧ kV D s l G ∧ bOk D ∧ aOk D s
section KW
variable {D : pd_F} {s : Int → Int} {l : Int} {G : pd_F}
theorem kW.nt (w : kW D s l G) : G (l + 1) 3 = sD D s := w.2.2.1.2.1
theorem kW.t0 (w : kW D s l G) : G l 0 = l + 1 := (ly_l w.1 w.2.1).1
theorem kW.o (w : kW D s l G) : (pd_ob (pd_SH sT) 4 l = true) = True := pl_ob (sh_l (sT := sT) w.2.1).1
theorem kW.t (w : kW D s l G) : (pd_ob (pd_SH sT) 10 (l + 1) = true) = True := pl_ob (sh_t (sT := sT) w.2.1.t).1
theorem kW.sd (w : kW D s l G) : 0 ≤ sD D s ∧ sD D s ≤ 12 := sD_12 w.2.2.2.1
theorem k_setOff (w : kW D s l G) {d : Int} (hd : 0 ≤ d ∧ d < sD D s) : pfX4_setOff (pd_SH sT) 5000 G l d = some (cSo D s d, G) := by
  obtain ⟨g1, hl, ⟨v1, v2, v3⟩, hb, hs⟩ := id w
  obtain ⟨s0, s5, s6, s7, s8⟩ := sh_l (sT := sT) hl
  obtain ⟨u0, u1, u2, u3, u4⟩ := ly_l g1 hl
  have nn := w.sd
  have v := v3 d hd.1 hd.2
  unfold pfX4_setOff
  simp (disch := omega) only [pl_l, pl_b, pl_iT, pl_t, pl_f, pl_ob s0, pl_ib s5, pl_ib s6, u1, u2, v.1, v.2.1, pl_i]
  rfl
theorem k_net (w : kW D s l G) {d : Int} (hd : 0 ≤ d ∧ d < sD D s) : pfX4_net (pd_SH sT) 5000 G l d = some (cNt D s d, G) := by
  obtain ⟨g1, hl, ⟨v1, v2, v3⟩, hb, hs⟩ := id w
  obtain ⟨s0, s5, s6, s7, s8⟩ := sh_l (sT := sT) hl
  obtain ⟨u0, u1, u2, u3, u4⟩ := ly_l g1 hl
  have nn := w.sd
  have v := v3 d hd.1 hd.2
  have b1 := sHas_bd hb hs d
  have b2 := sOw_bd (s := s) hb d
  unfold pfX4_net
  simp (disch := omega) only [pl_l, pl_b, pl_iT, pl_t, pl_f, pl_ob s0, pl_ib s5, pl_ib s6, u1, u2, v.1, v.2.1, pl_i, pl_W]
  have : max (sHas D s d - sOw D s d) 0 = cNt D s d := by unfold cNt cSo; omega
  rw [this]
theorem kW.st (w : kW D s l G) {d : Int} (hd : 0 ≤ d ∧ d < sD D s) : d < 12 ∧ G l 5 = s 72 ∧ G l 6 = s 73 := by
  have n := w.sd
  rcases w.2.2.1.1 with h | h
  · omega
  · exact ⟨by omega, h⟩
theorem k_limit (w : kW D s l G) {d c : Int} (hd : 0 ≤ d ∧ d < sD D s) (hc : 0 ≤ c ∧ c ≤ 10000000000000) : pfX4_limit (pd_SH sT) 5000 G l d c = some (cLm D s d c, G) := by
  obtain ⟨g1, hl, ⟨v1, v2, v3⟩, hb, hs⟩ := id w
  obtain ⟨s0, s5, s6, s7, s8⟩ := sh_l (sT := sT) hl
  obtain ⟨u0, u1, u2, u3, u4⟩ := ly_l g1 hl
  have vs := w.st hd
  have v := v3 d hd.1 hd.2
  have b1 := sHi_bd hb hs d
  have b2 := hs.2.2.2.2
  unfold pfX4_limit
  simp (disch := omega) only [pl_l, pl_b, pl_iT, pl_t, pl_f, pl_ob s0, pl_ib s7, u3, v.2.2.1, vs.2.2, pl_i, pl_W]
  rfl
theorem k_paid (w : kW D s l G) {d : Int} (hd : 0 ≤ d ∧ d < sD D s) : pfX4_paid (pd_SH sT) 5000 G l d = some (cPd D s d (s 72), G) := by
  have e := w.2.2.2.2.2.2.2.1
  unfold pfX4_paid
  simp only [pl_l, pl_b, pl_iT, pl_t, pl_f, w.o, k_net (sT := sT) w hd, (w.st hd).2.1, k_limit (sT := sT) w hd (c := s 72) (by omega)]
  rfl
theorem k_claim (w : kW D s l G) {d : Int} (hd : 0 ≤ d ∧ d < sD D s) : pfX4_claim (pd_SH sT) 5000 G l d = some (cCl D s d, G) := by
  have b := cCl_bd w.2.2.2.1 w.2.2.2.2 d
  unfold pfX4_claim
  simp only [pl_l, pl_b, pl_iT, pl_t, pl_f, w.o, k_net (sT := sT) w hd, k_paid (sT := sT) w hd]
  unfold cCl at b ⊢
  rw [pl_W (by omega)]
theorem k_hasTogether (w : kW D s l G) : pfX4_hasTogether (pd_SH sT) 5000 G l = some (Sm (sHas D s) (sD D s), G) := by
  obtain ⟨g1, hl, ⟨v1, v2, v3⟩, hb, hs⟩ := id w
  obtain ⟨s0, s5, s6, s7, s8⟩ := sh_l (sT := sT) hl
  obtain ⟨u0, u1, u2, u3, u4⟩ := ly_l g1 hl
  have n := w.sd
  unfold pfX4_hasTogether
  refine pl_sum (f := fun k q i => pfX4_hasTogether_b4 (pd_SH sT) 5000 k G l q i) n.1 (fun k q i a b e => ?_) (fun k q => ?_) (by omega)
  · have b1 := Sm_bd (f := sHas D s) (lo := 0) (hi := 1199999880) a (fun d _ _ => sHas_bd hb hs d)
    have b2 := sHas_bd hb hs i
    have v := (v3 i a (by omega)).1
    show pfX4_hasTogether_b4 (pd_SH sT) 5000 (k + 1) G l q i = _
    simp (disch := omega) only [pfX4_hasTogether_b4, pl_l, pl_b, pl_iT, pl_t, pl_f, w.o, w.t, w.t0, w.nt, pl_ib s5, u1, v, pl_w, pl_W, pl_i, if_neg]
  · show pfX4_hasTogether_b4 (pd_SH sT) 5000 (k + 1) G l q _ = _
    simp (disch := omega) only [pfX4_hasTogether_b4, pl_l, pl_b, pl_iT, pl_t, pl_f, w.o, w.t, w.t0, w.nt, if_pos]
theorem k_setOffTogether (w : kW D s l G) : pfX4_setOffTogether (pd_SH sT) 5000 G l = some (Sm (cSo D s) (sD D s), G) := by
  obtain ⟨g1, hl, ⟨v1, v2, v3⟩, hb, hs⟩ := id w
  have n := w.sd
  unfold pfX4_setOffTogether
  refine pl_sum (f := fun k q i => pfX4_setOffTogether_b4 (pd_SH sT) 5000 k G l q i) n.1 (fun k q i a b e => ?_) (fun k q => ?_) (by omega)
  · have b1 := Sm_bd (f := cSo D s) (lo := 0) (hi := 1199999880) a (fun d _ _ => by
      have := cNt_bd hb hs d
      have := sHas_bd hb hs d
      omega)
    have b2 := cNt_bd hb hs i
    have b3 := sHas_bd hb hs i
    show pfX4_setOffTogether_b4 (pd_SH sT) 5000 (k + 1) G l q i = _
    simp (disch := omega) only [pfX4_setOffTogether_b4, pl_l, pl_b, pl_iT, pl_t, pl_f, w.o, w.t, w.t0, w.nt, k_setOff (sT := sT) w (show 0 ≤ i ∧ i < sD D s by omega), pl_w, pl_W, if_neg]
  · show pfX4_setOffTogether_b4 (pd_SH sT) 5000 (k + 1) G l q _ = _
    simp (disch := omega) only [pfX4_setOffTogether_b4, pl_l, pl_b, pl_iT, pl_t, pl_f, w.o, w.t, w.t0, w.nt, if_pos]
theorem k_paidUnder (w : kW D s l G) {c : Int} (hc : 0 ≤ c ∧ c ≤ 10000000000000) : pfX4_paidUnder (pd_SH sT) 5000 G l c = some (cPU D s c, G) := by
  obtain ⟨g1, hl, ⟨v1, v2, v3⟩, hb, hs⟩ := id w
  have n := w.sd
  unfold pfX4_paidUnder
  refine pl_sum (f := fun k q i => pfX4_paidUnder_b5 (pd_SH sT) 5000 k G l c q i) (g := fun d => cPd D s d c) n.1 (fun k q i a b e => ?_) (fun k q => ?_) (by omega)
  · have b1 := cPU_bd hb hs hc.1 a (n := i)
    have b2 := cPd_bd hb hs i hc.1
    have b3 := cNt_bd hb hs i
    have e : min (cNt D s i) (cLm D s i c) = cPd D s i c := rfl
    show pfX4_paidUnder_b5 (pd_SH sT) 5000 (k + 1) G l c q i = _
    simp (disch := omega) only [pfX4_paidUnder_b5, pl_l, pl_b, pl_iT, pl_t, pl_f, w.o, w.t, w.t0, w.nt, k_net (sT := sT) w (show 0 ≤ i ∧ i < sD D s by omega), k_limit (sT := sT) w ⟨a, b⟩ hc, e, pl_w, pl_W, if_neg]
  · show pfX4_paidUnder_b5 (pd_SH sT) 5000 (k + 1) G l c q _ = _
    simp (disch := omega) only [pfX4_paidUnder_b5, pl_l, pl_b, pl_iT, pl_t, pl_f, w.o, w.t, w.t0, w.nt, if_pos]
theorem k_paidTogether (w : kW D s l G) : pfX4_paidTogether (pd_SH sT) 5000 G l = some (cPU D s (s 72), G) := by
  have e := w.2.2.2.2.2.2.2.1
  unfold pfX4_paidTogether
  rcases w.2.2.1.1 with h | h
  · have z : pfX4_paidUnder (pd_SH sT) 5000 G l (G l 5) = some (0, G) := by
      unfold pfX4_paidUnder
      show pfX4_paidUnder_b5 (pd_SH sT) 5000 (4999 + 1) G l (G l 5) 0 0 = _
      rw [pfX4_paidUnder_b5]
      simp only [pl_l, pl_b, pl_iT, pl_t, pl_f, w.o, w.t, w.t0, w.nt]
      rw [if_pos (by omega)]
    simp only [pl_l, pl_b, pl_iT, pl_t, pl_f, w.o, z]
    unfold cPU
    rw [h, Sm_0]
  · simp only [pl_l, pl_b, pl_iT, pl_t, pl_f, w.o, h.1, k_paidUnder (sT := sT) w (c := s 72) (by omega)]
theorem k_claimants (w : kW D s l G) : pfX4_claimants (pd_SH sT) 5000 G l = some (Sm (fun d => if cCl D s d ≤ 0 then 0 else 1) (sD D s), G) := by
  have n := w.sd
  unfold pfX4_claimants
  refine pl_sum (f := fun k q i => pfX4_claimants_b4 (pd_SH sT) 5000 k G l q i) (g := fun d => if cCl D s d ≤ 0 then 0 else 1) n.1 (fun k q i a b e => ?_) (fun k q => ?_) (by omega)
  · have b1 := Sm_bd (f := fun d => if cCl D s d ≤ 0 then 0 else 1) (lo := 0) (hi := 1) a (fun d _ _ => by split <;> omega)
    show pfX4_claimants_b4 (pd_SH sT) 5000 (k + 1) G l q i = pfX4_claimants_b4 (pd_SH sT) 5000 k G l (q + (if cCl D s i ≤ 0 then 0 else 1)) (i + 1)
    by_cases z : cCl D s i ≤ 0
    · rw [if_pos z, Int.add_zero]
      simp (disch := omega) only [pfX4_claimants_b4, pfX4_claimants_b28, pl_l, pl_b, pl_iT, pl_t, pl_f, w.o, w.t, w.t0, w.nt, k_claim (sT := sT) w (show 0 ≤ i ∧ i < sD D s by omega), pl_w, if_neg, if_pos]
    · rw [if_neg z]
      simp (disch := omega) only [pfX4_claimants_b4, pfX4_claimants_b28, pl_l, pl_b, pl_iT, pl_t, pl_f, w.o, w.t, w.t0, w.nt, k_claim (sT := sT) w (show 0 ≤ i ∧ i < sD D s by omega), pl_w, if_neg]
  · show pfX4_claimants_b4 (pd_SH sT) 5000 (k + 1) G l q _ = _
    simp (disch := omega) only [pfX4_claimants_b4, pl_l, pl_b, pl_iT, pl_t, pl_f, w.o, w.t, w.t0, w.nt, if_pos]
theorem k_claimsAhead (w : kW D s l G) {n x : Int} (hn : 0 ≤ n ∧ n ≤ sD D s) : pfX4_claimsAhead (pd_SH sT) 5000 G l n x = some (cCn D s x n, G) := by
  obtain ⟨g1, hl, ⟨v1, v2, v3⟩, hb, hs⟩ := id w
  obtain ⟨s0, s5, s6, s7, s8⟩ := sh_l (sT := sT) hl
  obtain ⟨u0, u1, u2, u3, u4⟩ := ly_l g1 hl
  have nn := w.sd
  unfold pfX4_claimsAhead
  refine pl_sum (f := fun k q i => pfX4_claimsAhead_b5 (pd_SH sT) 5000 k G l n x q i) (g := fun d => if cI D s d = x then cCl D s d else 0) hn.1 (fun k q i a b e => ?_) (fun k q => ?_) (by omega)
  · have b1 := cCn_bd hb hs a (w := x)
    have b2 := cCl_bd hb hs i
    have v := (v3 i a (by omega)).2.2.2
    rw [show Sm _ _ = cCn D s x i from rfl] at e
    show pfX4_claimsAhead_b5 (pd_SH sT) 5000 (k + 1) G l n x q i = pfX4_claimsAhead_b5 (pd_SH sT) 5000 k G l n x (q + (if cI D s i = x then cCl D s i else 0)) (i + 1)
    by_cases z : cI D s i = x
    · rw [if_pos z]
      simp (disch := omega) only [pfX4_claimsAhead_b5, pfX4_claimsAhead_b31, pl_l, pl_b, pl_iT, pl_t, pl_f, w.o, pl_ib s8, u4, v, k_claim (sT := sT) w (show 0 ≤ i ∧ i < sD D s by omega), pl_i, pl_w, pl_W, if_neg]
    · rw [if_neg z, Int.add_zero]
      simp (disch := omega) only [pfX4_claimsAhead_b5, pfX4_claimsAhead_b31, pl_l, pl_b, pl_iT, pl_t, pl_f, w.o, pl_ib s8, u4, v, pl_i, pl_w, if_neg, if_pos]
  · show pfX4_claimsAhead_b5 (pd_SH sT) 5000 (k + 1) G l n x q _ = _
    simp (disch := omega) only [pfX4_claimsAhead_b5, if_pos]
theorem k_claimsOf (w : kW D s l G) {x : Int} : pfX4_claimsOf (pd_SH sT) 5000 G l x = some (cCn D s x (sD D s), G) := by
  unfold pfX4_claimsOf
  simp only [pl_l, pl_b, pl_iT, pl_t, pl_f, w.o, w.t, w.t0, w.nt, k_claimsAhead (sT := sT) w ⟨w.sd.1, Int.le_refl _⟩]
theorem k_aheadOf (w : kW D s l G) {d : Int} (hd : 0 ≤ d ∧ d < sD D s) : pfX4_aheadOf (pd_SH sT) 5000 G l d = some (cPl D s d, G) := by
  have n := w.sd
  unfold pfX4_aheadOf
  simp only [pl_l, pl_b, pl_iT, pl_t, pl_f, w.o, k_claim (sT := sT) w hd]
  refine pl_sum (f := fun k q i => pfX4_aheadOf_b11 (pd_SH sT) 5000 k G l d q (cCl D s d) i) (g := fun o => if cCl D s o > cCl D s d ∨ (cCl D s o = cCl D s d ∧ o < d) then 1 else 0) n.1 (fun k q i a b e => ?_) (fun k q => ?_) (by omega)
  · have b1 := Sm_bd (f := fun o => if cCl D s o > cCl D s d ∨ (cCl D s o = cCl D s d ∧ o < d) then 1 else 0) (lo := 0) (hi := 1) a (fun d _ _ => by split <;> omega)
    rw [← e] at b1
    show pfX4_aheadOf_b11 (pd_SH sT) 5000 (k + 1) G l d q (cCl D s d) i = pfX4_aheadOf_b11 (pd_SH sT) 5000 k G l d (q + (if cCl D s i > cCl D s d ∨ (cCl D s i = cCl D s d ∧ i < d) then 1 else 0)) (cCl D s d) (i + 1)
    have kc := k_claim (sT := sT) w (show 0 ≤ i ∧ i < sD D s by omega)
    by_cases z1 : cCl D s i > cCl D s d
    · rw [if_pos (Or.inl z1)]
      simp (disch := omega) only [pfX4_aheadOf_b11, pfX4_aheadOf_b54, pfX4_aheadOf_b51, pl_l, pl_b, pl_iT, pl_t, pl_f, w.o, w.t, w.t0, w.nt, kc, pl_w, if_neg, if_pos]
    by_cases z2 : cCl D s i = cCl D s d
    · by_cases z3 : i < d
      · rw [if_pos (Or.inr ⟨z2, z3⟩)]
        simp (disch := omega) only [pfX4_aheadOf_b11, pfX4_aheadOf_b54, pfX4_aheadOf_b51, pl_l, pl_b, pl_iT, pl_t, pl_f, w.o, w.t, w.t0, w.nt, kc, pl_w, if_neg]
      · rw [if_neg (by omega), Int.add_zero]
        simp (disch := omega) only [pfX4_aheadOf_b11, pfX4_aheadOf_b54, pfX4_aheadOf_b51, pl_l, pl_b, pl_iT, pl_t, pl_f, w.o, w.t, w.t0, w.nt, kc, pl_w, if_neg, if_pos]
    · rw [if_neg (by omega), Int.add_zero]
      simp (disch := omega) only [pfX4_aheadOf_b11, pfX4_aheadOf_b54, pfX4_aheadOf_b51, pl_l, pl_b, pl_iT, pl_t, pl_f, w.o, w.t, w.t0, w.nt, kc, pl_w, if_neg, if_pos]
  · show pfX4_aheadOf_b11 (pd_SH sT) 5000 (k + 1) G l d q (cCl D s d) _ = _
    simp (disch := omega) only [pfX4_aheadOf_b11, pl_l, pl_b, pl_iT, pl_t, pl_f, w.o, w.t, w.t0, w.nt, if_pos]
theorem k_fromEstate (w : kW D s l G) {m d : Int} (hd : 0 ≤ d ∧ d < sD D s) (hm : 0 ≤ m ∧ m ≤ 99999999) : pfX4_fromEstate (pd_SH sT) 5000 G l m d = some (aEs D s m d, G) := by
  obtain ⟨g1, hl, ⟨v1, v2, v3⟩, hb, hs⟩ := id w
  obtain ⟨s0, s5, s6, s7, s8⟩ := sh_l (sT := sT) hl
  obtain ⟨u0, u1, u2, u3, u4⟩ := ly_l g1 hl
  have n := w.sd
  have hd2 : 0 ≤ d ∧ d < 12 := by omega
  have v := (v3 d hd.1 (by omega)).2.2.2
  have bP : 0 ≤ cPU D s (s 72) ∧ cPU D s (s 72) ≤ 1199999880 * sD D s := cPU_bd hb hs hs.2.2.2.1.1 n.1
  have b0 := cCn_bd hb hs (w := 0) n.1
  have bc := cCl_bd hb hs d
  have tail : ∀ x left, cI D s d = x → -99999999999 ≤ left → left ≤ 99999999 → pfX4_fromEstate_b31 (pd_SH sT) 5000 G l d x left = some (if left ≤ 0 then 0 else if cCn D s x (sD D s) ≤ left then cCl D s d else Int.tdiv (left * (cCn D s x d + cCl D s d)) (cCn D s x (sD D s)) - Int.tdiv (left * cCn D s x d) (cCn D s x (sD D s)), G) := by
    intro x left hx h0 h1
    have bx := cCn_bd hb hs (w := x) n.1
    have bd := cCn_bd hb hs (w := x) hd.1
    have tm : cCl D s d ≤ cCn D s x (sD D s) := by
      have := Sm_tm (g := fun d => if cI D s d = x then cCl D s d else 0) (n := sD D s) (fun i _ _ => by
        have := cCl_bd hb hs i
        split <;> omega) hd.1 hd.2
      rw [if_pos hx] at this
      exact this
    unfold pfX4_fromEstate_b31
    simp only [pl_l, pl_b, pl_iT, pl_t, pl_f, w.o, k_claimsOf (sT := sT) w, k_claim (sT := sT) w hd, k_claimsAhead (sT := sT) w (n := d) (x := x) (by omega)]
    generalize hA : cCn D s x (sD D s) = A at bx tm ⊢
    by_cases q1 : left ≤ 0
    · rw [if_pos q1, Int.max_eq_right q1]
      by_cases q2 : A ≤ 0
      · rw [if_pos q2, show cCl D s d = 0 by omega]
      · rw [if_neg q2, if_pos (by omega), pl_i (by omega), Int.zero_mul, Int.zero_mul, pl_W (x := 0) (by omega), Int.zero_tdiv, pl_W (x := 0) (by omega), pl_W (by omega)]
        rfl
    · rw [if_neg q1, Int.max_eq_left (by omega)]
      by_cases q2 : A ≤ left
      · rw [if_pos q2]
        by_cases q3 : A ≤ 0
        · rw [if_pos q3]
        · rw [if_neg q3, if_neg (by omega)]
      · rw [if_neg q2, if_neg (by omega), if_pos (by omega), pl_i (by omega)]
        generalize hq : cCn D s x d = q at bd ⊢
        have m1 : 0 ≤ left * (q + cCl D s d) ∧ left * (q + cCl D s d) ≤ 99999999 * 20000000000 := ⟨Int.mul_nonneg (by omega) (by omega), Int.mul_le_mul h1 (by omega) (by omega) (by decide)⟩
        have m2 : 0 ≤ left * q ∧ left * q ≤ 99999999 * 20000000000 := ⟨Int.mul_nonneg (by omega) (by omega), Int.mul_le_mul h1 (by omega) (by omega) (by decide)⟩
        have d1 : 0 ≤ Int.tdiv (left * (q + cCl D s d)) A ∧ Int.tdiv (left * (q + cCl D s d)) A ≤ left * (q + cCl D s d) := by
          rw [Int.tdiv_eq_ediv_of_nonneg m1.1]
          exact ⟨Int.ediv_nonneg m1.1 (by omega), Int.ediv_le_self _ m1.1⟩
        have d2 : 0 ≤ Int.tdiv (left * q) A ∧ Int.tdiv (left * q) A ≤ left * q := by
          rw [Int.tdiv_eq_ediv_of_nonneg m2.1]
          exact ⟨Int.ediv_nonneg m2.1 (by omega), Int.ediv_le_self _ m2.1⟩
        rw [pl_W (x := q + cCl D s d) (by omega), pl_W (x := left * (q + cCl D s d)) (by omega), pl_W (x := left * q) (by omega), pl_W (x := Int.tdiv (left * (q + cCl D s d)) A) (by omega), pl_W (x := Int.tdiv (left * q) A) (by omega), pl_W (by omega)]
  unfold pfX4_fromEstate
  simp only [pl_l, pl_b, pl_iT, pl_t, pl_f, w.o, pl_ib s8, u4, v, k_paidTogether (sT := sT) w, k_claimsOf (sT := sT) w]
  rw [pl_i (by omega), pl_W (x := m - cPU D s (s 72)) (by omega)]
  unfold aEs cLf
  rcases cI_01 D s d with z | z
  · rw [z, if_pos rfl, tail 0 _ z (by omega) (by omega), if_neg (show ¬ (0 : Int) = 1 by decide), show m - cPU D s (s 72) - 0 = m - cPU D s (s 72) by omega]
  · rw [z, if_neg (by decide), if_pos rfl, pl_W (by omega), tail 1 _ z (by omega) (by omega)]
end KW

/-! the law's text: steps of its making -/
theorem bS.mono {h0 : Int} {sh sh' : pd_S} {F F' : pd_F} {b : Int} {l : List Int} (h : bS h0 sh F b l) (hx : ex sh sh') (e : ∀ c : Int, c ≤ sh.length → F' c = F c) : bS h0 sh' F' b l := by
  obtain ⟨⟨p1, p2⟩, p3, p4, p5, ⟨m, m1, m2, m3, m4⟩, p6⟩ := h
  have q1 := sh_bd p3
  have q2 := sh_bd m1
  have e1 := e b q1.2
  have e2 := e _ q2.2
  exact ⟨⟨p1, by rw [e1]; exact p2⟩, hx.sh p3, by rw [e1]; exact p4, by rw [e1]; exact p5, ⟨m, by rw [e1]; exact hx.sh m1, m2, m3, fun j hj => by rw [e1, e2]; exact m4 j hj⟩, fun k hk => by rw [e1, e2]; exact p6 k hk⟩
/-- all that stood at (S, F0) stands -/
def gr (S : pd_S) (F0 : pd_F) (sh : pd_S) (F : pd_F) : Prop := ex S sh ∧ ∀ a : Int, a ≤ S.length → F a = F0 a
theorem gr.rf {S : pd_S} {F0 : pd_F} : gr S F0 S F0 := ⟨ex.rf, fun _ _ => rfl⟩
theorem gr.tr {S0 S1 S2 : pd_S} {F0 F1 F2 : pd_F} (h : gr S0 F0 S1 F1) (g : gr S1 F1 S2 F2) : gr S0 F0 S2 F2 :=
  ⟨h.1.tr g.1, fun a ha => by rw [g.2 a (by have := h.1.le; omega), h.2 a ha]⟩
theorem gr.tS {S0 S1 : pd_S} {F0 F1 : pd_F} (h : gr S0 F0 S1 F1) {a : Int} {l : List Int} (g : tS S0 F0 a l) : tS S1 F1 a l := g.mono h.1 h.2
/-- a builder made since (S, F0) -/
def uB (S : pd_S) (F0 : pd_F) (sh : pd_S) (F : pd_F) (b : Int) (l : List Int) : Prop := gr S F0 sh F ∧ bS S.length sh F b l
theorem uB.mono {S0 S1 S2 : pd_S} {F0 F1 F2 : pd_F} {b : Int} {l : List Int} (h : uB S0 F0 S1 F1 b l) (g : gr S1 F1 S2 F2) : uB S0 F0 S2 F2 b l := ⟨h.1.tr g, h.2.mono g.1 g.2⟩
/-- a text made since (S, F0), or one of the law's own -/
def tX (S : pd_S) (F0 : pd_F) (sh : pd_S) (F : pd_F) (s : Int) (w : List Int) : Prop := gr S F0 sh F ∧ tS sh F s w ∧ pr w ∧ (s < 0 ∨ (S.length : Int) < s ∧ (S.length : Int) < F s 0)
def tM (S : pd_S) (F0 : pd_F) (Q : List Int → Prop) (o : Option (Int × pd_S × pd_F)) : Prop := ∃ w t sh' F', Q w ∧ o = some (t, sh', F') ∧ tX S F0 sh' F' t w
theorem tS.ne {sh : pd_S} {F : pd_F} {s : Int} {w : List Int} (h : tS sh F s w) : s ≠ 0 := by
  rcases h with ⟨h, -⟩ | ⟨h, -⟩ <;> omega
section TXT
variable {α : Type} {P : Option α → Prop} {S sh : pd_S} {F0 F : pd_F} {n : Nat} {b s : Int} {l w : List Int} {k : Int → pd_S → pd_F → Option α}
theorem q_new (h : ∀ sh' F', uB sh F sh' F' ((sh.length : Int) + 1) [] → P (k ((sh.length : Int) + 1) sh' F')) : P (pd_l ((sh.length : Int) + 1) fun o => pd_l (pd_z F (sh.length + 1)) fun F2 => pd_l (sh ++ [(4, 13, 4)]) fun sh1 => pd_i (1 ≤ o) <| Option.bind (pfJ4_init_da8c8 sh1 n F2 o) fun q => pd_l q.1 fun sh6 => pd_l q.2 fun F4 => k o sh6 F4) := by
  obtain ⟨sh', F', e, x, y, f⟩ := s_new (sh := sh) (F := F) (n := n)
  simp only [pl_l]
  rw [pl_i (by omega), e]
  exact h sh' F' ⟨⟨x, f⟩, y⟩
theorem bA.up {o : Option (Int × pd_S × pd_F)} {l' : List Int} (hb : uB S F0 sh F b l) (h : bA S.length sh F b l' o) : ∃ sh' F', o = some (b, sh', F') ∧ uB S F0 sh' F' b l' := by
  obtain ⟨sh', F', e, x, y, f, -⟩ := h
  obtain ⟨⟨x0, f0⟩, ⟨p1, p2⟩, -⟩ := hb
  have := x0.le
  exact ⟨sh', F', e, ⟨x0.tr x, fun a ha => by rw [f a (by omega) (by omega) (by omega), f0 a ha]⟩, y⟩
theorem uB.ob (hb : uB S F0 sh F b l) : pd_ob sh 13 b = true := by rw [pl_ob hb.2.2.1]; trivial
/-- a text of old goes in -/
theorem q_app (hb : uB S F0 sh F b l) (hs : tS S F0 s w) (hw : pr w) (hl : l.length + w.length ≤ 600) (h : ∀ sh' F', uB S F0 sh' F' b (l ++ w) → P (k b sh' F')) : P (pd_i (pd_ob sh 13 b = true) <| Option.bind (pfJ4_append_15ec4 sh n F b s) fun q => pd_l q.1 fun r => pd_l q.2.1 fun sh' => pd_l q.2.2 fun F' => k r sh' F') := by
  have hne : s < 0 ∨ F s 0 ≠ F b 0 := by
    rcases hs with ⟨h1, -⟩ | ⟨h1, h2, h3, h4, h5⟩
    · exact Or.inl h1
    · have c1 := sh_bd h2
      have c2 := sh_bd h4
      have := hb.2.1.2
      rw [hb.1.2 s c1.2]
      exact Or.inr (by omega)
  obtain ⟨sh', F', e, y⟩ := bA.up hb (s_append (n := n) hb.2 (hb.1.tS hs) hw hne hl)
  rw [pl_i hb.ob, e]
  exact h sh' F' y
/-- a text just made goes in -/
theorem q_app1 {S1 : pd_S} {F1 : pd_F} (hb : uB S F0 S1 F1 b l) (hs : tX S1 F1 sh F s w) (hl : l.length + w.length ≤ 600) (h : ∀ sh' F', uB S F0 sh' F' b (l ++ w) → P (k b sh' F')) : P (pd_i (pd_ob sh 13 b = true) <| Option.bind (pfJ4_append_15ec4 sh n F b s) fun q => pd_l q.1 fun r => pd_l q.2.1 fun sh' => pd_l q.2.2 fun F' => k r sh' F') := by
  obtain ⟨g1, g2, g3, g4⟩ := hs
  have hne : s < 0 ∨ F s 0 ≠ F b 0 := by
    rcases g4 with g4 | g4
    · exact Or.inl g4
    · obtain ⟨-, ⟨p1, p2⟩, p3, p4, p5, ⟨m, m1, -⟩, -⟩ := hb
      have c1 := sh_bd p3
      have c2 := sh_bd m1
      rw [g1.2 b c1.2]
      exact Or.inr (by omega)
  have hb' := hb.mono g1
  obtain ⟨sh', F', e, y⟩ := bA.up hb' (s_append (n := n) hb'.2 g2 g3 hne hl)
  rw [pl_i hb'.ob, e]
  exact h sh' F' y
theorem q_chr {x : Int} (hb : uB S F0 sh F b l) (hx : 32 ≤ x ∧ x < 127) (hl : l.length + 1 ≤ 600) (h : ∀ sh' F', uB S F0 sh' F' b (l ++ [x]) → P (k b sh' F')) : P (pd_i (pd_ob sh 13 b = true) <| Option.bind (pfJ4_append_cf468 sh n F b x) fun q => pd_l q.1 fun r => pd_l q.2.1 fun sh' => pd_l q.2.2 fun F' => k r sh' F') := by
  obtain ⟨sh', F', e, y⟩ := bA.up hb (s_char (n := n) hb.2 hx hl)
  rw [pl_i hb.ob, e]
  exact h sh' F' y
theorem q_int {x : Int} (hn : 5 ≤ n) (hb : uB S F0 sh F b l) (hx : 0 ≤ x ∧ x < 10000) (hl : l.length + 4 ≤ 600) (h : ∀ sh' F', uB S F0 sh' F' b (l ++ dg x) → P (k b sh' F')) : P (pd_i (pd_ob sh 13 b = true) <| Option.bind (pfJ4_append_bf812 sh n F b x) fun q => pd_l q.1 fun r => pd_l q.2.1 fun sh' => pd_l q.2.2 fun F' => k r sh' F') := by
  obtain ⟨sh', F', e, y⟩ := bA.up hb (s_int hn hb.2 hx hl)
  rw [pl_i hb.ob, e]
  exact h sh' F' y
theorem q_str (hb : uB S F0 sh F b l) (hp : pr l) (h : ∀ t sh' F', 0 < t → tX S F0 sh' F' t l → P (k t sh' F')) : P (pd_i (pd_ob sh 13 b = true) <| Option.bind (pfJ4_toString_0e30d sh n F b) fun q => pd_l q.1 fun r => pd_l q.2.1 fun sh' => pd_l q.2.2 fun F' => k r sh' F') := by
  have hle := hb.1.1.le
  obtain ⟨t, sh', F', e, x, y, z, f⟩ := s_str (n := n) hb.2 hle
  rw [pl_i hb.ob, e]
  exact h t sh' F' (by omega) ⟨hb.1.tr ⟨x, f⟩, y, hp, Or.inr (by omega)⟩
theorem q_mk {o : Option (Int × pd_S × pd_F)} {Q : List Int → Prop} (ho : tM sh F Q o) (h : ∀ w t sh' F', Q w → tX sh F sh' F' t w → P (k t sh' F')) : P (Option.bind o fun q => pd_l q.1 fun r => pd_l q.2.1 fun sh' => pd_l q.2.2 fun F' => k r sh' F') := by
  obtain ⟨w, t, sh', F', hq, rfl, hx⟩ := ho
  exact h w t sh' F' hq hx
theorem pand_r {x : Int} {m : Nat} (hm : m < 2147483648) : 0 ≤ pd_and x m ∧ pd_and x m ≤ m := by
  unfold pd_and
  have h1 : (Int32.ofInt (m : Int)).toBitVec.toNat = m := by
    rw [Int32.toBitVec_ofInt, BitVec.toNat_ofInt]; omega
  have h2 : (Int32.ofInt x &&& Int32.ofInt (m : Int)).toBitVec.toNat ≤ m := by
    rw [Int32.toBitVec_and, BitVec.toNat_and, h1]; exact Nat.and_le_right
  have h3 : (Int32.ofInt x &&& Int32.ofInt (m : Int)).toInt = ((Int32.ofInt x &&& Int32.ofInt (m : Int)).toBitVec.toNat : Int) := by
    show BitVec.toInt _ = _
    exact BitVec.toInt_eq_toNat_of_lt (by omega)
  omega
theorem pand_lo {x : Int} : 0 ≤ pd_and x 65535 := (pand_r (x := x) (m := 65535) (by decide)).1
variable {Ls : Int} {xs : Int → Int}
theorem s_some (hL : 0 ≤ Ls) {x m : Int} (hx : 0 ≤ x) (hm : 0 < m) : ∃ v, 0 ≤ v ∧ v < m ∧ ∀ sh n F, pfL_some Ls xs sh n F x m = some (v, F) := by
  have hc : ∃ c, ∀ sh n F, pfL_cell Ls xs sh n F x = some (c, F) := by
    unfold pfL_cell
    by_cases h : Ls = 0
    · exact ⟨0, fun _ _ _ => by rw [if_neg (fun z => z h)]⟩
    · have := Int.tmod_lt_of_pos x (b := Ls) (by omega)
      have := Int.tmod_nonneg (a := x) Ls hx
      exact ⟨_, fun _ _ _ => by rw [if_pos h, pl_i h, pl_i (by omega)]⟩
  obtain ⟨c, hc⟩ := hc
  refine ⟨Int.tmod (pd_and c 65535) m, Int.tmod_nonneg _ pand_lo, Int.tmod_lt_of_pos _ hm, fun sh n F => ?_⟩
  unfold pfL_some
  rw [hc]
  simp only [pl_b, pl_l]
  rw [pl_i (by omega)]
theorem q_some {j : Int → pd_F → Option α} {x m : Int} (hL : 0 ≤ Ls) (hx : 0 ≤ x) (hm : 0 < m) (h : ∀ v, 0 ≤ v → v < m → P (j v F)) : P (Option.bind (pfL_some Ls xs sh n F x m) fun q => pd_l q.1 fun r => pd_l q.2 fun F' => j r F') := by
  obtain ⟨v, v1, v2, e⟩ := s_some (xs := xs) hL hx hm
  rw [e]
  exact h v v1 v2
theorem pwn {x : Int} (h : 0 ≤ x ∧ x < 2147483648) : 0 ≤ pd_w x := by rw [pl_w (by omega)]; exact h.1
/-- a name -/
theorem p_name {x0 c x1 : Int} (hs : tS sh F x0 [c]) (hc : 32 ≤ c ∧ c < 127) (hx : 0 ≤ x1 ∧ x1 < 26) : tM sh F (· = [c, 97 + x1]) (pfL_name sh n F x0 x1) := by
  unfold pfL_name
  refine q_new fun sh1 F1 b1 => ?_
  refine q_app b1 hs (pr1 hc) (by simp) fun sh2 F2 b2 => ?_
  have e : pd_c (pd_w (97 + x1)) = 97 + x1 := by rw [pl_w (by omega)]; exact pc127 (by omega)
  rw [e]
  refine q_chr b2 (by omega) (by simp) fun sh3 F3 b3 => ?_
  refine q_str b3 (pr2 hc (by omega)) fun t sh4 F4 _ hx => ?_
  exact ⟨_, _, _, _, rfl, rfl, hx⟩
end TXT

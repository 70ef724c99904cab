/-! strings made at run time: what the builder's members do -/
def pr (l : List Int) : Prop := ∀ k : Nat, k < l.length → 32 ≤ l.getD k 0 ∧ l.getD k 0 < 127
theorem gd_app {l w : List Int} {k : Nat} : (l ++ w).getD k 0 = if k < l.length then l.getD k 0 else w.getD (k - l.length) 0 := by
  rw [List.getD_eq_getElem?_getD, List.getElem?_append]
  split <;> rw [List.getD_eq_getElem?_getD]
theorem pr_app {l w : List Int} (h : pr l) (g : pr w) : pr (l ++ w) := by
  intro k hk
  rw [List.length_append] at hk
  rw [gd_app]
  split
  · exact h k (by assumption)
  · exact g _ (by omega)
/-- shapes grow -/
def ex (sh sh' : pd_S) : Prop := ∃ U, sh' = sh ++ U
theorem ex.rf {sh : pd_S} : ex sh sh := ⟨[], (List.append_nil _).symm⟩
theorem ex.tr {a b c : pd_S} (h : ex a b) (g : ex b c) : ex a c := by
  obtain ⟨U, rfl⟩ := h
  obtain ⟨V, rfl⟩ := g
  exact ⟨U ++ V, List.append_assoc _ _ _⟩
theorem ex.one {sh : pd_S} {q : Nat × Nat × Nat} : ex sh (sh ++ [q]) := ⟨_, rfl⟩
theorem ex.le {a b : pd_S} (h : ex a b) : (a.length : Int) ≤ b.length := by
  obtain ⟨U, rfl⟩ := h
  rw [List.length_append]; omega
theorem ex.sh {sh sh' : pd_S} (h : ex sh sh') {a : Int} {q : Nat × Nat × Nat} (hs : pd_sh sh a = some q) : pd_sh sh' a = some q := by
  obtain ⟨U, rfl⟩ := h
  unfold pd_sh at *
  split
  · rename_i h1; rw [if_pos h1] at hs; cases hs
  · rename_i h1
    rw [if_neg h1] at hs
    rw [List.getElem?_append_left (List.getElem?_eq_some_iff.mp hs).1]
    exact hs
theorem sh_bd {sh : pd_S} {a : Int} {q : Nat × Nat × Nat} (hs : pd_sh sh a = some q) : 1 ≤ a ∧ a ≤ sh.length := by
  unfold pd_sh at hs
  split at hs
  · cases hs
  · have := (List.getElem?_eq_some_iff.mp hs).1
    omega
theorem sh_new {sh : pd_S} {q : Nat × Nat × Nat} : pd_sh (sh ++ [q]) ((sh.length : Int) + 1) = some q := by
  unfold pd_sh
  rw [if_neg (by omega), show ((sh.length : Int) + 1 - 1).toNat = sh.length by omega, List.getElem?_append_right (Nat.le_refl _), Nat.sub_self]
  rfl
theorem ps0 {x : Int} (h : 0 ≤ x ∧ x < 2147483648) : pd_shl x 0 = x := by
  unfold pd_shl
  have h3 : (Int32.ofInt 0 &&& 31 : Int32) = 0 := by decide
  rw [h3, Int32.shiftLeft_zero, Int32.toInt_ofInt]
  rw [pd_w_eq, pd_w_id (by omega) (by omega)]
theorem pr0 {x : Int} (h : 0 ≤ x ∧ x < 2147483648) : pd_shr x 0 = x := pd_shr0 h
theorem cgk {sh : pd_S} {kk na nb : Nat} {a b i j m : Int} (ha : pd_sh sh a = some (0, kk, na)) (hb : pd_sh sh b = some (0, kk, nb)) (h : 0 ≤ i ∧ 0 ≤ j ∧ 0 ≤ m ∧ i + m ≤ na ∧ j + m ≤ nb) : pd_cgk sh kk a i b j m = true := by
  unfold pd_cgk
  rw [pl_ln ha, pl_ln hb]
  exact decide_eq_true h
/-- a text -/
def tS (sh : pd_S) (F : pd_F) (a : Int) (l : List Int) : Prop :=
  (a < 0 ∧ -21 ≤ a ∧ pd_slen a = l.length ∧ ∀ k : Nat, k < l.length → pd_sch a k = l.getD k 0) ∨
  (0 < a ∧ pd_sh sh a = some (4, 12, 4) ∧ F a 1 = 0 ∧ pd_sh sh (F a 0) = some (0, 1, l.length) ∧ ∀ k : Nat, k < l.length → F (F a 0) k = l.getD k 0)
/-- a builder with l, all of it above h0 -/
def bS (h0 : Int) (sh : pd_S) (F : pd_F) (b : Int) (l : List Int) : Prop :=
  (h0 < b ∧ h0 < F b 0) ∧ pd_sh sh b = some (4, 13, 4) ∧ F b 1 = 0 ∧ F b 3 = l.length ∧ (∃ m : Nat, pd_sh sh (F b 0) = some (0, 1, m) ∧ l.length ≤ m ∧ m ≤ 1200 ∧ ∀ j : Nat, j < m → -128 ≤ F (F b 0) j ∧ F (F b 0) j ≤ 127) ∧ ∀ k : Nat, k < l.length → F (F b 0) k = l.getD k 0
theorem tS.mono {sh sh' : pd_S} {F F' : pd_F} {a : Int} {l : List Int} (h : tS sh F a l) (hx : ex sh sh') (e : ∀ c : Int, c ≤ sh.length → F' c = F c) : tS sh' F' a l := by
  rcases h with h | ⟨h1, h2, h3, h4, h5⟩
  · exact Or.inl h
  · have b1 := sh_bd h2
    have b2 := sh_bd h4
    rw [← e a b1.2] at h3 h4 h5
    refine Or.inr ⟨h1, hx.sh h2, h3, hx.sh h4, fun k hk => ?_⟩
    rw [e (F' a 0) (by rw [e a b1.2]; exact b2.2)]
    exact h5 k hk
section STR
variable {sh : pd_S} {F : pd_F} {n : Nat} {h0 b s : Int} {l w : List Int}
theorem s_newLen {m : Nat} {k c d e : Int} (hk : 0 ≤ k ∧ k ≤ 600) (hm : (m : Int) < k) (hc : c = max k (2 * (m : Int) + 2)) (hd : d = k - m) (he : e = m + 2) : pfJ8_newLength_cabcc sh n F m d e = some (c, F) := by
  have e1 : (m : Int) + max d e = c := by omega
  have e2 : c ≤ 1202 ∧ 0 ≤ c := by omega
  clear hc hd
  unfold pfJ8_newLength_cabcc
  simp only [pl_l]
  rw [e1, pl_w (by omega), if_neg (by omega), if_neg (by omega)]
theorem s_newCap {m : Nat} (p3 : pd_sh sh b = some (4, 13, 4)) (p4 : F b 1 = 0) (m1 : pd_sh sh (F b 0) = some (0, 1, m)) {k c : Int} (hk : 0 ≤ k ∧ k ≤ 600) (hm : (m : Int) < k) (hc : c = max k (2 * (m : Int) + 2)) : pfJ5_newCapacity_0f7a4 sh n F b k = some (c, F) := by
  have e2 : c ≤ 1202 ∧ 0 ≤ c := by omega
  have hl := pl_ln m1
  have t2 : ∀ y x : Int, y = 0 → 0 ≤ x ∧ x < 1000 → pd_shl x y = x := fun y x hy hx => by rw [hy]; exact ps0 ⟨hx.1, by omega⟩
  have t3 : ∀ y x : Int, y = 0 → 0 ≤ x ∧ x < 2000 → pd_shr x y = x := fun y x hy hx => by rw [hy]; exact pr0 ⟨hx.1, by omega⟩
  have nl := s_newLen (sh := sh) (F := F) (n := n) (d := pd_w (pd_shl k (F b 1) - m)) (e := pd_w ((m : Int) + pd_shl 2 (F b 1))) hk hm hc (by rw [t2 _ _ p4 (by omega)]; exact pl_w (by omega)) (by rw [t2 _ 2 p4 ⟨by decide, by decide⟩]; exact pl_w (by omega))
  unfold pfJ5_newCapacity_0f7a4
  simp only [pl_ob p3, pl_iT, hl, pl_l]
  rw [pl_i (by omega), nl]
  simp only [pl_b]
  rw [if_pos (by omega), t3 _ _ p4 (by omega)]
/-- a row of bytes told anew, longer -/
theorem s_copyOf {m : Nat} {v : Int} (m1 : pd_sh sh v = some (0, 1, m)) (m4 : ∀ j : Nat, j < m → -128 ≤ F v j ∧ F v j ≤ 127) {c : Int} (hc : (m : Int) < c ∧ c ≤ 1200) :
    ∃ G, pfJ7_copyOf_9075b sh n F v c = some ((sh.length : Int) + 1, sh ++ [(0, 1, Int.toNat c)], G) ∧ (∀ a, a ≠ (sh.length : Int) + 1 → G a = F a) ∧ ∀ j : Nat, G ((sh.length : Int) + 1) j = if j < m then F v j else 0 := by
  have q2 := sh_bd m1
  have hx : ex sh (sh ++ [(0, 1, Int.toNat c)]) := ex.one
  have n1 : pd_sh (sh ++ [(0, 1, Int.toNat c)]) ((sh.length : Int) + 1) = some (0, 1, Int.toNat c) := sh_new
  have hmin : min (m : Int) c = m := by omega
  have zv : ∀ a, a ≠ (sh.length : Int) + 1 → pd_z F ((sh.length : Int) + 1) a = F a := fun a h => by
    funext j; unfold pd_z; rw [if_neg h]
  refine ⟨pd_cp (pd_z F ((sh.length : Int) + 1)) v 0 ((sh.length : Int) + 1) 0 m, ?_, fun a h => ?_, fun j => ?_⟩
  · unfold pfJ7_copyOf_9075b
    simp only [pl_l, pl_ln m1, pl_ln (hx.sh m1), hmin]
    rw [pl_i (by omega), if_pos (by omega), pl_i (by omega), pl_i (by omega), pl_i (by omega), pl_i (cgk (hx.sh m1) n1 ⟨by omega, by omega, by omega, by omega, by omega⟩), pl_i (pd_by_of fun j hj => by rw [Int.zero_add, zv _ (by omega)]; exact m4 j (by omega))]
  · funext j; unfold pd_cp; rw [if_neg (fun z => h z.1)]; exact congrFun (zv a h) j
  · unfold pd_cp
    by_cases hj : j < m
    · rw [if_pos ⟨rfl, by omega, by omega⟩, if_pos hj, zv _ (by omega)]
      congr 1; omega
    · rw [if_neg (by omega), if_neg hj]; unfold pd_z; rw [if_pos rfl]
theorem s_ensure (hb : bS h0 sh F b l) {k : Int} (hk : 0 ≤ k ∧ k ≤ 600) : ∃ sh' F', pfJ5_ensureCapacityInternal_d00df sh n F b k = some (sh', F') ∧ ex sh sh' ∧ bS h0 sh' F' b l ∧ (∃ m : Nat, pd_sh sh' (F' b 0) = some (0, 1, m) ∧ k ≤ m) ∧ (∀ a : Int, a ≤ sh.length → a ≠ b → F' a = F a) ∧ (F' b 0 = F b 0 ∨ (sh.length : Int) < F' b 0) := by
  obtain ⟨⟨p1, p2⟩, p3, p4, p5, ⟨m, m1, m2, m3, m4⟩, p6⟩ := id hb
  have q1 := sh_bd p3
  have q2 := sh_bd m1
  unfold pfJ5_ensureCapacityInternal_d00df
  simp only [pl_ob p3, pl_iT, pl_ln m1, p4, pl_l]
  rw [pl_i (by omega), pr0 (by omega), pl_w (by omega)]
  by_cases hc : k - (m : Int) ≤ 0
  · rw [if_pos hc]
    exact ⟨sh, F, rfl, ex.rf, hb, ⟨m, m1, by omega⟩, fun _ _ _ => rfl, Or.inl rfl⟩
  · rw [if_neg hc]
    obtain ⟨c, hcc⟩ : ∃ c : Int, c = max k (2 * (m : Int) + 2) := ⟨_, rfl⟩
    have c1 : k ≤ c ∧ (m : Int) < c ∧ c ≤ 1200 := by omega
    rw [s_newCap p3 p4 m1 hk (by omega) hcc]
    clear hcc
    simp only [pl_b, p4]
    rw [ps0 (by omega)]
    obtain ⟨G, co, g1, g2⟩ := s_copyOf (n := n) m1 m4 c1.2
    rw [co]
    have hx : ex sh (sh ++ [(0, 1, Int.toNat c)]) := ex.one
    have n1 : pd_sh (sh ++ [(0, 1, Int.toNat c)]) ((sh.length : Int) + 1) = some (0, 1, Int.toNat c) := sh_new
    have u0 : pd_up G b 0 ((sh.length : Int) + 1) b 0 = (sh.length : Int) + 1 := by rw [pu_r, if_pos rfl]
    have ub : ∀ j, j ≠ 0 → pd_up G b 0 ((sh.length : Int) + 1) b j = F b j := fun j hj => by rw [pu_r, if_neg hj, g1 b (by omega)]
    have un : pd_up G b 0 ((sh.length : Int) + 1) ((sh.length : Int) + 1) = G ((sh.length : Int) + 1) := pu_a (by omega)
    have fin : bS h0 (sh ++ [(0, 1, Int.toNat c)]) (pd_up G b 0 ((sh.length : Int) + 1)) b l := by
      refine ⟨⟨p1, by rw [u0]; omega⟩, hx.sh p3, by rw [ub 1 (by decide)]; exact p4, by rw [ub 3 (by decide)]; exact p5, ⟨Int.toNat c, by rw [u0]; exact n1, by omega, by omega, fun j hj => ?_⟩, fun j hj => ?_⟩
      · rw [u0, un, g2]
        split
        · exact m4 j (by assumption)
        · decide
      · rw [u0, un, g2, if_pos (by omega)]
        exact p6 j hj
    refine ⟨sh ++ [(0, 1, Int.toNat c)], pd_up G b 0 ((sh.length : Int) + 1), ?_, hx, fin, ⟨Int.toNat c, by rw [u0]; exact n1, by omega⟩, fun a ha hab => by rw [pu_a hab]; exact g1 a (by omega), Or.inr (by rw [u0]; omega)⟩
    simp only [pl_b, pl_ob (hx.sh p3), pl_iT]
theorem s_coder (hs : tS sh F s w) : pfJ0_coder_7d493_d sh n F s = some (0, F) := by
  unfold pfJ0_coder_7d493_d
  rcases hs with ⟨h1, h2, -⟩ | ⟨h1, h2, h3, -⟩
  · rw [if_pos h1, pl_i h2]
  · rw [if_neg (by omega)]
    unfold pfJ0_coder_7d493
    simp only [pl_ob h2, pl_iT, h3]
    rw [if_neg (by decide), pl_i (by decide)]
theorem s_length (hs : tS sh F s w) (hw : w.length ≤ 1200) : pfJ0_length_8abf5_d sh n F s = some ((w.length : Int), F) := by
  have hc := s_coder (n := n) hs
  unfold pfJ0_length_8abf5_d
  rcases hs with ⟨h1, h2, h3, -⟩ | ⟨h1, h2, h3, h4, h5⟩
  · rw [if_pos h1, pl_i h2, h3]
  · rw [if_neg (by omega)]
    unfold pfJ0_coder_7d493_d at hc
    rw [if_neg (by omega)] at hc
    unfold pfJ0_length_8abf5
    simp only [pl_ob h2, pl_iT, pl_ln h4, hc, pl_b, pl_l]
    rw [pl_i (by omega), pr0 (by omega)]
theorem s_put (hs : tS sh F s w) (hw : pr w) (b1 : pd_sh sh b = some (4, 13, 4)) (b2 : F b 1 = 0) {m : Nat} (b3 : pd_sh sh (F b 0) = some (0, 1, m)) (hne : s < 0 ∨ F s 0 ≠ F b 0) {i : Int} (hi : 0 ≤ i ∧ i + w.length ≤ m ∧ m ≤ 1200) :
    ∃ F', pfJ5_putStringAt_47b60 sh n F b i s = some F' ∧ (∀ c, c ≠ F b 0 → F' c = F c) ∧ ∀ q, F' (F b 0) q = if i ≤ q ∧ q < i + w.length then w.getD (q - i).toNat 0 else F (F b 0) q := by
  have hc := s_coder (n := n) hs
  have hob : pd_ob sh 12 s = true ∨ (-21 ≤ s ∧ s < 0) := by
    rcases hs with ⟨h1, h2, -⟩ | ⟨h1, h2, -⟩
    · exact Or.inr ⟨h2, h1⟩
    · exact Or.inl (by rw [pl_ob h2]; trivial)
  unfold pfJ5_putStringAt_47b60 pfJ5_inflateIfNeededFor_a7421
  simp only [pl_ob b1, pl_iT, pl_i hob, hc, pl_b, pl_l, b2]
  rw [if_neg (by decide)]
  simp only [pl_t, pl_b, b2]
  unfold pfJ0_getBytes_840e7_d
  rcases hs with ⟨h1, h2, h3, h4⟩ | ⟨h1, h2, h3, h4, h5⟩
  · rw [if_pos h1, ps0 (by omega), h3, pl_i ⟨h2, rfl, by omega, by rw [pl_ln b3]; omega⟩]
    refine ⟨_, rfl, fun c hcb => ?_, fun q => ?_⟩
    · funext q; unfold pd_cS; rw [if_neg (fun z => hcb z.1)]
    · unfold pd_cS
      by_cases hq : i ≤ q ∧ q < i + w.length
      · rw [if_pos ⟨rfl, hq⟩, if_pos hq, ← h4 _ (by omega)]
        congr 1; omega
      · rw [if_neg (fun z => hq z.2), if_neg hq]
  · rw [if_neg (by omega)]
    unfold pfJ0_coder_7d493_d at hc
    rw [if_neg (by omega)] at hc
    unfold pfJ0_getBytes_840e7
    simp only [pl_ob h2, pl_iT, hc, pl_b, pl_l, pl_ln h4]
    rw [if_neg (fun z => z rfl), pl_i (by omega), ps0 (by omega), pl_i (cgk h4 b3 ⟨by omega, by omega, by omega, by omega, by omega⟩), pl_i (pd_by_of fun j hj => by rw [Int.zero_add, h5 j (by omega)]; have := hw j (by omega); omega)]
    refine ⟨_, rfl, fun c hcb => ?_, fun q => ?_⟩
    · funext q; unfold pd_cp; rw [if_neg (fun z => hcb z.1)]
    · unfold pd_cp
      by_cases hq : i ≤ q ∧ q < i + w.length
      · rw [if_pos ⟨rfl, hq⟩, if_pos hq, ← h5 _ (by omega)]
        congr 1; omega
      · rw [if_neg (fun z => hq z.2), if_neg hq]
/-- what a builder's member leaves: the builder, longer; all that stood is as it was, but the builder's own -/
def bA (h0 : Int) (sh : pd_S) (F : pd_F) (b : Int) (l : List Int) (o : Option (Int × pd_S × pd_F)) : Prop := ∃ sh' F', o = some (b, sh', F') ∧ ex sh sh' ∧ bS h0 sh' F' b l ∧ (∀ a : Int, a ≤ sh.length → a ≠ b → a ≠ F b 0 → F' a = F a) ∧ (F' b 0 = F b 0 ∨ (sh.length : Int) < F' b 0)
theorem s_append (hb : bS h0 sh F b l) (hs : tS sh F s w) (hw : pr w) (hne : s < 0 ∨ F s 0 ≠ F b 0) (hl : l.length + w.length ≤ 600) : bA h0 sh F b (l ++ w) (pfJ4_append_15ec4 sh n F b s) := by
  obtain ⟨sh1, F1, e1, x1, y1, ⟨m, z1, z2⟩, f1, v1⟩ := s_ensure (n := n) hb (k := (l.length : Int) + w.length) (by omega)
  obtain ⟨⟨p1, p2⟩, p3, p4, p5, -, p6⟩ := id hb
  have q1 := sh_bd p3
  have hs0 : s ≠ 0 := by rcases hs with ⟨h1, -⟩ | ⟨h1, -⟩ <;> omega
  have hob : pd_ob sh 12 s = true ∨ (-21 ≤ s ∧ s < 0) := by
    rcases hs with ⟨h1, h2, -⟩ | ⟨h1, h2, -⟩
    · exact Or.inr ⟨h2, h1⟩
    · exact Or.inl (by rw [pl_ob h2]; trivial)
  have hsb : s ≠ b := fun e => by
    rcases hs with ⟨h1, -⟩ | ⟨h1, h2, -⟩
    · have := (sh_bd p3).1; omega
    · rw [e, p3] at h2; cases h2
  have hs1 : tS sh1 F1 s w := by
    rcases hs with h | ⟨h1, h2, h3, h4, h5⟩
    · exact Or.inl h
    · have c1 := sh_bd h2
      have c2 := sh_bd h4
      have c3 : F s 0 ≠ b := fun e => by rw [e, p3] at h4; cases h4
      have e2 := f1 s c1.2 hsb
      refine Or.inr ⟨h1, x1.sh h2, by rw [e2]; exact h3, by rw [e2]; exact x1.sh h4, fun k hk => ?_⟩
      rw [e2, f1 _ c2.2 c3]
      exact h5 k hk
  have hne1 : s < 0 ∨ F1 s 0 ≠ F1 b 0 := by
    rcases hs with ⟨h1, -⟩ | ⟨h1, h2, h3, h4, h5⟩
    · exact Or.inl h1
    · have c1 := sh_bd h2
      have c2 := sh_bd h4
      rw [f1 s c1.2 hsb]
      rcases v1 with v1 | v1
      · rw [v1]; exact hne
      · exact Or.inr (by omega)
  obtain ⟨⟨r1, r2⟩, r3, r4, r5, ⟨m', r6, r7, r8, r9⟩, r10⟩ := id y1
  have hmm : m' = m := by rw [r6] at z1; cases z1; rfl
  subst hmm
  obtain ⟨F2, g1, g2, g3⟩ := s_put (n := n) hs1 hw r3 r4 r6 hne1 (i := F1 b 3) (by rw [r5]; omega)
  have hbn : b ≠ F1 b 0 := fun e => by rw [← e, r3] at r6; cases r6
  rw [r5] at g1
  have e4 : pfJ4_append_15ec4 sh n F b s = some (b, sh1, pd_up F2 b 3 ((l.length : Int) + w.length)) := by
    unfold pfJ4_append_15ec4 pfJ5_append_cf1ce
    simp only [pl_ob p3, pl_iT, pl_i hs0, pl_i hob, s_length hs (by omega), pl_b, pl_l, p5]
    rw [pl_w (by omega), e1]
    simp only [pl_b, pl_ob r3, pl_iT, r5, g1, g2 b hbn]
    rw [pl_w (by omega)]
  rw [e4]
  have u3 : pd_up F2 b 3 ((l.length : Int) + w.length) b 0 = F1 b 0 := by rw [pu_r, if_neg (by decide), g2 b hbn]
  refine ⟨_, _, rfl, x1, ⟨⟨r1, by rw [u3]; exact r2⟩, r3, by rw [pu_r, if_neg (by decide), g2 b hbn]; exact r4, by rw [pu_r, if_pos rfl, List.length_append]; omega, ⟨m', by rw [u3]; exact r6, by rw [List.length_append]; omega, r8, fun j hj => ?_⟩, fun k hk => ?_⟩, fun a c1 c2 c3 => ?_, by rw [u3]; exact v1⟩
  · rw [u3, pu_a (fun e => hbn e.symm), g3]
    split
    · have := hw ((j : Int) - F1 b 3).toNat (by omega); omega
    · exact r9 j hj
  · rw [List.length_append] at hk
    rw [u3, pu_a (fun e => hbn e.symm), g3, r5, gd_app]
    by_cases hkl : k < l.length
    · rw [if_neg (by omega), if_pos hkl]; exact r10 k hkl
    · rw [if_pos (by omega), if_neg hkl]; congr 1; omega
  · rw [pu_a c2, g2 a (fun e => by rcases v1 with v1 | v1 <;> omega), f1 a c1 c2]
theorem s_char (hb : bS h0 sh F b l) {x : Int} (hx : 32 ≤ x ∧ x < 127) (hl : l.length + 1 ≤ 600) : bA h0 sh F b (l ++ [x]) (pfJ4_append_cf468 sh n F b x) := by
  obtain ⟨sh1, F1, e1, x1, y1, ⟨m, z1, z2⟩, f1, v1⟩ := s_ensure (n := n) hb (k := (l.length : Int) + 1) (by omega)
  obtain ⟨⟨p1, p2⟩, p3, p4, p5, -, p6⟩ := id hb
  have q1 := sh_bd p3
  obtain ⟨⟨r1, r2⟩, r3, r4, r5, ⟨m', r6, r7, r8, r9⟩, r10⟩ := id y1
  have hmm : m' = m := by rw [r6] at z1; cases z1; rfl
  subst hmm
  have hbn : b ≠ F1 b 0 := fun e => by rw [← e, r3] at r6; cases r6
  have e4 : pfJ4_append_cf468 sh n F b x = some (b, sh1, pd_up (pd_up F1 b 3 ((l.length : Int) + 1)) (F1 b 0) l.length x) := by
    unfold pfJ4_append_cf468 pfJ5_append_3fe6f pfJ5_isLatin1_aae02 pfJ1_canEncode_fc78d
    simp only [pl_ob p3, pl_iT, p5]
    rw [pl_w (by omega), e1]
    simp only [pl_b, pl_l, pl_ob r3, pl_iT, r4]
    rw [if_neg (by decide), if_neg (fun z => z rfl)]
    simp only [pl_b]
    rw [if_neg (by decide), if_neg (by omega)]
    simp only [pl_b, r5, pl_ib r6]
    have eb : pd_b x = x := pl_by (by omega)
    rw [if_neg (by decide), pl_w (by omega), pl_i (by omega), eb, eb]
    simp only [pl_b]
  rw [e4]
  have ub : pd_up (pd_up F1 b 3 ((l.length : Int) + 1)) (F1 b 0) l.length x b = pd_up F1 b 3 ((l.length : Int) + 1) b := pu_a hbn
  have u3 : pd_up (pd_up F1 b 3 ((l.length : Int) + 1)) (F1 b 0) l.length x b 0 = F1 b 0 := by rw [ub, pu_r, if_neg (by decide)]
  refine ⟨_, _, rfl, x1, ⟨⟨r1, by rw [u3]; exact r2⟩, r3, by rw [ub, pu_r, if_neg (by decide)]; exact r4, by rw [ub, pu_r, if_pos rfl, List.length_append]; rfl, ⟨m', by rw [u3]; exact r6, by rw [List.length_append]; show l.length + 1 ≤ _; omega, r8, fun j hj => ?_⟩, fun k hk => ?_⟩, fun a c1 c2 c3 => ?_, by rw [u3]; exact v1⟩
  · rw [u3, pu_r]
    split
    · omega
    · rw [pu_a (fun e => hbn e.symm)]; exact r9 j hj
  · rw [List.length_append] at hk
    have hk : k < l.length + 1 := hk
    rw [u3, pu_r, gd_app]
    by_cases hkl : k < l.length
    · rw [if_neg (by omega), if_pos hkl, pu_a (fun e => hbn e.symm)]; exact r10 k hkl
    · rw [if_pos (by omega), if_neg hkl, show k - l.length = 0 by omega]; rfl
  · rw [pu_a (fun e => by rcases v1 with v1 | v1 <;> omega), pu_a c2, f1 a c1 c2]
end STR

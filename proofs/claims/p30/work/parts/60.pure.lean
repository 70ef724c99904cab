/-! the pure part: words -/
theorem pl_i {α : Type} {p : Prop} [Decidable p] {x : Option α} (h : p) : pd_i p x = x := by unfold pd_i; rw [if_pos h]
theorem pl_iT {α : Type} {x : Option α} : pd_i True x = x := by unfold pd_i; rw [if_pos trivial]
theorem pl_t {α : Type} {x y : α} [Decidable True] : (if True then x else y) = x := if_pos trivial
theorem pl_f {α : Type} {x y : α} [Decidable False] : (if False then x else y) = y := if_neg not_false
theorem pl_l {α β : Type} (x : α) (f : α → β) : pd_l x f = f x := rfl
theorem pl_b {α β : Type} (x : α) (f : α → Option β) : Option.bind (some x) f = f x := rfl
theorem pl_w {x : Int} (h : -2147483648 ≤ x ∧ x < 2147483648) : pd_w x = x := by unfold pd_w; omega
theorem pl_W {x : Int} (h : -9223372036854775808 ≤ x ∧ x < 9223372036854775808) : pd_W x = x := by unfold pd_W; omega
theorem pl_by {x : Int} (h : -128 ≤ x ∧ x < 128) : pd_b x = x := by unfold pd_b; omega
theorem pl_wr (x : Int) : -2147483648 ≤ pd_w x ∧ pd_w x < 2147483648 := by unfold pd_w; omega
theorem pl_Wr (x : Int) : -9223372036854775808 ≤ pd_W x ∧ pd_W x < 9223372036854775808 := by unfold pd_W; omega
theorem pl_ib {sh : pd_S} {c k n : Nat} {a i : Int} (h : pd_sh sh a = some (c, k, n)) : (pd_ib sh c k a i = true) = (0 ≤ i ∧ i < (n : Int)) := by
  unfold pd_ib; rw [h]; simp
theorem pl_ob {sh : pd_S} {k n : Nat} {a : Int} (h : pd_sh sh a = some (4, k, n)) : (pd_ob sh k a = true) = True := by
  unfold pd_ob; rw [h]; simp
theorem pl_ln {sh : pd_S} {c k n : Nat} {a : Int} (h : pd_sh sh a = some (c, k, n)) : pd_ln sh c k a = (n : Int) := by
  unfold pd_ln; rw [h]; simp
/-- a loop with a counter: P at each head, res of what comes out -/
theorem pl_for {σ R : Type} {f : Nat → σ → Int → Option R} {P : Int → σ → Prop} {N : Int} {res : Option R → Prop}
    (hs : ∀ k q i, 0 ≤ i → i < N → P i q → (∃ q', P (i + 1) q' ∧ f (k + 1) q i = f k q' (i + 1)) ∨ res (f (k + 1) q i))
    (he : ∀ k q, P N q → res (f (k + 1) q N)) : ∀ (k : Nat) (q : σ) (i : Int), 0 ≤ i → i ≤ N → N - i < (k : Int) → P i q → res (f k q i)
  | 0, q, i, h0, h1, hk, hp => by omega
  | k + 1, q, i, h0, h1, hk, hp => by
    rcases Int.lt_or_eq_of_le h1 with h | h
    · rcases hs k q i h0 h hp with ⟨q', hq, e⟩ | hr
      · rw [e]; exact pl_for hs he k q' (i + 1) (by omega) (by omega) (by omega) hq
      · exact hr
    · subst h; exact he k q hp
/-- the same from any head, counting down a measure -/
theorem pl_whl {σ R : Type} {f : Nat → σ → Option R} {P : Nat → σ → Prop} {res : Option R → Prop}
    (hs : ∀ k m q, P m q → (∃ m' q', m' < m ∧ P m' q' ∧ f (k + 1) q = f k q') ∨ res (f (k + 1) q)) : ∀ (k m : Nat) (q : σ), m < k → P m q → res (f k q)
  | 0, m, q, hk, hp => by omega
  | k + 1, m, q, hk, hp => by
    rcases hs k m q hp with ⟨m', q', hm, hq, e⟩ | hr
    · rw [e]; exact pl_whl hs k m' q' (by omega) hq
    · exact hr

/-! the layout -/
def pd_SB : pd_S := [(4, 11, 10), (4, 6, 3), (4, 9, 9), (0, 1, 1000), (4, 0, 15), (2, 5, 12), (2, 2, 5), (2, 2, 10), (0, 0, 10), (2, 1, 6), (2, 1, 8), (0, 0, 3), (0, 0, 36), (0, 0, 36), (4, 5, 5), (0, 0, 3), (4, 5, 5), (0, 0, 3), (4, 5, 5), (0, 0, 3), (4, 5, 5), (0, 0, 3), (4, 5, 5), (0, 0, 3), (4, 5, 5), (0, 0, 3), (4, 5, 5), (0, 0, 3), (4, 5, 5), (0, 0, 3), (4, 5, 5), (0, 0, 3), (4, 5, 5), (0, 0, 3), (4, 5, 5), (0, 0, 3), (4, 5, 5), (0, 0, 3), (4, 2, 8), (0, 0, 5), (0, 0, 5), (0, 0, 12), (4, 2, 8), (0, 0, 5), (0, 0, 5), (0, 0, 12), (4, 2, 8), (0, 0, 5), (0, 0, 5), (0, 0, 12), (4, 2, 8), (0, 0, 5), (0, 0, 5), (0, 0, 12), (4, 2, 8), (0, 0, 5), (0, 0, 5), (0, 0, 12), (4, 2, 8), (0, 0, 5), (0, 0, 5), (0, 0, 12), (4, 2, 8), (0, 0, 5), (0, 0, 5), (0, 0, 12), (4, 2, 8), (0, 0, 5), (0, 0, 5), (0, 0, 12), (4, 2, 8), (0, 0, 5), (0, 0, 5), (0, 0, 12), (4, 2, 8), (0, 0, 5), (0, 0, 5), (0, 0, 12), (4, 2, 8), (0, 0, 5), (0, 0, 5), (0, 0, 12), (4, 2, 8), (0, 0, 5), (0, 0, 5), (0, 0, 12), (4, 2, 8), (0, 0, 5), (0, 0, 5), (0, 0, 12), (4, 2, 8), (0, 0, 5), (0, 0, 5), (0, 0, 12), (4, 2, 8), (0, 0, 5), (0, 0, 5), (0, 0, 12), (4, 1, 4), (4, 1, 4), (4, 1, 4), (4, 1, 4), (4, 1, 4), (4, 1, 4), (4, 1, 4), (4, 1, 4), (4, 1, 4), (4, 1, 4), (4, 1, 4), (4, 1, 4), (4, 1, 4), (4, 1, 4), (4, 3, 5), (2, 8, 16), (2, 8, 3), (0, 2, 3), (4, 8, 6), (0, 0, 10), (0, 0, 3), (0, 0, 31), (0, 0, 31), (4, 8, 6), (0, 0, 10), (0, 0, 3), (0, 0, 31), (0, 0, 31), (4, 8, 6), (0, 0, 10), (0, 0, 3), (0, 0, 31), (0, 0, 31), (4, 8, 6), (0, 0, 10), (0, 0, 3), (0, 0, 31), (0, 0, 31), (4, 8, 6), (0, 0, 10), (0, 0, 3), (0, 0, 31), (0, 0, 31), (4, 8, 6), (0, 0, 10), (0, 0, 3), (0, 0, 31), (0, 0, 31), (4, 8, 6), (0, 0, 10), (0, 0, 3), (0, 0, 31), (0, 0, 31), (4, 8, 6), (0, 0, 10), (0, 0, 3), (0, 0, 31), (0, 0, 31), (4, 8, 6), (0, 0, 10), (0, 0, 3), (0, 0, 31), (0, 0, 31), (4, 8, 6), (0, 0, 10), (0, 0, 3), (0, 0, 31), (0, 0, 31), (4, 8, 6), (0, 0, 10), (0, 0, 3), (0, 0, 31), (0, 0, 31), (4, 8, 6), (0, 0, 10), (0, 0, 3), (0, 0, 31), (0, 0, 31), (4, 8, 6), (0, 0, 10), (0, 0, 3), (0, 0, 31), (0, 0, 31), (4, 8, 6), (0, 0, 10), (0, 0, 3), (0, 0, 31), (0, 0, 31), (4, 8, 6), (0, 0, 10), (0, 0, 3), (0, 0, 31), (0, 0, 31), (4, 8, 6), (0, 0, 10), (0, 0, 3), (0, 0, 31), (0, 0, 31), (4, 8, 6), (0, 0, 10), (0, 0, 3), (0, 0, 31), (0, 0, 31), (4, 8, 6), (0, 0, 10), (0, 0, 3), (0, 0, 31), (0, 0, 31), (4, 8, 6), (0, 0, 10), (0, 0, 3), (0, 0, 31), (0, 0, 31), (4, 7, 2), (3, 0, 10), (0, 0, 12), (0, 0, 12), (0, 0, 12), (0, 0, 12), (0, 0, 12), (0, 0, 12), (0, 0, 12), (0, 0, 12), (0, 0, 12), (0, 0, 12), (3, 0, 6), (0, 0, 12), (0, 0, 12), (0, 0, 12), (0, 0, 12), (0, 0, 12), (0, 0, 12), (4, 8, 6), (0, 0, 10), (0, 0, 3), (0, 0, 31), (0, 0, 31), (4, 4, 7), (4, 10, 4), (0, 0, 12), (0, 0, 12), (0, 0, 12), (1, 0, 12), (1, 0, 12), (1, 0, 12), (0, 2, 12), (4, 8, 6), (0, 0, 10), (0, 0, 3), (0, 0, 31), (0, 0, 31), (4, 4, 7), (4, 10, 4), (0, 0, 12), (0, 0, 12), (0, 0, 12), (1, 0, 12), (1, 0, 12), (1, 0, 12), (0, 2, 12), (4, 0, 15), (2, 5, 12), (2, 2, 5), (2, 2, 10), (0, 0, 10), (2, 1, 6), (2, 1, 8), (0, 0, 3), (0, 0, 36), (0, 0, 36), (4, 5, 5), (0, 0, 3), (4, 5, 5), (0, 0, 3), (4, 5, 5), (0, 0, 3), (4, 5, 5), (0, 0, 3), (4, 5, 5), (0, 0, 3), (4, 5, 5), (0, 0, 3), (4, 5, 5), (0, 0, 3), (4, 5, 5), (0, 0, 3), (4, 5, 5), (0, 0, 3), (4, 5, 5), (0, 0, 3), (4, 5, 5), (0, 0, 3), (4, 5, 5), (0, 0, 3), (4, 2, 8), (0, 0, 5), (0, 0, 5), (0, 0, 12), (4, 2, 8), (0, 0, 5), (0, 0, 5), (0, 0, 12), (4, 2, 8), (0, 0, 5), (0, 0, 5), (0, 0, 12), (4, 2, 8), (0, 0, 5), (0, 0, 5), (0, 0, 12), (4, 2, 8), (0, 0, 5), (0, 0, 5), (0, 0, 12), (4, 2, 8), (0, 0, 5), (0, 0, 5), (0, 0, 12), (4, 2, 8), (0, 0, 5), (0, 0, 5), (0, 0, 12), (4, 2, 8), (0, 0, 5), (0, 0, 5), (0, 0, 12), (4, 2, 8), (0, 0, 5), (0, 0, 5), (0, 0, 12), (4, 2, 8), (0, 0, 5), (0, 0, 5), (0, 0, 12), (4, 2, 8), (0, 0, 5), (0, 0, 5), (0, 0, 12), (4, 2, 8), (0, 0, 5), (0, 0, 5), (0, 0, 12), (4, 2, 8), (0, 0, 5), (0, 0, 5), (0, 0, 12), (4, 2, 8), (0, 0, 5), (0, 0, 5), (0, 0, 12), (4, 2, 8), (0, 0, 5), (0, 0, 5), (0, 0, 12), (4, 1, 4), (4, 1, 4), (4, 1, 4), (4, 1, 4), (4, 1, 4), (4, 1, 4), (4, 1, 4), (4, 1, 4), (4, 1, 4), (4, 1, 4), (4, 1, 4), (4, 1, 4), (4, 1, 4), (4, 1, 4)]
def pd_SH (T : pd_S) : pd_S := pd_SB ++ T
theorem pd_SB_l : pd_SB.length = 366 := by decide +kernel
theorem pd_SH_l {T : pd_S} : (pd_SH T).length = 366 + T.length := by unfold pd_SH; rw [List.length_append, pd_SB_l]
theorem pd_SH_app {T U : pd_S} : pd_SH T ++ U = pd_SH (T ++ U) := List.append_assoc _ _ _
theorem pd_SH_nil : pd_SH [] = pd_SB := List.append_nil _
theorem pd_shA {T : pd_S} {a : Int} {q : Nat × Nat × Nat} (h : pd_sh pd_SB a = some q) : pd_sh (pd_SH T) a = some q := by
  unfold pd_sh pd_SH at *
  split
  · rename_i h1; rw [if_pos h1] at h; cases h
  · rename_i h1
    rw [if_neg h1] at h
    rw [List.getElem?_append_left (List.getElem?_eq_some_iff.mp h).1]
    exact h
theorem pd_shB {T : pd_S} {a : Int} (h : a ≤ 366) : pd_sh (pd_SH T) a = pd_sh pd_SB a := by
  unfold pd_sh pd_SH
  split
  · rfl
  · rw [List.getElem?_append_left (by rw [pd_SB_l]; omega)]
theorem pd_shT {T : pd_S} {a : Int} {q : Nat × Nat × Nat} (h : pd_sh (pd_SH []) a = some q) : pd_sh (pd_SH T) a = some q := by
  rw [pd_SH_nil] at h
  exact pd_shA h
def pd_mk : Option (pd_S × pd_F × Int) :=
  pd_l (([] : pd_S).length + 1 : Int) fun a => pd_l (pd_z (fun _ _ => 0) (([] : pd_S).length + 1)) fun F => pd_l (([] : pd_S) ++ [(4, 11, 10)]) fun sh =>
  Option.bind (pfX11_init sh F a) fun q => pd_l q.1 fun sh1 => pd_l q.2 fun F1 =>
  some (sh1, F1, a)
/-- the cells that are laid once: rows of references, and reference fields but told and the reader's book -/
def pd_rs : Nat → List Int
  | 0 => [0, 1, 2, 3, 4, 5, 6, 7, 8] | 2 => [0, 1, 2] | 3 => [0, 1, 2] | 4 => [0, 1, 2, 3, 4] | 5 => [0] | 6 => [0] | 7 => [0, 1] | 8 => [0, 1, 2, 3] | 9 => [0] | 10 => [0, 1, 2]
  | 11 => [0, 1, 2, 3, 4, 5, 6, 7] | _ => []
def pd_rc (a j : Int) : Bool := match pd_sh pd_SB a with
  | some (c, k, n) => if c = 4 then (pd_rs k).contains j else if c = 2 ∨ c = 3 then decide (0 ≤ j ∧ j < n) else false
  | none => false
def pd_F0 : pd_F := match pd_mk with | some q => q.2.1 | none => fun _ _ => 0
/-- the memory's references lie as they were laid -/
def pd_Ly (F : pd_F) : Prop := ∀ a j, pd_rc a j = true → F a j = pd_F0 a j
theorem pd_Ly.up {F : pd_F} {a i v : Int} (h : pd_Ly F) (hr : pd_rc a i = false) : pd_Ly (pd_up F a i v) := by
  intro b j hb
  by_cases e : b = a ∧ j = i
  · rw [e.1, e.2, hr] at hb; cases hb
  · show (if b = a ∧ j = i then v else F b j) = _
    rw [if_neg e]; exact h b j hb
theorem pl_rcH {T : pd_S} {a j : Int} {q : Nat × Nat × Nat} (h : pd_sh (pd_SH T) a = some q) : pd_sh pd_SB a = some q ∨ pd_rc a j = false := by
  by_cases ha : a ≤ 366
  · rw [pd_shB ha] at h; exact Or.inl h
  · refine Or.inr ?_
    have e : pd_sh pd_SB a = none := by
      unfold pd_sh
      rw [if_neg (by omega), List.getElem?_eq_none (by rw [pd_SB_l]; omega)]
    unfold pd_rc; rw [e]
theorem pd_rc_hi {a j : Int} (ha : 366 < a ∨ a < 1) : pd_rc a j = false := by
  have e : pd_sh pd_SB a = none := by
    unfold pd_sh
    split
    · rfl
    · rw [List.getElem?_eq_none (by rw [pd_SB_l]; omega)]
  unfold pd_rc; rw [e]
theorem pl_rc0 {T : pd_S} {a j : Int} {c k n : Nat} (h : pd_sh (pd_SH T) a = some (c, k, n)) (hc : c < 2) : pd_rc a j = false := by
  rcases pl_rcH (j := j) h with h | h
  · unfold pd_rc; rw [h]
    show (if c = 4 then _ else if c = 2 ∨ c = 3 then _ else false) = false
    rw [if_neg (by omega), if_neg (by omega)]
  · exact h
theorem pl_rc4 {T : pd_S} {a j : Int} {k n : Nat} (h : pd_sh (pd_SH T) a = some (4, k, n)) (hc : (pd_rs k).contains j = false) : pd_rc a j = false := by
  rcases pl_rcH (j := j) h with h | h
  · unfold pd_rc; rw [h]; simpa using hc
  · exact h
def pd_vs : List (Int × Int × Int) := [(3, 0, 4), (2, 0, 3), (5, 0, 6), (5, 1, 7), (5, 2, 8), (5, 3, 9), (5, 4, 10), (5, 5, 11), (5, 6, 12), (5, 7, 13), (5, 8, 14), (15, 0, 16), (6, 0, 15), (17, 0, 18), (6, 1, 17), (19, 0, 20), (6, 2, 19), (21, 0, 22), (6, 3, 21), (23, 0, 24), (6, 4, 23), (25, 0, 26), (6, 5, 25), (27, 0, 28), (6, 6, 27), (29, 0, 30), (6, 7, 29), (31, 0, 32), (6, 8, 31), (33, 0, 34), (6, 9, 33), (35, 0, 36), (6, 10, 35), (37, 0, 38), (6, 11, 37), (39, 0, 40), (39, 1, 41), (39, 2, 42), (7, 0, 39), (43, 0, 44), (43, 1, 45), (43, 2, 46), (7, 1, 43), (47, 0, 48), (47, 1, 49), (47, 2, 50), (7, 2, 47), (51, 0, 52), (51, 1, 53), (51, 2, 54), (7, 3, 51), (55, 0, 56), (55, 1, 57), (55, 2, 58), (7, 4, 55), (59, 0, 60), (59, 1, 61), (59, 2, 62), (8, 0, 59), (63, 0, 64), (63, 1, 65), (63, 2, 66), (8, 1, 63), (67, 0, 68), (67, 1, 69), (67, 2, 70), (8, 2, 67), (71, 0, 72), (71, 1, 73), (71, 2, 74), (8, 3, 71), (75, 0, 76), (75, 1, 77), (75, 2, 78), (8, 4, 75), (79, 0, 80), (79, 1, 81), (79, 2, 82), (8, 5, 79), (83, 0, 84), (83, 1, 85), (83, 2, 86), (8, 6, 83), (87, 0, 88), (87, 1, 89), (87, 2, 90), (8, 7, 87), (91, 0, 92), (91, 1, 93), (91, 2, 94), (8, 8, 91), (95, 0, 96), (95, 1, 97), (95, 2, 98), (8, 9, 95), (10, 0, 99), (10, 1, 100), (10, 2, 101), (10, 3, 102), (10, 4, 103), (10, 5, 104), (11, 0, 105), (11, 1, 106), (11, 2, 107), (11, 3, 108), (11, 4, 109), (11, 5, 110), (11, 6, 111), (11, 7, 112), (1, 0, 2), (1, 1, 3), (113, 0, 114), (113, 1, 115), (113, 2, 116), (117, 0, 118), (117, 1, 119), (117, 2, 120), (117, 3, 121), (114, 0, 117), (122, 0, 123), (122, 1, 124), (122, 2, 125), (122, 3, 126), (114, 1, 122), (127, 0, 128), (127, 1, 129), (127, 2, 130), (127, 3, 131), (114, 2, 127), (132, 0, 133), (132, 1, 134), (132, 2, 135), (132, 3, 136), (114, 3, 132), (137, 0, 138), (137, 1, 139), (137, 2, 140), (137, 3, 141), (114, 4, 137), (142, 0, 143), (142, 1, 144), (142, 2, 145), (142, 3, 146), (114, 5, 142), (147, 0, 148), (147, 1, 149), (147, 2, 150), (147, 3, 151), (114, 6, 147), (152, 0, 153), (152, 1, 154), (152, 2, 155), (152, 3, 156), (114, 7, 152), (157, 0, 158), (157, 1, 159), (157, 2, 160), (157, 3, 161), (114, 8, 157), (162, 0, 163), (162, 1, 164), (162, 2, 165), (162, 3, 166), (114, 9, 162), (167, 0, 168), (167, 1, 169), (167, 2, 170), (167, 3, 171), (114, 10, 167), (172, 0, 173), (172, 1, 174), (172, 2, 175), (172, 3, 176), (114, 11, 172), (177, 0, 178), (177, 1, 179), (177, 2, 180), (177, 3, 181), (114, 12, 177), (182, 0, 183), (182, 1, 184), (182, 2, 185), (182, 3, 186), (114, 13, 182), (187, 0, 188), (187, 1, 189), (187, 2, 190), (187, 3, 191), (114, 14, 187), (192, 0, 193), (192, 1, 194), (192, 2, 195), (192, 3, 196), (114, 15, 192), (197, 0, 198), (197, 1, 199), (197, 2, 200), (197, 3, 201), (115, 0, 197), (202, 0, 203), (202, 1, 204), (202, 2, 205), (202, 3, 206), (115, 1, 202), (207, 0, 208), (207, 1, 209), (207, 2, 210), (207, 3, 211), (115, 2, 207), (1, 2, 113), (212, 0, 213), (213, 0, 214), (213, 1, 215), (213, 2, 216), (213, 3, 217), (213, 4, 218), (213, 5, 219), (213, 6, 220), (213, 7, 221), (213, 8, 222), (213, 9, 223), (212, 1, 224), (224, 0, 225), (224, 1, 226), (224, 2, 227), (224, 3, 228), (224, 4, 229), (224, 5, 230), (1, 3, 212), (231, 0, 232), (231, 1, 233), (231, 2, 234), (231, 3, 235), (1, 4, 231), (237, 0, 238), (237, 1, 239), (237, 2, 240), (236, 0, 237), (236, 1, 241), (236, 2, 242), (236, 3, 243), (236, 4, 244), (1, 5, 236), (245, 0, 246), (245, 1, 247), (245, 2, 248), (245, 3, 249), (1, 6, 245), (251, 0, 252), (251, 1, 253), (251, 2, 254), (250, 0, 251), (250, 1, 255), (250, 2, 256), (250, 3, 257), (250, 4, 258), (1, 7, 250), (259, 0, 260), (259, 1, 261), (259, 2, 262), (259, 3, 263), (259, 4, 264), (259, 5, 265), (259, 6, 266), (259, 7, 267), (259, 8, 268), (269, 0, 270), (260, 0, 269), (271, 0, 272), (260, 1, 271), (273, 0, 274), (260, 2, 273), (275, 0, 276), (260, 3, 275), (277, 0, 278), (260, 4, 277), (279, 0, 280), (260, 5, 279), (281, 0, 282), (260, 6, 281), (283, 0, 284), (260, 7, 283), (285, 0, 286), (260, 8, 285), (287, 0, 288), (260, 9, 287), (289, 0, 290), (260, 10, 289), (291, 0, 292), (260, 11, 291), (293, 0, 294), (293, 1, 295), (293, 2, 296), (261, 0, 293), (297, 0, 298), (297, 1, 299), (297, 2, 300), (261, 1, 297), (301, 0, 302), (301, 1, 303), (301, 2, 304), (261, 2, 301), (305, 0, 306), (305, 1, 307), (305, 2, 308), (261, 3, 305), (309, 0, 310), (309, 1, 311), (309, 2, 312), (261, 4, 309), (313, 0, 314), (313, 1, 315), (313, 2, 316), (262, 0, 313), (317, 0, 318), (317, 1, 319), (317, 2, 320), (262, 1, 317), (321, 0, 322), (321, 1, 323), (321, 2, 324), (262, 2, 321), (325, 0, 326), (325, 1, 327), (325, 2, 328), (262, 3, 325), (329, 0, 330), (329, 1, 331), (329, 2, 332), (262, 4, 329), (333, 0, 334), (333, 1, 335), (333, 2, 336), (262, 5, 333), (337, 0, 338), (337, 1, 339), (337, 2, 340), (262, 6, 337), (341, 0, 342), (341, 1, 343), (341, 2, 344), (262, 7, 341), (345, 0, 346), (345, 1, 347), (345, 2, 348), (262, 8, 345), (349, 0, 350), (349, 1, 351), (349, 2, 352), (262, 9, 349), (264, 0, 353), (264, 1, 354), (264, 2, 355), (264, 3, 356), (264, 4, 357), (264, 5, 358), (265, 0, 359), (265, 1, 360), (265, 2, 361), (265, 3, 362), (265, 4, 363), (265, 5, 364), (265, 6, 365), (265, 7, 366)]
def pd_is : List (Int × Int × Int) := [(119, 1, 100000), (119, 2, 50000), (124, 1, 100000), (124, 2, 50000), (129, 1, 100000), (129, 2, 50000), (134, 1, 100000), (134, 2, 50000), (139, 1, 100000), (139, 2, 50000), (144, 1, 100000), (144, 2, 50000), (149, 1, 100000), (149, 2, 50000), (154, 1, 100000), (154, 2, 50000), (159, 1, 100000), (159, 2, 50000), (164, 1, 100000), (164, 2, 50000), (169, 1, 100000), (169, 2, 50000), (174, 1, 100000), (174, 2, 50000), (179, 1, 100000), (179, 2, 50000), (184, 1, 100000), (184, 2, 50000), (189, 1, 100000), (189, 2, 50000), (194, 1, 100000), (194, 2, 50000), (199, 1, 100000), (199, 2, 50000), (204, 1, 100000), (204, 2, 50000), (209, 1, 100000), (209, 2, 50000), (233, 1, 100000), (233, 2, 50000), (247, 1, 100000), (247, 2, 50000), (1, 8, 259), (2, 1, 5), (3, 1, 0), (1, 9, 0), (237, 3, 0), (236, 5, 0), (236, 6, 0), (231, 4, 0), (231, 5, 0), (113, 3, 0), (113, 4, 0), (259, 9, 0), (259, 10, 0), (259, 11, 0), (259, 12, 0), (259, 13, 0), (259, 14, 0), (233, 0, 0), (116, 0, 0), (116, 1, 0), (116, 2, 0)]
def pd_mc : Bool := match pd_mk with
  | some (sh, F, a) => decide (sh = pd_SB) && decide (a = 1) && (pd_vs ++ pd_is).all (fun q => decide (F q.1 q.2.1 = q.2.2))
  | none => false
set_option maxRecDepth 100000 in
theorem pd_mc_ok : pd_mc = true := by decide +kernel
theorem pd_mk_ok : ∃ q, pd_mk = some q ∧ q.1 = pd_SB ∧ q.2.1 = pd_F0 ∧ q.2.2 = 1 ∧ ∀ z ∈ pd_vs ++ pd_is, pd_F0 z.1 z.2.1 = z.2.2 := by
  have h := pd_mc_ok
  unfold pd_mc at h
  cases e : pd_mk with
  | none => rw [e] at h; cases h
  | some q =>
    rw [e] at h
    obtain ⟨sh, F, a⟩ := q
    simp only [Bool.and_eq_true, decide_eq_true_eq, List.all_eq_true] at h
    have hF : pd_F0 = F := by unfold pd_F0; rw [e]
    refine ⟨_, rfl, h.1.1, hF.symm, h.1.2, ?_⟩
    rw [hF]; exact h.2
theorem pd_vs_rc : pd_vs.all (fun q => pd_rc q.1 q.2.1) = true := by decide +kernel
def pd_in3 (l : List (Int × Int × Int)) (a j v : Int) : Bool := l.any (fun q => decide (q.1 = a) && (decide (q.2.1 = j) && decide (q.2.2 = v)))
theorem pd_in3_m {l : List (Int × Int × Int)} {a j v : Int} (h : pd_in3 l a j v = true) : (a, j, v) ∈ l := by
  unfold pd_in3 at h
  obtain ⟨q, h1, h2⟩ := List.any_eq_true.mp h
  simp only [Bool.and_eq_true, decide_eq_true_eq] at h2
  obtain ⟨q1, q2, q3⟩ := q
  obtain ⟨e1, e2, e3⟩ := h2
  subst e1 e2 e3
  exact h1
theorem pd_F0v {a j v : Int} (h : pd_in3 pd_vs a j v = true) : pd_F0 a j = v := by
  obtain ⟨q, -, -, -, -, h2⟩ := pd_mk_ok
  exact h2 (a, j, v) (List.mem_append_left _ (pd_in3_m h))
theorem pd_F0i {a j v : Int} (h : pd_in3 pd_is a j v = true) : pd_F0 a j = v := by
  obtain ⟨q, -, -, -, -, h2⟩ := pd_mk_ok
  exact h2 (a, j, v) (List.mem_append_right _ (pd_in3_m h))
theorem pd_Ly.v {F : pd_F} {a j v : Int} (hL : pd_Ly F) (h : pd_in3 pd_vs a j v = true) : F a j = v :=
  (hL a j (List.all_eq_true.mp pd_vs_rc (a, j, v) (pd_in3_m h))).trans (pd_F0v h)
theorem pu_a {F : pd_F} {a i v b : Int} (h : b ≠ a) : pd_up F a i v b = F b := by
  funext j; exact pd_up_a h
theorem pu_r {F : pd_F} {a i v j : Int} : pd_up F a i v a j = if j = i then v else F a j := by
  by_cases e : j = i
  · rw [if_pos e, e]; exact pd_up_eq
  · rw [if_neg e]; exact pd_up_i e
/-! addresses -/
def aT (t : Int) : Prop := t = 237 ∨ t = 251
def aL (l : Int) : Prop := l = 236 ∨ l = 250
def aB (b : Int) : Prop := b = 5 ∨ b = 259
def aS (s : Int) : Prop := s = 231 ∨ s = 245 ∨ ∃ j, 0 ≤ j ∧ j < 19 ∧ s = 117 + 5 * j
theorem ly_t {F : pd_F} {t : Int} (hL : pd_Ly F) (h : aT t) : F t 0 = t + 1 ∧ F t 1 = t + 2 ∧ F t 2 = t + 3 := by
  rcases h with rfl | rfl <;> exact ⟨hL.v (by decide +kernel), hL.v (by decide +kernel), hL.v (by decide +kernel)⟩
theorem sh_t {sT : pd_S} {t : Int} (h : aT t) : pd_sh (pd_SH sT) t = some (4, 10, 4) ∧ pd_sh (pd_SH sT) (t + 1) = some (0, 0, 12) ∧ pd_sh (pd_SH sT) (t + 2) = some (0, 0, 12) ∧ pd_sh (pd_SH sT) (t + 3) = some (0, 0, 12) := by
  rcases h with rfl | rfl <;> exact ⟨pd_shA (by decide +kernel), pd_shA (by decide +kernel), pd_shA (by decide +kernel), pd_shA (by decide +kernel)⟩
theorem ly_l {F : pd_F} {l : Int} (hL : pd_Ly F) (h : aL l) : F l 0 = l + 1 ∧ F l 1 = l + 5 ∧ F l 2 = l + 6 ∧ F l 3 = l + 7 ∧ F l 4 = l + 8 := by
  rcases h with rfl | rfl <;> exact ⟨hL.v (by decide +kernel), hL.v (by decide +kernel), hL.v (by decide +kernel), hL.v (by decide +kernel), hL.v (by decide +kernel)⟩
theorem sh_l {sT : pd_S} {l : Int} (h : aL l) : pd_sh (pd_SH sT) l = some (4, 4, 7) ∧ pd_sh (pd_SH sT) (l + 5) = some (1, 0, 12) ∧ pd_sh (pd_SH sT) (l + 6) = some (1, 0, 12) ∧ pd_sh (pd_SH sT) (l + 7) = some (1, 0, 12) ∧ pd_sh (pd_SH sT) (l + 8) = some (0, 2, 12) := by
  rcases h with rfl | rfl <;> exact ⟨pd_shA (by decide +kernel), pd_shA (by decide +kernel), pd_shA (by decide +kernel), pd_shA (by decide +kernel), pd_shA (by decide +kernel)⟩
theorem ly_b {F : pd_F} {b : Int} (hL : pd_Ly F) (h : aB b) : F b 0 = b + 1 ∧ F b 1 = b + 2 ∧ F b 2 = b + 3 ∧ F b 3 = b + 4 ∧ F b 4 = b + 5 ∧ F b 5 = b + 6 ∧ F b 6 = b + 7 ∧ F b 7 = b + 8 ∧ F b 8 = b + 9 := by
  rcases h with rfl | rfl <;> exact ⟨hL.v (by decide +kernel), hL.v (by decide +kernel), hL.v (by decide +kernel), hL.v (by decide +kernel), hL.v (by decide +kernel), hL.v (by decide +kernel), hL.v (by decide +kernel), hL.v (by decide +kernel), hL.v (by decide +kernel)⟩
theorem sh_b {sT : pd_S} {b : Int} (h : aB b) : pd_sh (pd_SH sT) b = some (4, 0, 15) ∧ pd_sh (pd_SH sT) (b + 1) = some (2, 5, 12) ∧ pd_sh (pd_SH sT) (b + 2) = some (2, 2, 5) ∧ pd_sh (pd_SH sT) (b + 3) = some (2, 2, 10) ∧ pd_sh (pd_SH sT) (b + 4) = some (0, 0, 10) ∧ pd_sh (pd_SH sT) (b + 5) = some (2, 1, 6) ∧ pd_sh (pd_SH sT) (b + 6) = some (2, 1, 8) ∧ pd_sh (pd_SH sT) (b + 7) = some (0, 0, 3) ∧ pd_sh (pd_SH sT) (b + 8) = some (0, 0, 36) ∧ pd_sh (pd_SH sT) (b + 9) = some (0, 0, 36) := by
  rcases h with rfl | rfl <;> exact ⟨pd_shA (by decide +kernel), pd_shA (by decide +kernel), pd_shA (by decide +kernel), pd_shA (by decide +kernel), pd_shA (by decide +kernel), pd_shA (by decide +kernel), pd_shA (by decide +kernel), pd_shA (by decide +kernel), pd_shA (by decide +kernel), pd_shA (by decide +kernel)⟩
theorem sh_s0 : ∀ j : Nat, j < 19 → pd_sh pd_SB (117 + 5 * (j : Int)) = some (4, 8, 6) ∧ pd_sh pd_SB (117 + 5 * (j : Int) + 1) = some (0, 0, 10) ∧ pd_sh pd_SB (117 + 5 * (j : Int) + 2) = some (0, 0, 3) ∧ pd_sh pd_SB (117 + 5 * (j : Int) + 3) = some (0, 0, 31) ∧ pd_sh pd_SB (117 + 5 * (j : Int) + 4) = some (0, 0, 31) := by decide +kernel
theorem ly_s0 : ∀ j : Nat, j < 19 → pd_in3 pd_vs (117 + 5 * (j : Int) : Int) 0 ((117 + 5 * (j : Int) : Int) + 1) = true ∧ pd_in3 pd_vs (117 + 5 * (j : Int) : Int) 1 ((117 + 5 * (j : Int) : Int) + 2) = true ∧ pd_in3 pd_vs (117 + 5 * (j : Int) : Int) 2 ((117 + 5 * (j : Int) : Int) + 3) = true ∧ pd_in3 pd_vs (117 + 5 * (j : Int) : Int) 3 ((117 + 5 * (j : Int) : Int) + 4) = true := by decide +kernel
theorem sh_s {sT : pd_S} {s : Int} (h : aS s) : pd_sh (pd_SH sT) (s) = some (4, 8, 6) ∧ pd_sh (pd_SH sT) (s + 1) = some (0, 0, 10) ∧ pd_sh (pd_SH sT) (s + 2) = some (0, 0, 3) ∧ pd_sh (pd_SH sT) (s + 3) = some (0, 0, 31) ∧ pd_sh (pd_SH sT) (s + 4) = some (0, 0, 31) := by
  rcases h with rfl | rfl | ⟨j, h0, h1, rfl⟩
  · exact ⟨pd_shA (by decide +kernel), pd_shA (by decide +kernel), pd_shA (by decide +kernel), pd_shA (by decide +kernel), pd_shA (by decide +kernel)⟩
  · exact ⟨pd_shA (by decide +kernel), pd_shA (by decide +kernel), pd_shA (by decide +kernel), pd_shA (by decide +kernel), pd_shA (by decide +kernel)⟩
  · obtain ⟨k, rfl⟩ := Int.eq_ofNat_of_zero_le h0
    have z := sh_s0 k (by omega)
    exact ⟨pd_shA z.1, pd_shA z.2.1, pd_shA z.2.2.1, pd_shA z.2.2.2.1, pd_shA z.2.2.2.2⟩
theorem ly_s {F : pd_F} {s : Int} (hL : pd_Ly F) (h : aS s) : F s 0 = s + 1 ∧ F s 1 = s + 2 ∧ F s 2 = s + 3 ∧ F s 3 = s + 4 := by
  rcases h with rfl | rfl | ⟨j, h0, h1, rfl⟩
  · exact ⟨hL.v (by decide +kernel), hL.v (by decide +kernel), hL.v (by decide +kernel), hL.v (by decide +kernel)⟩
  · exact ⟨hL.v (by decide +kernel), hL.v (by decide +kernel), hL.v (by decide +kernel), hL.v (by decide +kernel)⟩
  · obtain ⟨k, rfl⟩ := Int.eq_ofNat_of_zero_le h0
    have h := ly_s0 k (by omega)
    exact ⟨hL.v h.1, hL.v h.2.1, hL.v h.2.2.1, hL.v h.2.2.2⟩
theorem fy_p0 : ∀ i : Nat, i < 12 → pd_in3 pd_vs (5 + 1) ((i : Int)) (5 + 10 + 2 * (i : Int)) = true ∧ pd_in3 pd_vs (5 + 10 + 2 * (i : Int)) (0) (5 + 10 + 2 * (i : Int) + 1) = true ∧ pd_sh pd_SB (5 + 10 + 2 * (i : Int)) = some (4, 5, 5) ∧ pd_sh pd_SB (5 + 10 + 2 * (i : Int) + 1) = some (0, 0, 3) := by decide +kernel
theorem fy_p1 : ∀ i : Nat, i < 12 → pd_in3 pd_vs (259 + 1) ((i : Int)) (259 + 10 + 2 * (i : Int)) = true ∧ pd_in3 pd_vs (259 + 10 + 2 * (i : Int)) (0) (259 + 10 + 2 * (i : Int) + 1) = true ∧ pd_sh pd_SB (259 + 10 + 2 * (i : Int)) = some (4, 5, 5) ∧ pd_sh pd_SB (259 + 10 + 2 * (i : Int) + 1) = some (0, 0, 3) := by decide +kernel
theorem fy_p {sT : pd_S} {F : pd_F} {b i : Int} (hL : pd_Ly F) (h : aB b) (h0 : 0 ≤ i) (h1 : i < 12) : F (b + 1) (i) = b + 10 + 2 * i ∧ F (b + 10 + 2 * i) (0) = b + 10 + 2 * i + 1 ∧ pd_sh (pd_SH sT) (b + 10 + 2 * i) = some (4, 5, 5) ∧ pd_sh (pd_SH sT) (b + 10 + 2 * i + 1) = some (0, 0, 3) := by
  obtain ⟨k, rfl⟩ := Int.eq_ofNat_of_zero_le h0
  rcases h with rfl | rfl
  · have z := fy_p0 k (by omega)
    exact ⟨hL.v z.1, hL.v z.2.1, pd_shA z.2.2.1, pd_shA z.2.2.2⟩
  · have z := fy_p1 k (by omega)
    exact ⟨hL.v z.1, hL.v z.2.1, pd_shA z.2.2.1, pd_shA z.2.2.2⟩
theorem fy_tr0 : ∀ i : Nat, i < 5 → pd_in3 pd_vs (5 + 2) ((i : Int)) (5 + 34 + 4 * (i : Int)) = true := by decide +kernel
theorem fy_tr1 : ∀ i : Nat, i < 5 → pd_in3 pd_vs (259 + 2) ((i : Int)) (259 + 34 + 4 * (i : Int)) = true := by decide +kernel
theorem fy_tr {F : pd_F} {b i : Int} (hL : pd_Ly F) (h : aB b) (h0 : 0 ≤ i) (h1 : i < 5) : F (b + 2) (i) = b + 34 + 4 * i := by
  obtain ⟨k, rfl⟩ := Int.eq_ofNat_of_zero_le h0
  rcases h with rfl | rfl
  · have z := fy_tr0 k (by omega)
    exact hL.v z
  · have z := fy_tr1 k (by omega)
    exact hL.v z
theorem fy_ac0 : ∀ i : Nat, i < 10 → pd_in3 pd_vs (5 + 3) ((i : Int)) (5 + 34 + 4 * (5 + (i : Int))) = true := by decide +kernel
theorem fy_ac1 : ∀ i : Nat, i < 10 → pd_in3 pd_vs (259 + 3) ((i : Int)) (259 + 34 + 4 * (5 + (i : Int))) = true := by decide +kernel
theorem fy_ac {F : pd_F} {b i : Int} (hL : pd_Ly F) (h : aB b) (h0 : 0 ≤ i) (h1 : i < 10) : F (b + 3) (i) = b + 34 + 4 * (5 + i) := by
  obtain ⟨k, rfl⟩ := Int.eq_ofNat_of_zero_le h0
  rcases h with rfl | rfl
  · have z := fy_ac0 k (by omega)
    exact hL.v z
  · have z := fy_ac1 k (by omega)
    exact hL.v z
theorem fy_g0 : ∀ i : Nat, i < 15 → pd_in3 pd_vs (5 + 34 + 4 * (i : Int)) (0) (5 + 34 + 4 * (i : Int) + 1) = true ∧ pd_in3 pd_vs (5 + 34 + 4 * (i : Int)) (1) (5 + 34 + 4 * (i : Int) + 2) = true ∧ pd_in3 pd_vs (5 + 34 + 4 * (i : Int)) (2) (5 + 34 + 4 * (i : Int) + 3) = true ∧ pd_sh pd_SB (5 + 34 + 4 * (i : Int)) = some (4, 2, 8) ∧ pd_sh pd_SB (5 + 34 + 4 * (i : Int) + 1) = some (0, 0, 5) ∧ pd_sh pd_SB (5 + 34 + 4 * (i : Int) + 2) = some (0, 0, 5) ∧ pd_sh pd_SB (5 + 34 + 4 * (i : Int) + 3) = some (0, 0, 12) := by decide +kernel
theorem fy_g1 : ∀ i : Nat, i < 15 → pd_in3 pd_vs (259 + 34 + 4 * (i : Int)) (0) (259 + 34 + 4 * (i : Int) + 1) = true ∧ pd_in3 pd_vs (259 + 34 + 4 * (i : Int)) (1) (259 + 34 + 4 * (i : Int) + 2) = true ∧ pd_in3 pd_vs (259 + 34 + 4 * (i : Int)) (2) (259 + 34 + 4 * (i : Int) + 3) = true ∧ pd_sh pd_SB (259 + 34 + 4 * (i : Int)) = some (4, 2, 8) ∧ pd_sh pd_SB (259 + 34 + 4 * (i : Int) + 1) = some (0, 0, 5) ∧ pd_sh pd_SB (259 + 34 + 4 * (i : Int) + 2) = some (0, 0, 5) ∧ pd_sh pd_SB (259 + 34 + 4 * (i : Int) + 3) = some (0, 0, 12) := by decide +kernel
theorem fy_g {sT : pd_S} {F : pd_F} {b i : Int} (hL : pd_Ly F) (h : aB b) (h0 : 0 ≤ i) (h1 : i < 15) : F (b + 34 + 4 * i) (0) = b + 34 + 4 * i + 1 ∧ F (b + 34 + 4 * i) (1) = b + 34 + 4 * i + 2 ∧ F (b + 34 + 4 * i) (2) = b + 34 + 4 * i + 3 ∧ pd_sh (pd_SH sT) (b + 34 + 4 * i) = some (4, 2, 8) ∧ pd_sh (pd_SH sT) (b + 34 + 4 * i + 1) = some (0, 0, 5) ∧ pd_sh (pd_SH sT) (b + 34 + 4 * i + 2) = some (0, 0, 5) ∧ pd_sh (pd_SH sT) (b + 34 + 4 * i + 3) = some (0, 0, 12) := by
  obtain ⟨k, rfl⟩ := Int.eq_ofNat_of_zero_le h0
  rcases h with rfl | rfl
  · have z := fy_g0 k (by omega)
    exact ⟨hL.v z.1, hL.v z.2.1, hL.v z.2.2.1, pd_shA z.2.2.2.1, pd_shA z.2.2.2.2.1, pd_shA z.2.2.2.2.2.1, pd_shA z.2.2.2.2.2.2⟩
  · have z := fy_g1 k (by omega)
    exact ⟨hL.v z.1, hL.v z.2.1, hL.v z.2.2.1, pd_shA z.2.2.2.1, pd_shA z.2.2.2.2.1, pd_shA z.2.2.2.2.2.1, pd_shA z.2.2.2.2.2.2⟩
theorem fy_h0 : ∀ i : Nat, i < 6 → pd_in3 pd_vs (5 + 5) ((i : Int)) (5 + 94 + (i : Int)) = true ∧ pd_sh pd_SB (5 + 94 + (i : Int)) = some (4, 1, 4) := by decide +kernel
theorem fy_h1 : ∀ i : Nat, i < 6 → pd_in3 pd_vs (259 + 5) ((i : Int)) (259 + 94 + (i : Int)) = true ∧ pd_sh pd_SB (259 + 94 + (i : Int)) = some (4, 1, 4) := by decide +kernel
theorem fy_h {sT : pd_S} {F : pd_F} {b i : Int} (hL : pd_Ly F) (h : aB b) (h0 : 0 ≤ i) (h1 : i < 6) : F (b + 5) (i) = b + 94 + i ∧ pd_sh (pd_SH sT) (b + 94 + i) = some (4, 1, 4) := by
  obtain ⟨k, rfl⟩ := Int.eq_ofNat_of_zero_le h0
  rcases h with rfl | rfl
  · have z := fy_h0 k (by omega)
    exact ⟨hL.v z.1, pd_shA z.2⟩
  · have z := fy_h1 k (by omega)
    exact ⟨hL.v z.1, pd_shA z.2⟩
theorem fy_o0 : ∀ i : Nat, i < 8 → pd_in3 pd_vs (5 + 6) ((i : Int)) (5 + 100 + (i : Int)) = true ∧ pd_sh pd_SB (5 + 100 + (i : Int)) = some (4, 1, 4) := by decide +kernel
theorem fy_o1 : ∀ i : Nat, i < 8 → pd_in3 pd_vs (259 + 6) ((i : Int)) (259 + 100 + (i : Int)) = true ∧ pd_sh pd_SB (259 + 100 + (i : Int)) = some (4, 1, 4) := by decide +kernel
theorem fy_o {sT : pd_S} {F : pd_F} {b i : Int} (hL : pd_Ly F) (h : aB b) (h0 : 0 ≤ i) (h1 : i < 8) : F (b + 6) (i) = b + 100 + i ∧ pd_sh (pd_SH sT) (b + 100 + i) = some (4, 1, 4) := by
  obtain ⟨k, rfl⟩ := Int.eq_ofNat_of_zero_le h0
  rcases h with rfl | rfl
  · have z := fy_o0 k (by omega)
    exact ⟨hL.v z.1, pd_shA z.2⟩
  · have z := fy_o1 k (by omega)
    exact ⟨hL.v z.1, pd_shA z.2⟩
theorem fy_pa0 : ∀ i : Nat, i < 16 → pd_in3 pd_vs (114) ((i : Int)) (117 + 5 * (i : Int)) = true := by decide +kernel
theorem fy_pa {F : pd_F} {i : Int} (hL : pd_Ly F) (h0 : 0 ≤ i) (h1 : i < 16) : F (114) (i) = 117 + 5 * i := by
  obtain ⟨k, rfl⟩ := Int.eq_ofNat_of_zero_le h0
  have z := fy_pa0 k (by omega)
  exact hL.v z
theorem fy_ke0 : ∀ i : Nat, i < 3 → pd_in3 pd_vs (115) ((i : Int)) (117 + 5 * (16 + (i : Int))) = true := by decide +kernel
theorem fy_ke {F : pd_F} {i : Int} (hL : pd_Ly F) (h0 : 0 ≤ i) (h1 : i < 3) : F (115) (i) = 117 + 5 * (16 + i) := by
  obtain ⟨k, rfl⟩ := Int.eq_ofNat_of_zero_le h0
  have z := fy_ke0 k (by omega)
  exact hL.v z
theorem fy_oa0 : ∀ i : Nat, i < 10 → pd_in3 pd_vs (213) ((i : Int)) (214 + (i : Int)) = true ∧ pd_sh pd_SB (214 + (i : Int)) = some (0, 0, 12) := by decide +kernel
theorem fy_oa {sT : pd_S} {F : pd_F} {i : Int} (hL : pd_Ly F) (h0 : 0 ≤ i) (h1 : i < 10) : F (213) (i) = 214 + i ∧ pd_sh (pd_SH sT) (214 + i) = some (0, 0, 12) := by
  obtain ⟨k, rfl⟩ := Int.eq_ofNat_of_zero_le h0
  have z := fy_oa0 k (by omega)
  exact ⟨hL.v z.1, pd_shA z.2⟩
theorem fy_oh0 : ∀ i : Nat, i < 6 → pd_in3 pd_vs (224) ((i : Int)) (225 + (i : Int)) = true ∧ pd_sh pd_SB (225 + (i : Int)) = some (0, 0, 12) := by decide +kernel
theorem fy_oh {sT : pd_S} {F : pd_F} {i : Int} (hL : pd_Ly F) (h0 : 0 ≤ i) (h1 : i < 6) : F (224) (i) = 225 + i ∧ pd_sh (pd_SH sT) (225 + i) = some (0, 0, 12) := by
  obtain ⟨k, rfl⟩ := Int.eq_ofNat_of_zero_le h0
  have z := fy_oh0 k (by omega)
  exact ⟨hL.v z.1, pd_shA z.2⟩
theorem lx_1_0 {F : pd_F} (hL : pd_Ly F) : F 1 0 = 2 := hL.v (by decide +kernel)
theorem lx_1_1 {F : pd_F} (hL : pd_Ly F) : F 1 1 = 3 := hL.v (by decide +kernel)
theorem lx_1_2 {F : pd_F} (hL : pd_Ly F) : F 1 2 = 113 := hL.v (by decide +kernel)
theorem lx_1_3 {F : pd_F} (hL : pd_Ly F) : F 1 3 = 212 := hL.v (by decide +kernel)
theorem lx_1_4 {F : pd_F} (hL : pd_Ly F) : F 1 4 = 231 := hL.v (by decide +kernel)
theorem lx_1_5 {F : pd_F} (hL : pd_Ly F) : F 1 5 = 236 := hL.v (by decide +kernel)
theorem lx_1_6 {F : pd_F} (hL : pd_Ly F) : F 1 6 = 245 := hL.v (by decide +kernel)
theorem lx_1_7 {F : pd_F} (hL : pd_Ly F) : F 1 7 = 250 := hL.v (by decide +kernel)
theorem lx_2_0 {F : pd_F} (hL : pd_Ly F) : F 2 0 = 3 := hL.v (by decide +kernel)
theorem lx_3_0 {F : pd_F} (hL : pd_Ly F) : F 3 0 = 4 := hL.v (by decide +kernel)
theorem lx_113_0 {F : pd_F} (hL : pd_Ly F) : F 113 0 = 114 := hL.v (by decide +kernel)
theorem lx_113_1 {F : pd_F} (hL : pd_Ly F) : F 113 1 = 115 := hL.v (by decide +kernel)
theorem lx_113_2 {F : pd_F} (hL : pd_Ly F) : F 113 2 = 116 := hL.v (by decide +kernel)
theorem lx_212_0 {F : pd_F} (hL : pd_Ly F) : F 212 0 = 213 := hL.v (by decide +kernel)
theorem lx_212_1 {F : pd_F} (hL : pd_Ly F) : F 212 1 = 224 := hL.v (by decide +kernel)

theorem sx_1 : pd_sh (pd_SH []) 1 = some (4, 11, 10) := pd_shA (by decide +kernel)
theorem gx_1 {sT : pd_S} : (pd_ob (pd_SH sT) 11 1 = true) = True := pl_ob (pd_shT sx_1)
theorem sx_2 : pd_sh (pd_SH []) 2 = some (4, 6, 3) := pd_shA (by decide +kernel)
theorem gx_2 {sT : pd_S} : (pd_ob (pd_SH sT) 6 2 = true) = True := pl_ob (pd_shT sx_2)
theorem sx_3 : pd_sh (pd_SH []) 3 = some (4, 9, 9) := pd_shA (by decide +kernel)
theorem gx_3 {sT : pd_S} : (pd_ob (pd_SH sT) 9 3 = true) = True := pl_ob (pd_shT sx_3)
theorem sx_4 : pd_sh (pd_SH []) 4 = some (0, 1, 1000) := pd_shA (by decide +kernel)
theorem gx_4 {sT : pd_S} {i : Int} : (pd_ib (pd_SH sT) 0 1 4 i = true) = (0 ≤ i ∧ i < 1000) := pl_ib (pd_shT sx_4)
theorem gn_4 {sT : pd_S} : pd_ln (pd_SH sT) 0 1 4 = 1000 := pl_ln (pd_shT sx_4)
theorem sx_113 : pd_sh (pd_SH []) 113 = some (4, 3, 5) := pd_shA (by decide +kernel)
theorem gx_113 {sT : pd_S} : (pd_ob (pd_SH sT) 3 113 = true) = True := pl_ob (pd_shT sx_113)
theorem sx_114 : pd_sh (pd_SH []) 114 = some (2, 8, 16) := pd_shA (by decide +kernel)
theorem gx_114 {sT : pd_S} {i : Int} : (pd_ib (pd_SH sT) 2 8 114 i = true) = (0 ≤ i ∧ i < 16) := pl_ib (pd_shT sx_114)
theorem gn_114 {sT : pd_S} : pd_ln (pd_SH sT) 2 8 114 = 16 := pl_ln (pd_shT sx_114)
theorem sx_115 : pd_sh (pd_SH []) 115 = some (2, 8, 3) := pd_shA (by decide +kernel)
theorem gx_115 {sT : pd_S} {i : Int} : (pd_ib (pd_SH sT) 2 8 115 i = true) = (0 ≤ i ∧ i < 3) := pl_ib (pd_shT sx_115)
theorem gn_115 {sT : pd_S} : pd_ln (pd_SH sT) 2 8 115 = 3 := pl_ln (pd_shT sx_115)
theorem sx_116 : pd_sh (pd_SH []) 116 = some (0, 2, 3) := pd_shA (by decide +kernel)
theorem gx_116 {sT : pd_S} {i : Int} : (pd_ib (pd_SH sT) 0 2 116 i = true) = (0 ≤ i ∧ i < 3) := pl_ib (pd_shT sx_116)
theorem gn_116 {sT : pd_S} : pd_ln (pd_SH sT) 0 2 116 = 3 := pl_ln (pd_shT sx_116)
theorem sx_212 : pd_sh (pd_SH []) 212 = some (4, 7, 2) := pd_shA (by decide +kernel)
theorem gx_212 {sT : pd_S} : (pd_ob (pd_SH sT) 7 212 = true) = True := pl_ob (pd_shT sx_212)
theorem sx_213 : pd_sh (pd_SH []) 213 = some (3, 0, 10) := pd_shA (by decide +kernel)
theorem gx_213 {sT : pd_S} {i : Int} : (pd_ib (pd_SH sT) 3 0 213 i = true) = (0 ≤ i ∧ i < 10) := pl_ib (pd_shT sx_213)
theorem gn_213 {sT : pd_S} : pd_ln (pd_SH sT) 3 0 213 = 10 := pl_ln (pd_shT sx_213)
theorem sx_224 : pd_sh (pd_SH []) 224 = some (3, 0, 6) := pd_shA (by decide +kernel)
theorem gx_224 {sT : pd_S} {i : Int} : (pd_ib (pd_SH sT) 3 0 224 i = true) = (0 ≤ i ∧ i < 6) := pl_ib (pd_shT sx_224)
theorem gn_224 {sT : pd_S} : pd_ln (pd_SH sT) 3 0 224 = 6 := pl_ln (pd_shT sx_224)

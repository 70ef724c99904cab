/-! the pure part: words -/
theorem pl_i {α : Type} {p : Prop} [Decidable p] {x : Option α} (h : p) : pd_i p x = x := by unfold pd_i; rw [if_pos h]
theorem pl_iT {α : Type} {x : Option α} : pd_i True x = x := by unfold pd_i; rw [if_pos trivial]
theorem pl_t {α : Type} {x y : α} [Decidable True] : (if True then x else y) = x := if_pos trivial
theorem pl_f {α : Type} {x y : α} [Decidable False] : (if False then x else y) = y := if_neg not_false
theorem pl_l {α β : Type} (x : α) (f : α → β) : pd_l x f = f x := rfl
theorem pl_b {α β : Type} (x : α) (f : α → Option β) : Option.bind (some x) f = f x := rfl
theorem pl_w {x : Int} (h : -2147483648 ≤ x ∧ x < 2147483648) : pd_w x = x := by unfold pd_w; omega
theorem pl_W {x : Int} (h : -9223372036854775808 ≤ x ∧ x < 9223372036854775808) : pd_W x = x := by unfold pd_W; omega
theorem pl_by {x : Int} (h : -128 ≤ x ∧ x < 128) : pd_b x = x := by unfold pd_b; omega
theorem pl_wr (x : Int) : -2147483648 ≤ pd_w x ∧ pd_w x < 2147483648 := by unfold pd_w; omega
theorem pl_Wr (x : Int) : -9223372036854775808 ≤ pd_W x ∧ pd_W x < 9223372036854775808 := by unfold pd_W; omega
theorem pl_ib {sh : pd_S} {c k n : Nat} {a i : Int} (h : pd_sh sh a = some (c, k, n)) : (pd_ib sh c k a i = true) = (0 ≤ i ∧ i < (n : Int)) := by
  unfold pd_ib; rw [h]; simp
theorem pl_ob {sh : pd_S} {k n : Nat} {a : Int} (h : pd_sh sh a = some (4, k, n)) : (pd_ob sh k a = true) = True := by
  unfold pd_ob; rw [h]; simp
theorem pl_ln {sh : pd_S} {c k n : Nat} {a : Int} (h : pd_sh sh a = some (c, k, n)) : pd_ln sh c k a = (n : Int) := by
  unfold pd_ln; rw [h]; simp
/-- a loop with a counter: P at each head, res of what comes out -/
theorem pl_for {σ R : Type} {f : Nat → σ → Int → Option R} {P : Int → σ → Prop} {N : Int} {res : Option R → Prop}
    (hs : ∀ k q i, 0 ≤ i → i < N → P i q → (∃ q', P (i + 1) q' ∧ f (k + 1) q i = f k q' (i + 1)) ∨ res (f (k + 1) q i))
    (he : ∀ k q, P N q → res (f (k + 1) q N)) : ∀ (k : Nat) (q : σ) (i : Int), 0 ≤ i → i ≤ N → N - i < (k : Int) → P i q → res (f k q i)
  | 0, q, i, h0, h1, hk, hp => by omega
  | k + 1, q, i, h0, h1, hk, hp => by
    rcases Int.lt_or_eq_of_le h1 with h | h
    · rcases hs k q i h0 h hp with ⟨q', hq, e⟩ | hr
      · rw [e]; exact pl_for hs he k q' (i + 1) (by omega) (by omega) (by omega) hq
      · exact hr
    · subst h; exact he k q hp
/-- the same from any head, counting down a measure -/
theorem pl_whl {σ R : Type} {f : Nat → σ → Option R} {P : Nat → σ → Prop} {res : Option R → Prop}
    (hs : ∀ k m q, P m q → (∃ m' q', m' < m ∧ P m' q' ∧ f (k + 1) q = f k q') ∨ res (f (k + 1) q)) : ∀ (k m : Nat) (q : σ), m < k → P m q → res (f k q)
  | 0, m, q, hk, hp => by omega
  | k + 1, m, q, hk, hp => by
    rcases hs k m q hp with ⟨m', q', hm, hq, e⟩ | hr
    · rw [e]; exact pl_whl hs k m' q' (by omega) hq
    · exact hr

/-! the layout -/
def pd_SH : pd_S := [(4, 11, 10), (4, 6, 3), (4, 9, 9), (0, 1, 1000), (4, 0, 15), (2, 5, 12), (2, 2, 5), (2, 2, 10), (0, 0, 10), (2, 1, 6), (2, 1, 8), (0, 0, 3), (0, 0, 36), (0, 0, 36), (4, 5, 5), (0, 0, 3), (4, 5, 5), (0, 0, 3), (4, 5, 5), (0, 0, 3), (4, 5, 5), (0, 0, 3), (4, 5, 5), (0, 0, 3), (4, 5, 5), (0, 0, 3), (4, 5, 5), (0, 0, 3), (4, 5, 5), (0, 0, 3), (4, 5, 5), (0, 0, 3), (4, 5, 5), (0, 0, 3), (4, 5, 5), (0, 0, 3), (4, 5, 5), (0, 0, 3), (4, 2, 8), (0, 0, 5), (0, 0, 5), (0, 0, 12), (4, 2, 8), (0, 0, 5), (0, 0, 5), (0, 0, 12), (4, 2, 8), (0, 0, 5), (0, 0, 5), (0, 0, 12), (4, 2, 8), (0, 0, 5), (0, 0, 5), (0, 0, 12), (4, 2, 8), (0, 0, 5), (0, 0, 5), (0, 0, 12), (4, 2, 8), (0, 0, 5), (0, 0, 5), (0, 0, 12), (4, 2, 8), (0, 0, 5), (0, 0, 5), (0, 0, 12), (4, 2, 8), (0, 0, 5), (0, 0, 5), (0, 0, 12), (4, 2, 8), (0, 0, 5), (0, 0, 5), (0, 0, 12), (4, 2, 8), (0, 0, 5), (0, 0, 5), (0, 0, 12), (4, 2, 8), (0, 0, 5), (0, 0, 5), (0, 0, 12), (4, 2, 8), (0, 0, 5), (0, 0, 5), (0, 0, 12), (4, 2, 8), (0, 0, 5), (0, 0, 5), (0, 0, 12), (4, 2, 8), (0, 0, 5), (0, 0, 5), (0, 0, 12), (4, 2, 8), (0, 0, 5), (0, 0, 5), (0, 0, 12), (4, 1, 4), (4, 1, 4), (4, 1, 4), (4, 1, 4), (4, 1, 4), (4, 1, 4), (4, 1, 4), (4, 1, 4), (4, 1, 4), (4, 1, 4), (4, 1, 4), (4, 1, 4), (4, 1, 4), (4, 1, 4), (4, 3, 5), (2, 8, 16), (2, 8, 3), (0, 2, 3), (4, 8, 6), (0, 0, 10), (0, 0, 3), (0, 0, 31), (0, 0, 31), (4, 8, 6), (0, 0, 10), (0, 0, 3), (0, 0, 31), (0, 0, 31), (4, 8, 6), (0, 0, 10), (0, 0, 3), (0, 0, 31), (0, 0, 31), (4, 8, 6), (0, 0, 10), (0, 0, 3), (0, 0, 31), (0, 0, 31), (4, 8, 6), (0, 0, 10), (0, 0, 3), (0, 0, 31), (0, 0, 31), (4, 8, 6), (0, 0, 10), (0, 0, 3), (0, 0, 31), (0, 0, 31), (4, 8, 6), (0, 0, 10), (0, 0, 3), (0, 0, 31), (0, 0, 31), (4, 8, 6), (0, 0, 10), (0, 0, 3), (0, 0, 31), (0, 0, 31), (4, 8, 6), (0, 0, 10), (0, 0, 3), (0, 0, 31), (0, 0, 31), (4, 8, 6), (0, 0, 10), (0, 0, 3), (0, 0, 31), (0, 0, 31), (4, 8, 6), (0, 0, 10), (0, 0, 3), (0, 0, 31), (0, 0, 31), (4, 8, 6), (0, 0, 10), (0, 0, 3), (0, 0, 31), (0, 0, 31), (4, 8, 6), (0, 0, 10), (0, 0, 3), (0, 0, 31), (0, 0, 31), (4, 8, 6), (0, 0, 10), (0, 0, 3), (0, 0, 31), (0, 0, 31), (4, 8, 6), (0, 0, 10), (0, 0, 3), (0, 0, 31), (0, 0, 31), (4, 8, 6), (0, 0, 10), (0, 0, 3), (0, 0, 31), (0, 0, 31), (4, 8, 6), (0, 0, 10), (0, 0, 3), (0, 0, 31), (0, 0, 31), (4, 8, 6), (0, 0, 10), (0, 0, 3), (0, 0, 31), (0, 0, 31), (4, 8, 6), (0, 0, 10), (0, 0, 3), (0, 0, 31), (0, 0, 31), (4, 7, 2), (3, 0, 10), (0, 0, 12), (0, 0, 12), (0, 0, 12), (0, 0, 12), (0, 0, 12), (0, 0, 12), (0, 0, 12), (0, 0, 12), (0, 0, 12), (0, 0, 12), (3, 0, 6), (0, 0, 12), (0, 0, 12), (0, 0, 12), (0, 0, 12), (0, 0, 12), (0, 0, 12), (4, 8, 6), (0, 0, 10), (0, 0, 3), (0, 0, 31), (0, 0, 31), (4, 4, 7), (4, 10, 4), (0, 0, 12), (0, 0, 12), (0, 0, 12), (1, 0, 12), (1, 0, 12), (1, 0, 12), (0, 2, 12), (4, 8, 6), (0, 0, 10), (0, 0, 3), (0, 0, 31), (0, 0, 31), (4, 4, 7), (4, 10, 4), (0, 0, 12), (0, 0, 12), (0, 0, 12), (1, 0, 12), (1, 0, 12), (1, 0, 12), (0, 2, 12), (4, 0, 15), (2, 5, 12), (2, 2, 5), (2, 2, 10), (0, 0, 10), (2, 1, 6), (2, 1, 8), (0, 0, 3), (0, 0, 36), (0, 0, 36), (4, 5, 5), (0, 0, 3), (4, 5, 5), (0, 0, 3), (4, 5, 5), (0, 0, 3), (4, 5, 5), (0, 0, 3), (4, 5, 5), (0, 0, 3), (4, 5, 5), (0, 0, 3), (4, 5, 5), (0, 0, 3), (4, 5, 5), (0, 0, 3), (4, 5, 5), (0, 0, 3), (4, 5, 5), (0, 0, 3), (4, 5, 5), (0, 0, 3), (4, 5, 5), (0, 0, 3), (4, 2, 8), (0, 0, 5), (0, 0, 5), (0, 0, 12), (4, 2, 8), (0, 0, 5), (0, 0, 5), (0, 0, 12), (4, 2, 8), (0, 0, 5), (0, 0, 5), (0, 0, 12), (4, 2, 8), (0, 0, 5), (0, 0, 5), (0, 0, 12), (4, 2, 8), (0, 0, 5), (0, 0, 5), (0, 0, 12), (4, 2, 8), (0, 0, 5), (0, 0, 5), (0, 0, 12), (4, 2, 8), (0, 0, 5), (0, 0, 5), (0, 0, 12), (4, 2, 8), (0, 0, 5), (0, 0, 5), (0, 0, 12), (4, 2, 8), (0, 0, 5), (0, 0, 5), (0, 0, 12), (4, 2, 8), (0, 0, 5), (0, 0, 5), (0, 0, 12), (4, 2, 8), (0, 0, 5), (0, 0, 5), (0, 0, 12), (4, 2, 8), (0, 0, 5), (0, 0, 5), (0, 0, 12), (4, 2, 8), (0, 0, 5), (0, 0, 5), (0, 0, 12), (4, 2, 8), (0, 0, 5), (0, 0, 5), (0, 0, 12), (4, 2, 8), (0, 0, 5), (0, 0, 5), (0, 0, 12), (4, 1, 4), (4, 1, 4), (4, 1, 4), (4, 1, 4), (4, 1, 4), (4, 1, 4), (4, 1, 4), (4, 1, 4), (4, 1, 4), (4, 1, 4), (4, 1, 4), (4, 1, 4), (4, 1, 4), (4, 1, 4), (4, 12, 52), (0, 1, 1000), (0, 0, 2), (0, 0, 2), (0, 0, 2), (0, 0, 2), (0, 0, 2), (1, 0, 24), (0, 0, 24), (0, 0, 72), (0, 2, 24), (1, 0, 10), (1, 0, 20), (0, 0, 20), (0, 0, 30), (0, 0, 150), (0, 0, 150), (0, 0, 12), (0, 0, 12), (0, 0, 12), (0, 0, 12), (0, 0, 16), (0, 0, 16), (0, 0, 16), (0, 0, 3), (0, 2, 3), (0, 0, 111), (0, 0, 1776), (0, 0, 333), (0, 2, 3), (1, 0, 12), (0, 0, 12), (0, 0, 12), (1, 0, 12), (1, 0, 12), (1, 0, 12), (0, 2, 12), (1, 0, 1)]
def pd_mk : Option (pd_S × pd_F × Int × Int × Int) :=
  pd_l (([] : pd_S).length + 1 : Int) fun a => pd_l (pd_z (fun _ _ => 0) (([] : pd_S).length + 1)) fun F => pd_l (([] : pd_S) ++ [(4, 11, 10)]) fun sh =>
  Option.bind (pfX11_init sh F a) fun q => pd_l q.1 fun sh1 => pd_l q.2 fun F1 =>
  pd_l ((sh1.length : Int) + 1) fun b => pd_l (pd_z F1 (sh1.length + 1)) fun F2 => pd_l (sh1 ++ [(4, 12, 52)]) fun sh2 =>
  Option.bind (pfX12_init sh2 F2 b) fun q => pd_l q.1 fun sh3 => pd_l q.2 fun F3 =>
  pd_l ((sh3.length : Int) + 1) fun c => pd_l (pd_z F3 (sh3.length + 1)) fun F4 => pd_l (sh3 ++ [(1, 0, 1)]) fun sh4 =>
  some (sh4, F4, a, b, c)
/-- the cells that are laid once: rows of references, and reference fields but told and the reader's book -/
def pd_rs : Nat → List Int
  | 0 => [0, 1, 2, 3, 4, 5, 6, 7, 8] | 2 => [0, 1, 2] | 3 => [0, 1, 2] | 4 => [0, 1, 2, 3, 4] | 5 => [0] | 6 => [0] | 7 => [0, 1] | 8 => [0, 1, 2, 3] | 9 => [0] | 10 => [0, 1, 2]
  | 11 => [0, 1, 2, 3, 4, 5, 6, 7] | 12 => [1, 14, 15, 16, 17, 18, 19, 20, 21, 22, 23, 24, 25, 26, 27, 28, 29, 30, 31, 32, 33, 34, 35, 36, 37, 39, 40, 42, 43, 44, 45, 47, 48, 49, 50, 51] | _ => []
def pd_rc (a j : Int) : Bool := match pd_sh pd_SH a with
  | some (c, k, n) => if c = 4 then (pd_rs k).contains j else if c = 2 ∨ c = 3 then decide (0 ≤ j ∧ j < n) else false
  | none => false
def pd_F0 : pd_F := match pd_mk with | some q => q.2.1 | none => fun _ _ => 0
/-- the memory's references lie as they were laid -/
def pd_Ly (F : pd_F) : Prop := ∀ a j, pd_rc a j = true → F a j = pd_F0 a j
theorem pd_Ly.up {F : pd_F} {a i v : Int} (h : pd_Ly F) (hr : pd_rc a i = false) : pd_Ly (pd_up F a i v) := by
  intro b j hb
  by_cases e : b = a ∧ j = i
  · rw [e.1, e.2, hr] at hb; cases hb
  · show (if b = a ∧ j = i then v else F b j) = _
    rw [if_neg e]; exact h b j hb
theorem pl_rc0 {a j : Int} {c k n : Nat} (h : pd_sh pd_SH a = some (c, k, n)) (hc : c < 2) : pd_rc a j = false := by
  unfold pd_rc; rw [h]
  show (if c = 4 then _ else if c = 2 ∨ c = 3 then _ else false) = false
  rw [if_neg (by omega), if_neg (by omega)]
theorem pl_rc4 {a j : Int} {k n : Nat} (h : pd_sh pd_SH a = some (4, k, n)) (hc : (pd_rs k).contains j = false) : pd_rc a j = false := by
  unfold pd_rc; rw [h]; simpa using hc
def pd_vs : List (Int × Int × Int) := [(3, 0, 4), (2, 0, 3), (5, 0, 6), (5, 1, 7), (5, 2, 8), (5, 3, 9), (5, 4, 10), (5, 5, 11), (5, 6, 12), (5, 7, 13), (5, 8, 14), (15, 0, 16), (6, 0, 15), (17, 0, 18), (6, 1, 17), (19, 0, 20), (6, 2, 19), (21, 0, 22), (6, 3, 21), (23, 0, 24), (6, 4, 23), (25, 0, 26), (6, 5, 25), (27, 0, 28), (6, 6, 27), (29, 0, 30), (6, 7, 29), (31, 0, 32), (6, 8, 31), (33, 0, 34), (6, 9, 33), (35, 0, 36), (6, 10, 35), (37, 0, 38), (6, 11, 37), (39, 0, 40), (39, 1, 41), (39, 2, 42), (7, 0, 39), (43, 0, 44), (43, 1, 45), (43, 2, 46), (7, 1, 43), (47, 0, 48), (47, 1, 49), (47, 2, 50), (7, 2, 47), (51, 0, 52), (51, 1, 53), (51, 2, 54), (7, 3, 51), (55, 0, 56), (55, 1, 57), (55, 2, 58), (7, 4, 55), (59, 0, 60), (59, 1, 61), (59, 2, 62), (8, 0, 59), (63, 0, 64), (63, 1, 65), (63, 2, 66), (8, 1, 63), (67, 0, 68), (67, 1, 69), (67, 2, 70), (8, 2, 67), (71, 0, 72), (71, 1, 73), (71, 2, 74), (8, 3, 71), (75, 0, 76), (75, 1, 77), (75, 2, 78), (8, 4, 75), (79, 0, 80), (79, 1, 81), (79, 2, 82), (8, 5, 79), (83, 0, 84), (83, 1, 85), (83, 2, 86), (8, 6, 83), (87, 0, 88), (87, 1, 89), (87, 2, 90), (8, 7, 87), (91, 0, 92), (91, 1, 93), (91, 2, 94), (8, 8, 91), (95, 0, 96), (95, 1, 97), (95, 2, 98), (8, 9, 95), (10, 0, 99), (10, 1, 100), (10, 2, 101), (10, 3, 102), (10, 4, 103), (10, 5, 104), (11, 0, 105), (11, 1, 106), (11, 2, 107), (11, 3, 108), (11, 4, 109), (11, 5, 110), (11, 6, 111), (11, 7, 112), (1, 0, 2), (1, 1, 3), (113, 0, 114), (113, 1, 115), (113, 2, 116), (117, 0, 118), (117, 1, 119), (117, 2, 120), (117, 3, 121), (114, 0, 117), (122, 0, 123), (122, 1, 124), (122, 2, 125), (122, 3, 126), (114, 1, 122), (127, 0, 128), (127, 1, 129), (127, 2, 130), (127, 3, 131), (114, 2, 127), (132, 0, 133), (132, 1, 134), (132, 2, 135), (132, 3, 136), (114, 3, 132), (137, 0, 138), (137, 1, 139), (137, 2, 140), (137, 3, 141), (114, 4, 137), (142, 0, 143), (142, 1, 144), (142, 2, 145), (142, 3, 146), (114, 5, 142), (147, 0, 148), (147, 1, 149), (147, 2, 150), (147, 3, 151), (114, 6, 147), (152, 0, 153), (152, 1, 154), (152, 2, 155), (152, 3, 156), (114, 7, 152), (157, 0, 158), (157, 1, 159), (157, 2, 160), (157, 3, 161), (114, 8, 157), (162, 0, 163), (162, 1, 164), (162, 2, 165), (162, 3, 166), (114, 9, 162), (167, 0, 168), (167, 1, 169), (167, 2, 170), (167, 3, 171), (114, 10, 167), (172, 0, 173), (172, 1, 174), (172, 2, 175), (172, 3, 176), (114, 11, 172), (177, 0, 178), (177, 1, 179), (177, 2, 180), (177, 3, 181), (114, 12, 177), (182, 0, 183), (182, 1, 184), (182, 2, 185), (182, 3, 186), (114, 13, 182), (187, 0, 188), (187, 1, 189), (187, 2, 190), (187, 3, 191), (114, 14, 187), (192, 0, 193), (192, 1, 194), (192, 2, 195), (192, 3, 196), (114, 15, 192), (197, 0, 198), (197, 1, 199), (197, 2, 200), (197, 3, 201), (115, 0, 197), (202, 0, 203), (202, 1, 204), (202, 2, 205), (202, 3, 206), (115, 1, 202), (207, 0, 208), (207, 1, 209), (207, 2, 210), (207, 3, 211), (115, 2, 207), (1, 2, 113), (212, 0, 213), (213, 0, 214), (213, 1, 215), (213, 2, 216), (213, 3, 217), (213, 4, 218), (213, 5, 219), (213, 6, 220), (213, 7, 221), (213, 8, 222), (213, 9, 223), (212, 1, 224), (224, 0, 225), (224, 1, 226), (224, 2, 227), (224, 3, 228), (224, 4, 229), (224, 5, 230), (1, 3, 212), (231, 0, 232), (231, 1, 233), (231, 2, 234), (231, 3, 235), (1, 4, 231), (237, 0, 238), (237, 1, 239), (237, 2, 240), (236, 0, 237), (236, 1, 241), (236, 2, 242), (236, 3, 243), (236, 4, 244), (1, 5, 236), (245, 0, 246), (245, 1, 247), (245, 2, 248), (245, 3, 249), (1, 6, 245), (251, 0, 252), (251, 1, 253), (251, 2, 254), (250, 0, 251), (250, 1, 255), (250, 2, 256), (250, 3, 257), (250, 4, 258), (1, 7, 250), (259, 0, 260), (259, 1, 261), (259, 2, 262), (259, 3, 263), (259, 4, 264), (259, 5, 265), (259, 6, 266), (259, 7, 267), (259, 8, 268), (269, 0, 270), (260, 0, 269), (271, 0, 272), (260, 1, 271), (273, 0, 274), (260, 2, 273), (275, 0, 276), (260, 3, 275), (277, 0, 278), (260, 4, 277), (279, 0, 280), (260, 5, 279), (281, 0, 282), (260, 6, 281), (283, 0, 284), (260, 7, 283), (285, 0, 286), (260, 8, 285), (287, 0, 288), (260, 9, 287), (289, 0, 290), (260, 10, 289), (291, 0, 292), (260, 11, 291), (293, 0, 294), (293, 1, 295), (293, 2, 296), (261, 0, 293), (297, 0, 298), (297, 1, 299), (297, 2, 300), (261, 1, 297), (301, 0, 302), (301, 1, 303), (301, 2, 304), (261, 2, 301), (305, 0, 306), (305, 1, 307), (305, 2, 308), (261, 3, 305), (309, 0, 310), (309, 1, 311), (309, 2, 312), (261, 4, 309), (313, 0, 314), (313, 1, 315), (313, 2, 316), (262, 0, 313), (317, 0, 318), (317, 1, 319), (317, 2, 320), (262, 1, 317), (321, 0, 322), (321, 1, 323), (321, 2, 324), (262, 2, 321), (325, 0, 326), (325, 1, 327), (325, 2, 328), (262, 3, 325), (329, 0, 330), (329, 1, 331), (329, 2, 332), (262, 4, 329), (333, 0, 334), (333, 1, 335), (333, 2, 336), (262, 5, 333), (337, 0, 338), (337, 1, 339), (337, 2, 340), (262, 6, 337), (341, 0, 342), (341, 1, 343), (341, 2, 344), (262, 7, 341), (345, 0, 346), (345, 1, 347), (345, 2, 348), (262, 8, 345), (349, 0, 350), (349, 1, 351), (349, 2, 352), (262, 9, 349), (264, 0, 353), (264, 1, 354), (264, 2, 355), (264, 3, 356), (264, 4, 357), (264, 5, 358), (265, 0, 359), (265, 1, 360), (265, 2, 361), (265, 3, 362), (265, 4, 363), (265, 5, 364), (265, 6, 365), (265, 7, 366), (367, 1, 368), (367, 14, 369), (367, 15, 370), (367, 16, 371), (367, 17, 372), (367, 18, 373), (367, 19, 374), (367, 20, 375), (367, 21, 376), (367, 22, 377), (367, 23, 378), (367, 24, 379), (367, 25, 380), (367, 26, 381), (367, 27, 382), (367, 28, 383), (367, 29, 384), (367, 30, 385), (367, 31, 386), (367, 32, 387), (367, 33, 388), (367, 34, 389), (367, 35, 390), (367, 36, 391), (367, 37, 392), (367, 39, 393), (367, 40, 394), (367, 42, 395), (367, 43, 396), (367, 44, 397), (367, 45, 398), (367, 47, 399), (367, 48, 400), (367, 49, 401), (367, 50, 402), (367, 51, 403)]
def pd_is : List (Int × Int × Int) := [(119, 1, 100000), (119, 2, 50000), (124, 1, 100000), (124, 2, 50000), (129, 1, 100000), (129, 2, 50000), (134, 1, 100000), (134, 2, 50000), (139, 1, 100000), (139, 2, 50000), (144, 1, 100000), (144, 2, 50000), (149, 1, 100000), (149, 2, 50000), (154, 1, 100000), (154, 2, 50000), (159, 1, 100000), (159, 2, 50000), (164, 1, 100000), (164, 2, 50000), (169, 1, 100000), (169, 2, 50000), (174, 1, 100000), (174, 2, 50000), (179, 1, 100000), (179, 2, 50000), (184, 1, 100000), (184, 2, 50000), (189, 1, 100000), (189, 2, 50000), (194, 1, 100000), (194, 2, 50000), (199, 1, 100000), (199, 2, 50000), (204, 1, 100000), (204, 2, 50000), (209, 1, 100000), (209, 2, 50000), (233, 1, 100000), (233, 2, 50000), (247, 1, 100000), (247, 2, 50000), (393, 72, 100000), (393, 73, 50000), (1, 8, 259), (2, 1, 5), (3, 1, 0), (367, 2, 0), (1, 9, 0), (367, 12, 0), (237, 3, 0), (236, 5, 0), (236, 6, 0), (231, 4, 0), (231, 5, 0), (113, 3, 0), (113, 4, 0), (367, 41, 0), (259, 9, 0), (259, 10, 0), (259, 11, 0), (259, 12, 0), (259, 13, 0), (259, 14, 0), (369, 0, 0), (370, 0, 0), (371, 0, 0), (372, 0, 0), (373, 0, 0), (393, 70, 0), (393, 110, 0), (393, 71, 0), (233, 0, 0), (116, 0, 0), (116, 1, 0), (116, 2, 0), (396, 0, 0), (396, 1, 0), (396, 2, 0)]
def pd_mc : Bool := match pd_mk with
  | some (sh, F, a, b, c) => decide (sh = pd_SH) && decide (a = 1 ∧ b = 367 ∧ c = 404) && (pd_vs ++ pd_is).all (fun q => decide (F q.1 q.2.1 = q.2.2))
  | none => false
set_option maxRecDepth 100000 in
theorem pd_mc_ok : pd_mc = true := by decide +kernel
theorem pd_mk_ok : ∃ q, pd_mk = some q ∧ q.1 = pd_SH ∧ q.2.1 = pd_F0 ∧ q.2.2 = (1, 367, 404) ∧ ∀ z ∈ pd_vs ++ pd_is, pd_F0 z.1 z.2.1 = z.2.2 := by
  have h := pd_mc_ok
  unfold pd_mc at h
  cases e : pd_mk with
  | none => rw [e] at h; cases h
  | some q =>
    rw [e] at h
    obtain ⟨sh, F, a, b, c⟩ := q
    simp only [Bool.and_eq_true, decide_eq_true_eq, List.all_eq_true] at h
    have hF : pd_F0 = F := by unfold pd_F0; rw [e]
    refine ⟨_, rfl, h.1.1, hF.symm, ?_, ?_⟩
    · show (a, b, c) = _
      rw [h.1.2.1, h.1.2.2.1, h.1.2.2.2]
    · rw [hF]; exact h.2
theorem pd_vs_rc : pd_vs.all (fun q => pd_rc q.1 q.2.1) = true := by decide +kernel
def pd_in3 (l : List (Int × Int × Int)) (a j v : Int) : Bool := l.any (fun q => decide (q.1 = a) && (decide (q.2.1 = j) && decide (q.2.2 = v)))
theorem pd_in3_m {l : List (Int × Int × Int)} {a j v : Int} (h : pd_in3 l a j v = true) : (a, j, v) ∈ l := by
  unfold pd_in3 at h
  obtain ⟨q, h1, h2⟩ := List.any_eq_true.mp h
  simp only [Bool.and_eq_true, decide_eq_true_eq] at h2
  obtain ⟨q1, q2, q3⟩ := q
  obtain ⟨e1, e2, e3⟩ := h2
  subst e1 e2 e3
  exact h1
theorem pd_F0v {a j v : Int} (h : pd_in3 pd_vs a j v = true) : pd_F0 a j = v := by
  obtain ⟨q, -, -, -, -, h2⟩ := pd_mk_ok
  exact h2 (a, j, v) (List.mem_append_left _ (pd_in3_m h))
theorem pd_F0i {a j v : Int} (h : pd_in3 pd_is a j v = true) : pd_F0 a j = v := by
  obtain ⟨q, -, -, -, -, h2⟩ := pd_mk_ok
  exact h2 (a, j, v) (List.mem_append_right _ (pd_in3_m h))
theorem pd_Ly.v {F : pd_F} {a j v : Int} (hL : pd_Ly F) (h : pd_in3 pd_vs a j v = true) : F a j = v :=
  (hL a j (List.all_eq_true.mp pd_vs_rc (a, j, v) (pd_in3_m h))).trans (pd_F0v h)
theorem pu_a {F : pd_F} {a i v b : Int} (h : b ≠ a) : pd_up F a i v b = F b := by
  funext j; exact pd_up_a h
theorem pu_r {F : pd_F} {a i v j : Int} : pd_up F a i v a j = if j = i then v else F a j := by
  by_cases e : j = i
  · rw [if_pos e, e]; exact pd_up_eq
  · rw [if_neg e]; exact pd_up_i e
/-! addresses -/
def aT (t : Int) : Prop := t = 237 ∨ t = 251
def aL (l : Int) : Prop := l = 236 ∨ l = 250
def aB (b : Int) : Prop := b = 5 ∨ b = 259
def aS (s : Int) : Prop := s = 231 ∨ s = 245 ∨ ∃ j, 0 ≤ j ∧ j < 19 ∧ s = 117 + 5 * j
theorem ly_t {F : pd_F} {t : Int} (hL : pd_Ly F) (h : aT t) : F t 0 = t + 1 ∧ F t 1 = t + 2 ∧ F t 2 = t + 3 := by
  rcases h with rfl | rfl <;> exact ⟨hL.v (by decide +kernel), hL.v (by decide +kernel), hL.v (by decide +kernel)⟩
theorem sh_t {t : Int} (h : aT t) : pd_sh pd_SH t = some (4, 10, 4) ∧ pd_sh pd_SH (t + 1) = some (0, 0, 12) ∧ pd_sh pd_SH (t + 2) = some (0, 0, 12) ∧ pd_sh pd_SH (t + 3) = some (0, 0, 12) := by
  rcases h with rfl | rfl <;> decide +kernel
theorem ly_l {F : pd_F} {l : Int} (hL : pd_Ly F) (h : aL l) : F l 0 = l + 1 ∧ F l 1 = l + 5 ∧ F l 2 = l + 6 ∧ F l 3 = l + 7 ∧ F l 4 = l + 8 := by
  rcases h with rfl | rfl <;> exact ⟨hL.v (by decide +kernel), hL.v (by decide +kernel), hL.v (by decide +kernel), hL.v (by decide +kernel), hL.v (by decide +kernel)⟩
theorem sh_l {l : Int} (h : aL l) : pd_sh pd_SH l = some (4, 4, 7) ∧ pd_sh pd_SH (l + 5) = some (1, 0, 12) ∧ pd_sh pd_SH (l + 6) = some (1, 0, 12) ∧ pd_sh pd_SH (l + 7) = some (1, 0, 12) ∧ pd_sh pd_SH (l + 8) = some (0, 2, 12) := by
  rcases h with rfl | rfl <;> decide +kernel
theorem ly_b {F : pd_F} {b : Int} (hL : pd_Ly F) (h : aB b) : F b 0 = b + 1 ∧ F b 1 = b + 2 ∧ F b 2 = b + 3 ∧ F b 3 = b + 4 ∧ F b 4 = b + 5 ∧ F b 5 = b + 6 ∧ F b 6 = b + 7 ∧ F b 7 = b + 8 ∧ F b 8 = b + 9 := by
  rcases h with rfl | rfl <;> exact ⟨hL.v (by decide +kernel), hL.v (by decide +kernel), hL.v (by decide +kernel), hL.v (by decide +kernel), hL.v (by decide +kernel), hL.v (by decide +kernel), hL.v (by decide +kernel), hL.v (by decide +kernel), hL.v (by decide +kernel)⟩
theorem sh_b {b : Int} (h : aB b) : pd_sh pd_SH b = some (4, 0, 15) ∧ pd_sh pd_SH (b + 1) = some (2, 5, 12) ∧ pd_sh pd_SH (b + 2) = some (2, 2, 5) ∧ pd_sh pd_SH (b + 3) = some (2, 2, 10) ∧ pd_sh pd_SH (b + 4) = some (0, 0, 10) ∧ pd_sh pd_SH (b + 5) = some (2, 1, 6) ∧ pd_sh pd_SH (b + 6) = some (2, 1, 8) ∧ pd_sh pd_SH (b + 7) = some (0, 0, 3) ∧ pd_sh pd_SH (b + 8) = some (0, 0, 36) ∧ pd_sh pd_SH (b + 9) = some (0, 0, 36) := by
  rcases h with rfl | rfl <;> decide +kernel
theorem sh_s0 : ∀ j : Nat, j < 19 → pd_sh pd_SH (117 + 5 * (j : Int)) = some (4, 8, 6) ∧ pd_sh pd_SH (117 + 5 * (j : Int) + 1) = some (0, 0, 10) ∧ pd_sh pd_SH (117 + 5 * (j : Int) + 2) = some (0, 0, 3) ∧ pd_sh pd_SH (117 + 5 * (j : Int) + 3) = some (0, 0, 31) ∧ pd_sh pd_SH (117 + 5 * (j : Int) + 4) = some (0, 0, 31) := by decide +kernel
theorem ly_s0 : ∀ j : Nat, j < 19 → pd_in3 pd_vs (117 + 5 * (j : Int) : Int) 0 ((117 + 5 * (j : Int) : Int) + 1) = true ∧ pd_in3 pd_vs (117 + 5 * (j : Int) : Int) 1 ((117 + 5 * (j : Int) : Int) + 2) = true ∧ pd_in3 pd_vs (117 + 5 * (j : Int) : Int) 2 ((117 + 5 * (j : Int) : Int) + 3) = true ∧ pd_in3 pd_vs (117 + 5 * (j : Int) : Int) 3 ((117 + 5 * (j : Int) : Int) + 4) = true := by decide +kernel
theorem sh_s {s : Int} (h : aS s) : pd_sh pd_SH (s) = some (4, 8, 6) ∧ pd_sh pd_SH (s + 1) = some (0, 0, 10) ∧ pd_sh pd_SH (s + 2) = some (0, 0, 3) ∧ pd_sh pd_SH (s + 3) = some (0, 0, 31) ∧ pd_sh pd_SH (s + 4) = some (0, 0, 31) := by
  rcases h with rfl | rfl | ⟨j, h0, h1, rfl⟩
  · decide +kernel
  · decide +kernel
  · obtain ⟨k, rfl⟩ := Int.eq_ofNat_of_zero_le h0
    exact sh_s0 k (by omega)
theorem ly_s {F : pd_F} {s : Int} (hL : pd_Ly F) (h : aS s) : F s 0 = s + 1 ∧ F s 1 = s + 2 ∧ F s 2 = s + 3 ∧ F s 3 = s + 4 := by
  rcases h with rfl | rfl | ⟨j, h0, h1, rfl⟩
  · exact ⟨hL.v (by decide +kernel), hL.v (by decide +kernel), hL.v (by decide +kernel), hL.v (by decide +kernel)⟩
  · exact ⟨hL.v (by decide +kernel), hL.v (by decide +kernel), hL.v (by decide +kernel), hL.v (by decide +kernel)⟩
  · obtain ⟨k, rfl⟩ := Int.eq_ofNat_of_zero_le h0
    have h := ly_s0 k (by omega)
    exact ⟨hL.v h.1, hL.v h.2.1, hL.v h.2.2.1, hL.v h.2.2.2⟩
theorem fy_p0 : ∀ i : Nat, i < 12 → pd_in3 pd_vs (5 + 1) ((i : Int)) (5 + 10 + 2 * (i : Int)) = true ∧ pd_in3 pd_vs (5 + 10 + 2 * (i : Int)) (0) (5 + 10 + 2 * (i : Int) + 1) = true ∧ pd_sh pd_SH (5 + 10 + 2 * (i : Int)) = some (4, 5, 5) ∧ pd_sh pd_SH (5 + 10 + 2 * (i : Int) + 1) = some (0, 0, 3) := by decide +kernel
theorem fy_p1 : ∀ i : Nat, i < 12 → pd_in3 pd_vs (259 + 1) ((i : Int)) (259 + 10 + 2 * (i : Int)) = true ∧ pd_in3 pd_vs (259 + 10 + 2 * (i : Int)) (0) (259 + 10 + 2 * (i : Int) + 1) = true ∧ pd_sh pd_SH (259 + 10 + 2 * (i : Int)) = some (4, 5, 5) ∧ pd_sh pd_SH (259 + 10 + 2 * (i : Int) + 1) = some (0, 0, 3) := by decide +kernel
theorem fy_p {F : pd_F} {b i : Int} (hL : pd_Ly F) (h : aB b) (h0 : 0 ≤ i) (h1 : i < 12) : F (b + 1) (i) = b + 10 + 2 * i ∧ F (b + 10 + 2 * i) (0) = b + 10 + 2 * i + 1 ∧ pd_sh pd_SH (b + 10 + 2 * i) = some (4, 5, 5) ∧ pd_sh pd_SH (b + 10 + 2 * i + 1) = some (0, 0, 3) := by
  obtain ⟨k, rfl⟩ := Int.eq_ofNat_of_zero_le h0
  rcases h with rfl | rfl
  · have z := fy_p0 k (by omega)
    exact ⟨hL.v z.1, hL.v z.2.1, z.2.2.1, z.2.2.2⟩
  · have z := fy_p1 k (by omega)
    exact ⟨hL.v z.1, hL.v z.2.1, z.2.2.1, z.2.2.2⟩
theorem fy_tr0 : ∀ i : Nat, i < 5 → pd_in3 pd_vs (5 + 2) ((i : Int)) (5 + 34 + 4 * (i : Int)) = true := by decide +kernel
theorem fy_tr1 : ∀ i : Nat, i < 5 → pd_in3 pd_vs (259 + 2) ((i : Int)) (259 + 34 + 4 * (i : Int)) = true := by decide +kernel
theorem fy_tr {F : pd_F} {b i : Int} (hL : pd_Ly F) (h : aB b) (h0 : 0 ≤ i) (h1 : i < 5) : F (b + 2) (i) = b + 34 + 4 * i := by
  obtain ⟨k, rfl⟩ := Int.eq_ofNat_of_zero_le h0
  rcases h with rfl | rfl
  · have z := fy_tr0 k (by omega)
    exact hL.v z
  · have z := fy_tr1 k (by omega)
    exact hL.v z
theorem fy_ac0 : ∀ i : Nat, i < 10 → pd_in3 pd_vs (5 + 3) ((i : Int)) (5 + 34 + 4 * (5 + (i : Int))) = true := by decide +kernel
theorem fy_ac1 : ∀ i : Nat, i < 10 → pd_in3 pd_vs (259 + 3) ((i : Int)) (259 + 34 + 4 * (5 + (i : Int))) = true := by decide +kernel
theorem fy_ac {F : pd_F} {b i : Int} (hL : pd_Ly F) (h : aB b) (h0 : 0 ≤ i) (h1 : i < 10) : F (b + 3) (i) = b + 34 + 4 * (5 + i) := by
  obtain ⟨k, rfl⟩ := Int.eq_ofNat_of_zero_le h0
  rcases h with rfl | rfl
  · have z := fy_ac0 k (by omega)
    exact hL.v z
  · have z := fy_ac1 k (by omega)
    exact hL.v z
theorem fy_g0 : ∀ i : Nat, i < 15 → pd_in3 pd_vs (5 + 34 + 4 * (i : Int)) (0) (5 + 34 + 4 * (i : Int) + 1) = true ∧ pd_in3 pd_vs (5 + 34 + 4 * (i : Int)) (1) (5 + 34 + 4 * (i : Int) + 2) = true ∧ pd_in3 pd_vs (5 + 34 + 4 * (i : Int)) (2) (5 + 34 + 4 * (i : Int) + 3) = true ∧ pd_sh pd_SH (5 + 34 + 4 * (i : Int)) = some (4, 2, 8) ∧ pd_sh pd_SH (5 + 34 + 4 * (i : Int) + 1) = some (0, 0, 5) ∧ pd_sh pd_SH (5 + 34 + 4 * (i : Int) + 2) = some (0, 0, 5) ∧ pd_sh pd_SH (5 + 34 + 4 * (i : Int) + 3) = some (0, 0, 12) := by decide +kernel
theorem fy_g1 : ∀ i : Nat, i < 15 → pd_in3 pd_vs (259 + 34 + 4 * (i : Int)) (0) (259 + 34 + 4 * (i : Int) + 1) = true ∧ pd_in3 pd_vs (259 + 34 + 4 * (i : Int)) (1) (259 + 34 + 4 * (i : Int) + 2) = true ∧ pd_in3 pd_vs (259 + 34 + 4 * (i : Int)) (2) (259 + 34 + 4 * (i : Int) + 3) = true ∧ pd_sh pd_SH (259 + 34 + 4 * (i : Int)) = some (4, 2, 8) ∧ pd_sh pd_SH (259 + 34 + 4 * (i : Int) + 1) = some (0, 0, 5) ∧ pd_sh pd_SH (259 + 34 + 4 * (i : Int) + 2) = some (0, 0, 5) ∧ pd_sh pd_SH (259 + 34 + 4 * (i : Int) + 3) = some (0, 0, 12) := by decide +kernel
theorem fy_g {F : pd_F} {b i : Int} (hL : pd_Ly F) (h : aB b) (h0 : 0 ≤ i) (h1 : i < 15) : F (b + 34 + 4 * i) (0) = b + 34 + 4 * i + 1 ∧ F (b + 34 + 4 * i) (1) = b + 34 + 4 * i + 2 ∧ F (b + 34 + 4 * i) (2) = b + 34 + 4 * i + 3 ∧ pd_sh pd_SH (b + 34 + 4 * i) = some (4, 2, 8) ∧ pd_sh pd_SH (b + 34 + 4 * i + 1) = some (0, 0, 5) ∧ pd_sh pd_SH (b + 34 + 4 * i + 2) = some (0, 0, 5) ∧ pd_sh pd_SH (b + 34 + 4 * i + 3) = some (0, 0, 12) := by
  obtain ⟨k, rfl⟩ := Int.eq_ofNat_of_zero_le h0
  rcases h with rfl | rfl
  · have z := fy_g0 k (by omega)
    exact ⟨hL.v z.1, hL.v z.2.1, hL.v z.2.2.1, z.2.2.2.1, z.2.2.2.2.1, z.2.2.2.2.2.1, z.2.2.2.2.2.2⟩
  · have z := fy_g1 k (by omega)
    exact ⟨hL.v z.1, hL.v z.2.1, hL.v z.2.2.1, z.2.2.2.1, z.2.2.2.2.1, z.2.2.2.2.2.1, z.2.2.2.2.2.2⟩
theorem fy_h0 : ∀ i : Nat, i < 6 → pd_in3 pd_vs (5 + 5) ((i : Int)) (5 + 94 + (i : Int)) = true ∧ pd_sh pd_SH (5 + 94 + (i : Int)) = some (4, 1, 4) := by decide +kernel
theorem fy_h1 : ∀ i : Nat, i < 6 → pd_in3 pd_vs (259 + 5) ((i : Int)) (259 + 94 + (i : Int)) = true ∧ pd_sh pd_SH (259 + 94 + (i : Int)) = some (4, 1, 4) := by decide +kernel
theorem fy_h {F : pd_F} {b i : Int} (hL : pd_Ly F) (h : aB b) (h0 : 0 ≤ i) (h1 : i < 6) : F (b + 5) (i) = b + 94 + i ∧ pd_sh pd_SH (b + 94 + i) = some (4, 1, 4) := by
  obtain ⟨k, rfl⟩ := Int.eq_ofNat_of_zero_le h0
  rcases h with rfl | rfl
  · have z := fy_h0 k (by omega)
    exact ⟨hL.v z.1, z.2⟩
  · have z := fy_h1 k (by omega)
    exact ⟨hL.v z.1, z.2⟩
theorem fy_o0 : ∀ i : Nat, i < 8 → pd_in3 pd_vs (5 + 6) ((i : Int)) (5 + 100 + (i : Int)) = true ∧ pd_sh pd_SH (5 + 100 + (i : Int)) = some (4, 1, 4) := by decide +kernel
theorem fy_o1 : ∀ i : Nat, i < 8 → pd_in3 pd_vs (259 + 6) ((i : Int)) (259 + 100 + (i : Int)) = true ∧ pd_sh pd_SH (259 + 100 + (i : Int)) = some (4, 1, 4) := by decide +kernel
theorem fy_o {F : pd_F} {b i : Int} (hL : pd_Ly F) (h : aB b) (h0 : 0 ≤ i) (h1 : i < 8) : F (b + 6) (i) = b + 100 + i ∧ pd_sh pd_SH (b + 100 + i) = some (4, 1, 4) := by
  obtain ⟨k, rfl⟩ := Int.eq_ofNat_of_zero_le h0
  rcases h with rfl | rfl
  · have z := fy_o0 k (by omega)
    exact ⟨hL.v z.1, z.2⟩
  · have z := fy_o1 k (by omega)
    exact ⟨hL.v z.1, z.2⟩
theorem fy_pa0 : ∀ i : Nat, i < 16 → pd_in3 pd_vs (114) ((i : Int)) (117 + 5 * (i : Int)) = true := by decide +kernel
theorem fy_pa {F : pd_F} {i : Int} (hL : pd_Ly F) (h0 : 0 ≤ i) (h1 : i < 16) : F (114) (i) = 117 + 5 * i := by
  obtain ⟨k, rfl⟩ := Int.eq_ofNat_of_zero_le h0
  have z := fy_pa0 k (by omega)
  exact hL.v z
theorem fy_ke0 : ∀ i : Nat, i < 3 → pd_in3 pd_vs (115) ((i : Int)) (117 + 5 * (16 + (i : Int))) = true := by decide +kernel
theorem fy_ke {F : pd_F} {i : Int} (hL : pd_Ly F) (h0 : 0 ≤ i) (h1 : i < 3) : F (115) (i) = 117 + 5 * (16 + i) := by
  obtain ⟨k, rfl⟩ := Int.eq_ofNat_of_zero_le h0
  have z := fy_ke0 k (by omega)
  exact hL.v z
theorem fy_oa0 : ∀ i : Nat, i < 10 → pd_in3 pd_vs (213) ((i : Int)) (214 + (i : Int)) = true ∧ pd_sh pd_SH (214 + (i : Int)) = some (0, 0, 12) := by decide +kernel
theorem fy_oa {F : pd_F} {i : Int} (hL : pd_Ly F) (h0 : 0 ≤ i) (h1 : i < 10) : F (213) (i) = 214 + i ∧ pd_sh pd_SH (214 + i) = some (0, 0, 12) := by
  obtain ⟨k, rfl⟩ := Int.eq_ofNat_of_zero_le h0
  have z := fy_oa0 k (by omega)
  exact ⟨hL.v z.1, z.2⟩
theorem fy_oh0 : ∀ i : Nat, i < 6 → pd_in3 pd_vs (224) ((i : Int)) (225 + (i : Int)) = true ∧ pd_sh pd_SH (225 + (i : Int)) = some (0, 0, 12) := by decide +kernel
theorem fy_oh {F : pd_F} {i : Int} (hL : pd_Ly F) (h0 : 0 ≤ i) (h1 : i < 6) : F (224) (i) = 225 + i ∧ pd_sh pd_SH (225 + i) = some (0, 0, 12) := by
  obtain ⟨k, rfl⟩ := Int.eq_ofNat_of_zero_le h0
  have z := fy_oh0 k (by omega)
  exact ⟨hL.v z.1, z.2⟩
theorem lx_1_0 {F : pd_F} (hL : pd_Ly F) : F 1 0 = 2 := hL.v (by decide +kernel)
theorem lx_1_1 {F : pd_F} (hL : pd_Ly F) : F 1 1 = 3 := hL.v (by decide +kernel)
theorem lx_1_2 {F : pd_F} (hL : pd_Ly F) : F 1 2 = 113 := hL.v (by decide +kernel)
theorem lx_1_3 {F : pd_F} (hL : pd_Ly F) : F 1 3 = 212 := hL.v (by decide +kernel)
theorem lx_1_4 {F : pd_F} (hL : pd_Ly F) : F 1 4 = 231 := hL.v (by decide +kernel)
theorem lx_1_5 {F : pd_F} (hL : pd_Ly F) : F 1 5 = 236 := hL.v (by decide +kernel)
theorem lx_1_6 {F : pd_F} (hL : pd_Ly F) : F 1 6 = 245 := hL.v (by decide +kernel)
theorem lx_1_7 {F : pd_F} (hL : pd_Ly F) : F 1 7 = 250 := hL.v (by decide +kernel)
theorem lx_2_0 {F : pd_F} (hL : pd_Ly F) : F 2 0 = 3 := hL.v (by decide +kernel)
theorem lx_3_0 {F : pd_F} (hL : pd_Ly F) : F 3 0 = 4 := hL.v (by decide +kernel)
theorem lx_113_0 {F : pd_F} (hL : pd_Ly F) : F 113 0 = 114 := hL.v (by decide +kernel)
theorem lx_113_1 {F : pd_F} (hL : pd_Ly F) : F 113 1 = 115 := hL.v (by decide +kernel)
theorem lx_113_2 {F : pd_F} (hL : pd_Ly F) : F 113 2 = 116 := hL.v (by decide +kernel)
theorem lx_212_0 {F : pd_F} (hL : pd_Ly F) : F 212 0 = 213 := hL.v (by decide +kernel)
theorem lx_212_1 {F : pd_F} (hL : pd_Ly F) : F 212 1 = 224 := hL.v (by decide +kernel)
theorem lm_1 {F : pd_F} (hL : pd_Ly F) : F 367 1 = 368 := hL.v (by decide +kernel)
theorem lm_14 {F : pd_F} (hL : pd_Ly F) : F 367 14 = 369 := hL.v (by decide +kernel)
theorem lm_15 {F : pd_F} (hL : pd_Ly F) : F 367 15 = 370 := hL.v (by decide +kernel)
theorem lm_16 {F : pd_F} (hL : pd_Ly F) : F 367 16 = 371 := hL.v (by decide +kernel)
theorem lm_17 {F : pd_F} (hL : pd_Ly F) : F 367 17 = 372 := hL.v (by decide +kernel)
theorem lm_18 {F : pd_F} (hL : pd_Ly F) : F 367 18 = 373 := hL.v (by decide +kernel)
theorem lm_19 {F : pd_F} (hL : pd_Ly F) : F 367 19 = 374 := hL.v (by decide +kernel)
theorem lm_20 {F : pd_F} (hL : pd_Ly F) : F 367 20 = 375 := hL.v (by decide +kernel)
theorem lm_21 {F : pd_F} (hL : pd_Ly F) : F 367 21 = 376 := hL.v (by decide +kernel)
theorem lm_22 {F : pd_F} (hL : pd_Ly F) : F 367 22 = 377 := hL.v (by decide +kernel)
theorem lm_23 {F : pd_F} (hL : pd_Ly F) : F 367 23 = 378 := hL.v (by decide +kernel)
theorem lm_24 {F : pd_F} (hL : pd_Ly F) : F 367 24 = 379 := hL.v (by decide +kernel)
theorem lm_25 {F : pd_F} (hL : pd_Ly F) : F 367 25 = 380 := hL.v (by decide +kernel)
theorem lm_26 {F : pd_F} (hL : pd_Ly F) : F 367 26 = 381 := hL.v (by decide +kernel)
theorem lm_27 {F : pd_F} (hL : pd_Ly F) : F 367 27 = 382 := hL.v (by decide +kernel)
theorem lm_28 {F : pd_F} (hL : pd_Ly F) : F 367 28 = 383 := hL.v (by decide +kernel)
theorem lm_29 {F : pd_F} (hL : pd_Ly F) : F 367 29 = 384 := hL.v (by decide +kernel)
theorem lm_30 {F : pd_F} (hL : pd_Ly F) : F 367 30 = 385 := hL.v (by decide +kernel)
theorem lm_31 {F : pd_F} (hL : pd_Ly F) : F 367 31 = 386 := hL.v (by decide +kernel)
theorem lm_32 {F : pd_F} (hL : pd_Ly F) : F 367 32 = 387 := hL.v (by decide +kernel)
theorem lm_33 {F : pd_F} (hL : pd_Ly F) : F 367 33 = 388 := hL.v (by decide +kernel)
theorem lm_34 {F : pd_F} (hL : pd_Ly F) : F 367 34 = 389 := hL.v (by decide +kernel)
theorem lm_35 {F : pd_F} (hL : pd_Ly F) : F 367 35 = 390 := hL.v (by decide +kernel)
theorem lm_36 {F : pd_F} (hL : pd_Ly F) : F 367 36 = 391 := hL.v (by decide +kernel)
theorem lm_37 {F : pd_F} (hL : pd_Ly F) : F 367 37 = 392 := hL.v (by decide +kernel)
theorem lm_39 {F : pd_F} (hL : pd_Ly F) : F 367 39 = 393 := hL.v (by decide +kernel)
theorem lm_40 {F : pd_F} (hL : pd_Ly F) : F 367 40 = 394 := hL.v (by decide +kernel)
theorem lm_42 {F : pd_F} (hL : pd_Ly F) : F 367 42 = 395 := hL.v (by decide +kernel)
theorem lm_43 {F : pd_F} (hL : pd_Ly F) : F 367 43 = 396 := hL.v (by decide +kernel)
theorem lm_44 {F : pd_F} (hL : pd_Ly F) : F 367 44 = 397 := hL.v (by decide +kernel)
theorem lm_45 {F : pd_F} (hL : pd_Ly F) : F 367 45 = 398 := hL.v (by decide +kernel)
theorem lm_47 {F : pd_F} (hL : pd_Ly F) : F 367 47 = 399 := hL.v (by decide +kernel)
theorem lm_48 {F : pd_F} (hL : pd_Ly F) : F 367 48 = 400 := hL.v (by decide +kernel)
theorem lm_49 {F : pd_F} (hL : pd_Ly F) : F 367 49 = 401 := hL.v (by decide +kernel)
theorem lm_50 {F : pd_F} (hL : pd_Ly F) : F 367 50 = 402 := hL.v (by decide +kernel)
theorem lm_51 {F : pd_F} (hL : pd_Ly F) : F 367 51 = 403 := hL.v (by decide +kernel)
theorem sx_1 : pd_sh pd_SH 1 = some (4, 11, 10) := by decide +kernel
theorem gx_1 : (pd_ob pd_SH 11 1 = true) = True := pl_ob sx_1
theorem sx_2 : pd_sh pd_SH 2 = some (4, 6, 3) := by decide +kernel
theorem gx_2 : (pd_ob pd_SH 6 2 = true) = True := pl_ob sx_2
theorem sx_3 : pd_sh pd_SH 3 = some (4, 9, 9) := by decide +kernel
theorem gx_3 : (pd_ob pd_SH 9 3 = true) = True := pl_ob sx_3
theorem sx_4 : pd_sh pd_SH 4 = some (0, 1, 1000) := by decide +kernel
theorem gx_4 {i : Int} : (pd_ib pd_SH 0 1 4 i = true) = (0 ≤ i ∧ i < 1000) := pl_ib sx_4
theorem gn_4 : pd_ln pd_SH 0 1 4 = 1000 := pl_ln sx_4
theorem sx_113 : pd_sh pd_SH 113 = some (4, 3, 5) := by decide +kernel
theorem gx_113 : (pd_ob pd_SH 3 113 = true) = True := pl_ob sx_113
theorem sx_114 : pd_sh pd_SH 114 = some (2, 8, 16) := by decide +kernel
theorem gx_114 {i : Int} : (pd_ib pd_SH 2 8 114 i = true) = (0 ≤ i ∧ i < 16) := pl_ib sx_114
theorem gn_114 : pd_ln pd_SH 2 8 114 = 16 := pl_ln sx_114
theorem sx_115 : pd_sh pd_SH 115 = some (2, 8, 3) := by decide +kernel
theorem gx_115 {i : Int} : (pd_ib pd_SH 2 8 115 i = true) = (0 ≤ i ∧ i < 3) := pl_ib sx_115
theorem gn_115 : pd_ln pd_SH 2 8 115 = 3 := pl_ln sx_115
theorem sx_116 : pd_sh pd_SH 116 = some (0, 2, 3) := by decide +kernel
theorem gx_116 {i : Int} : (pd_ib pd_SH 0 2 116 i = true) = (0 ≤ i ∧ i < 3) := pl_ib sx_116
theorem gn_116 : pd_ln pd_SH 0 2 116 = 3 := pl_ln sx_116
theorem sx_212 : pd_sh pd_SH 212 = some (4, 7, 2) := by decide +kernel
theorem gx_212 : (pd_ob pd_SH 7 212 = true) = True := pl_ob sx_212
theorem sx_213 : pd_sh pd_SH 213 = some (3, 0, 10) := by decide +kernel
theorem gx_213 {i : Int} : (pd_ib pd_SH 3 0 213 i = true) = (0 ≤ i ∧ i < 10) := pl_ib sx_213
theorem gn_213 : pd_ln pd_SH 3 0 213 = 10 := pl_ln sx_213
theorem sx_224 : pd_sh pd_SH 224 = some (3, 0, 6) := by decide +kernel
theorem gx_224 {i : Int} : (pd_ib pd_SH 3 0 224 i = true) = (0 ≤ i ∧ i < 6) := pl_ib sx_224
theorem gn_224 : pd_ln pd_SH 3 0 224 = 6 := pl_ln sx_224
theorem sx_367 : pd_sh pd_SH 367 = some (4, 12, 52) := by decide +kernel
theorem gx_367 : (pd_ob pd_SH 12 367 = true) = True := pl_ob sx_367
theorem sx_368 : pd_sh pd_SH 368 = some (0, 1, 1000) := by decide +kernel
theorem gx_368 {i : Int} : (pd_ib pd_SH 0 1 368 i = true) = (0 ≤ i ∧ i < 1000) := pl_ib sx_368
theorem gn_368 : pd_ln pd_SH 0 1 368 = 1000 := pl_ln sx_368
theorem sx_369 : pd_sh pd_SH 369 = some (0, 0, 2) := by decide +kernel
theorem gx_369 {i : Int} : (pd_ib pd_SH 0 0 369 i = true) = (0 ≤ i ∧ i < 2) := pl_ib sx_369
theorem gn_369 : pd_ln pd_SH 0 0 369 = 2 := pl_ln sx_369
theorem sx_370 : pd_sh pd_SH 370 = some (0, 0, 2) := by decide +kernel
theorem gx_370 {i : Int} : (pd_ib pd_SH 0 0 370 i = true) = (0 ≤ i ∧ i < 2) := pl_ib sx_370
theorem gn_370 : pd_ln pd_SH 0 0 370 = 2 := pl_ln sx_370
theorem sx_371 : pd_sh pd_SH 371 = some (0, 0, 2) := by decide +kernel
theorem gx_371 {i : Int} : (pd_ib pd_SH 0 0 371 i = true) = (0 ≤ i ∧ i < 2) := pl_ib sx_371
theorem gn_371 : pd_ln pd_SH 0 0 371 = 2 := pl_ln sx_371
theorem sx_372 : pd_sh pd_SH 372 = some (0, 0, 2) := by decide +kernel
theorem gx_372 {i : Int} : (pd_ib pd_SH 0 0 372 i = true) = (0 ≤ i ∧ i < 2) := pl_ib sx_372
theorem gn_372 : pd_ln pd_SH 0 0 372 = 2 := pl_ln sx_372
theorem sx_373 : pd_sh pd_SH 373 = some (0, 0, 2) := by decide +kernel
theorem gx_373 {i : Int} : (pd_ib pd_SH 0 0 373 i = true) = (0 ≤ i ∧ i < 2) := pl_ib sx_373
theorem gn_373 : pd_ln pd_SH 0 0 373 = 2 := pl_ln sx_373
theorem sx_374 : pd_sh pd_SH 374 = some (1, 0, 24) := by decide +kernel
theorem gx_374 {i : Int} : (pd_ib pd_SH 1 0 374 i = true) = (0 ≤ i ∧ i < 24) := pl_ib sx_374
theorem gn_374 : pd_ln pd_SH 1 0 374 = 24 := pl_ln sx_374
theorem sx_375 : pd_sh pd_SH 375 = some (0, 0, 24) := by decide +kernel
theorem gx_375 {i : Int} : (pd_ib pd_SH 0 0 375 i = true) = (0 ≤ i ∧ i < 24) := pl_ib sx_375
theorem gn_375 : pd_ln pd_SH 0 0 375 = 24 := pl_ln sx_375
theorem sx_376 : pd_sh pd_SH 376 = some (0, 0, 72) := by decide +kernel
theorem gx_376 {i : Int} : (pd_ib pd_SH 0 0 376 i = true) = (0 ≤ i ∧ i < 72) := pl_ib sx_376
theorem gn_376 : pd_ln pd_SH 0 0 376 = 72 := pl_ln sx_376
theorem sx_377 : pd_sh pd_SH 377 = some (0, 2, 24) := by decide +kernel
theorem gx_377 {i : Int} : (pd_ib pd_SH 0 2 377 i = true) = (0 ≤ i ∧ i < 24) := pl_ib sx_377
theorem gn_377 : pd_ln pd_SH 0 2 377 = 24 := pl_ln sx_377
theorem sx_378 : pd_sh pd_SH 378 = some (1, 0, 10) := by decide +kernel
theorem gx_378 {i : Int} : (pd_ib pd_SH 1 0 378 i = true) = (0 ≤ i ∧ i < 10) := pl_ib sx_378
theorem gn_378 : pd_ln pd_SH 1 0 378 = 10 := pl_ln sx_378
theorem sx_379 : pd_sh pd_SH 379 = some (1, 0, 20) := by decide +kernel
theorem gx_379 {i : Int} : (pd_ib pd_SH 1 0 379 i = true) = (0 ≤ i ∧ i < 20) := pl_ib sx_379
theorem gn_379 : pd_ln pd_SH 1 0 379 = 20 := pl_ln sx_379
theorem sx_380 : pd_sh pd_SH 380 = some (0, 0, 20) := by decide +kernel
theorem gx_380 {i : Int} : (pd_ib pd_SH 0 0 380 i = true) = (0 ≤ i ∧ i < 20) := pl_ib sx_380
theorem gn_380 : pd_ln pd_SH 0 0 380 = 20 := pl_ln sx_380
theorem sx_381 : pd_sh pd_SH 381 = some (0, 0, 30) := by decide +kernel
theorem gx_381 {i : Int} : (pd_ib pd_SH 0 0 381 i = true) = (0 ≤ i ∧ i < 30) := pl_ib sx_381
theorem gn_381 : pd_ln pd_SH 0 0 381 = 30 := pl_ln sx_381
theorem sx_382 : pd_sh pd_SH 382 = some (0, 0, 150) := by decide +kernel
theorem gx_382 {i : Int} : (pd_ib pd_SH 0 0 382 i = true) = (0 ≤ i ∧ i < 150) := pl_ib sx_382
theorem gn_382 : pd_ln pd_SH 0 0 382 = 150 := pl_ln sx_382
theorem sx_383 : pd_sh pd_SH 383 = some (0, 0, 150) := by decide +kernel
theorem gx_383 {i : Int} : (pd_ib pd_SH 0 0 383 i = true) = (0 ≤ i ∧ i < 150) := pl_ib sx_383
theorem gn_383 : pd_ln pd_SH 0 0 383 = 150 := pl_ln sx_383
theorem sx_384 : pd_sh pd_SH 384 = some (0, 0, 12) := by decide +kernel
theorem gx_384 {i : Int} : (pd_ib pd_SH 0 0 384 i = true) = (0 ≤ i ∧ i < 12) := pl_ib sx_384
theorem gn_384 : pd_ln pd_SH 0 0 384 = 12 := pl_ln sx_384
theorem sx_385 : pd_sh pd_SH 385 = some (0, 0, 12) := by decide +kernel
theorem gx_385 {i : Int} : (pd_ib pd_SH 0 0 385 i = true) = (0 ≤ i ∧ i < 12) := pl_ib sx_385
theorem gn_385 : pd_ln pd_SH 0 0 385 = 12 := pl_ln sx_385
theorem sx_386 : pd_sh pd_SH 386 = some (0, 0, 12) := by decide +kernel
theorem gx_386 {i : Int} : (pd_ib pd_SH 0 0 386 i = true) = (0 ≤ i ∧ i < 12) := pl_ib sx_386
theorem gn_386 : pd_ln pd_SH 0 0 386 = 12 := pl_ln sx_386
theorem sx_387 : pd_sh pd_SH 387 = some (0, 0, 12) := by decide +kernel
theorem gx_387 {i : Int} : (pd_ib pd_SH 0 0 387 i = true) = (0 ≤ i ∧ i < 12) := pl_ib sx_387
theorem gn_387 : pd_ln pd_SH 0 0 387 = 12 := pl_ln sx_387
theorem sx_388 : pd_sh pd_SH 388 = some (0, 0, 16) := by decide +kernel
theorem gx_388 {i : Int} : (pd_ib pd_SH 0 0 388 i = true) = (0 ≤ i ∧ i < 16) := pl_ib sx_388
theorem gn_388 : pd_ln pd_SH 0 0 388 = 16 := pl_ln sx_388
theorem sx_389 : pd_sh pd_SH 389 = some (0, 0, 16) := by decide +kernel
theorem gx_389 {i : Int} : (pd_ib pd_SH 0 0 389 i = true) = (0 ≤ i ∧ i < 16) := pl_ib sx_389
theorem gn_389 : pd_ln pd_SH 0 0 389 = 16 := pl_ln sx_389
theorem sx_390 : pd_sh pd_SH 390 = some (0, 0, 16) := by decide +kernel
theorem gx_390 {i : Int} : (pd_ib pd_SH 0 0 390 i = true) = (0 ≤ i ∧ i < 16) := pl_ib sx_390
theorem gn_390 : pd_ln pd_SH 0 0 390 = 16 := pl_ln sx_390
theorem sx_391 : pd_sh pd_SH 391 = some (0, 0, 3) := by decide +kernel
theorem gx_391 {i : Int} : (pd_ib pd_SH 0 0 391 i = true) = (0 ≤ i ∧ i < 3) := pl_ib sx_391
theorem gn_391 : pd_ln pd_SH 0 0 391 = 3 := pl_ln sx_391
theorem sx_392 : pd_sh pd_SH 392 = some (0, 2, 3) := by decide +kernel
theorem gx_392 {i : Int} : (pd_ib pd_SH 0 2 392 i = true) = (0 ≤ i ∧ i < 3) := pl_ib sx_392
theorem gn_392 : pd_ln pd_SH 0 2 392 = 3 := pl_ln sx_392
theorem sx_393 : pd_sh pd_SH 393 = some (0, 0, 111) := by decide +kernel
theorem gx_393 {i : Int} : (pd_ib pd_SH 0 0 393 i = true) = (0 ≤ i ∧ i < 111) := pl_ib sx_393
theorem gn_393 : pd_ln pd_SH 0 0 393 = 111 := pl_ln sx_393
theorem sx_394 : pd_sh pd_SH 394 = some (0, 0, 1776) := by decide +kernel
theorem gx_394 {i : Int} : (pd_ib pd_SH 0 0 394 i = true) = (0 ≤ i ∧ i < 1776) := pl_ib sx_394
theorem gn_394 : pd_ln pd_SH 0 0 394 = 1776 := pl_ln sx_394
theorem sx_395 : pd_sh pd_SH 395 = some (0, 0, 333) := by decide +kernel
theorem gx_395 {i : Int} : (pd_ib pd_SH 0 0 395 i = true) = (0 ≤ i ∧ i < 333) := pl_ib sx_395
theorem gn_395 : pd_ln pd_SH 0 0 395 = 333 := pl_ln sx_395
theorem sx_396 : pd_sh pd_SH 396 = some (0, 2, 3) := by decide +kernel
theorem gx_396 {i : Int} : (pd_ib pd_SH 0 2 396 i = true) = (0 ≤ i ∧ i < 3) := pl_ib sx_396
theorem gn_396 : pd_ln pd_SH 0 2 396 = 3 := pl_ln sx_396
theorem sx_397 : pd_sh pd_SH 397 = some (1, 0, 12) := by decide +kernel
theorem gx_397 {i : Int} : (pd_ib pd_SH 1 0 397 i = true) = (0 ≤ i ∧ i < 12) := pl_ib sx_397
theorem gn_397 : pd_ln pd_SH 1 0 397 = 12 := pl_ln sx_397
theorem sx_398 : pd_sh pd_SH 398 = some (0, 0, 12) := by decide +kernel
theorem gx_398 {i : Int} : (pd_ib pd_SH 0 0 398 i = true) = (0 ≤ i ∧ i < 12) := pl_ib sx_398
theorem gn_398 : pd_ln pd_SH 0 0 398 = 12 := pl_ln sx_398
theorem sx_399 : pd_sh pd_SH 399 = some (0, 0, 12) := by decide +kernel
theorem gx_399 {i : Int} : (pd_ib pd_SH 0 0 399 i = true) = (0 ≤ i ∧ i < 12) := pl_ib sx_399
theorem gn_399 : pd_ln pd_SH 0 0 399 = 12 := pl_ln sx_399
theorem sx_400 : pd_sh pd_SH 400 = some (1, 0, 12) := by decide +kernel
theorem gx_400 {i : Int} : (pd_ib pd_SH 1 0 400 i = true) = (0 ≤ i ∧ i < 12) := pl_ib sx_400
theorem gn_400 : pd_ln pd_SH 1 0 400 = 12 := pl_ln sx_400
theorem sx_401 : pd_sh pd_SH 401 = some (1, 0, 12) := by decide +kernel
theorem gx_401 {i : Int} : (pd_ib pd_SH 1 0 401 i = true) = (0 ≤ i ∧ i < 12) := pl_ib sx_401
theorem gn_401 : pd_ln pd_SH 1 0 401 = 12 := pl_ln sx_401
theorem sx_402 : pd_sh pd_SH 402 = some (1, 0, 12) := by decide +kernel
theorem gx_402 {i : Int} : (pd_ib pd_SH 1 0 402 i = true) = (0 ≤ i ∧ i < 12) := pl_ib sx_402
theorem gn_402 : pd_ln pd_SH 1 0 402 = 12 := pl_ln sx_402
theorem sx_403 : pd_sh pd_SH 403 = some (0, 2, 12) := by decide +kernel
theorem gx_403 {i : Int} : (pd_ib pd_SH 0 2 403 i = true) = (0 ≤ i ∧ i < 12) := pl_ib sx_403
theorem gn_403 : pd_ln pd_SH 0 2 403 = 12 := pl_ln sx_403
theorem sx_404 : pd_sh pd_SH 404 = some (1, 0, 1) := by decide +kernel
theorem gx_404 {i : Int} : (pd_ib pd_SH 1 0 404 i = true) = (0 ≤ i ∧ i < 1) := pl_ib sx_404
theorem gn_404 : pd_ln pd_SH 1 0 404 = 1 := pl_ln sx_404

/-! the law looks at who stands where -/
section LR
variable {sT : pd_S} {D : pd_F} {s : Int → Int} {F : pd_F}
/-- o stands ahead of d -/
def ah (D : pd_F) (s : Int → Int) (o d : Int) : Prop := cCl D s o > cCl D s d ∨ (cCl D s o = cCl D s d ∧ o < d)
theorem cPl_one {o d : Int} : 0 ≤ (if cCl D s o > cCl D s d ∨ (cCl D s o = cCl D s d ∧ o < d) then (1 : Int) else 0) ∧ (if cCl D s o > cCl D s d ∨ (cCl D s o = cCl D s d ∧ o < d) then (1 : Int) else 0) ≤ 1 := by split <;> decide
theorem cPl_lt {a b : Int} (ha : 0 ≤ a ∧ a < sD D s) (hab : ah D s a b) : cPl D s a + 1 ≤ cPl D s b := by
  have u := Sm_up (f := fun o => if cCl D s o > cCl D s a ∨ (cCl D s o = cCl D s a ∧ o < a) then (1 : Int) else 0) (v := 1) ha.1 ha.2
  unfold cPl
  rw [← u]
  refine Sm_le (by omega) fun o _ _ => ?_
  show (if o = a then (if cCl D s o > cCl D s a ∨ (cCl D s o = cCl D s a ∧ o < a) then (1 : Int) else 0) + 1 else (if cCl D s o > cCl D s a ∨ (cCl D s o = cCl D s a ∧ o < a) then (1 : Int) else 0)) ≤ (if cCl D s o > cCl D s b ∨ (cCl D s o = cCl D s b ∧ o < b) then (1 : Int) else 0)
  unfold ah at hab
  by_cases e : o = a
  · subst e
    rw [if_pos rfl, if_neg (by omega), if_pos hab]; decide
  · rw [if_neg e]
    by_cases z : cCl D s o > cCl D s a ∨ (cCl D s o = cCl D s a ∧ o < a)
    · rw [if_pos z, if_pos (by omega)]; decide
    · rw [if_neg z]; exact cPl_one.1
theorem cPl_bd {d : Int} (hd : 0 ≤ d ∧ d < sD D s) : 0 ≤ cPl D s d ∧ cPl D s d < sD D s := by
  have u := Sm_up (f := fun o => if cCl D s o > cCl D s d ∨ (cCl D s o = cCl D s d ∧ o < d) then (1 : Int) else 0) (v := 1) hd.1 hd.2
  have b := Sm_bd (f := fun o => if cCl D s o > cCl D s d ∨ (cCl D s o = cCl D s d ∧ o < d) then (1 : Int) else 0) (lo := 0) (hi := 1) (n := sD D s) (by omega) (fun i _ _ => cPl_one)
  have c := Sm_bd (f := fun i => if i = d then (if cCl D s i > cCl D s d ∨ (cCl D s i = cCl D s d ∧ i < d) then (1 : Int) else 0) + 1 else (if cCl D s i > cCl D s d ∨ (cCl D s i = cCl D s d ∧ i < d) then (1 : Int) else 0)) (lo := 0) (hi := 1) (n := sD D s) (by omega) (fun i _ _ => by
    by_cases e : i = d
    · subst e
      rw [if_pos rfl, if_neg (by omega)]; decide
    · rw [if_neg e]; exact cPl_one)
  unfold cPl
  omega
theorem ah_tot {a b : Int} (h : a ≠ b) : ah D s a b ∨ ah D s b a := by unfold ah; omega
theorem cPl_inj {a b : Int} (ha : 0 ≤ a ∧ a < sD D s) (hb : 0 ≤ b ∧ b < sD D s) (h : cPl D s a = cPl D s b) : a = b := by
  apply Classical.byContradiction
  intro z
  rcases ah_tot (D := D) (s := s) z with w | w
  · have := cPl_lt ha w; omega
  · have := cPl_lt hb w; omega
theorem cnt_le {f : Int → Int} {k : Int} : ∀ n : Nat, (∀ i j : Int, 0 ≤ i → i < n → 0 ≤ j → j < n → f i = f j → i = j) → Sm (fun d => if f d = k then 1 else 0) n ≤ 1 := by
  intro n
  induction n with
  | zero => intro _; exact (by decide : (0 : Int) ≤ 1)
  | succ n ih =>
    intro inj
    have e : ((n + 1 : Nat) : Int) = (n : Int) + 1 := by omega
    rw [e, Sm_s (by omega)]
    by_cases z : f n = k
    · rw [Sm_zero (f := fun d => if f d = k then 1 else 0), if_pos z]
      · decide
      · intro i x y
        show (if f i = k then (1 : Int) else 0) = 0
        refine if_neg fun w => ?_
        have := inj i n x (by omega) (by omega) (by omega) (by rw [w, z])
        omega
    · rw [if_neg z, Int.add_zero]
      exact ih fun i j a b c d e => inj i j a (by omega) c (by omega) e
theorem onto {f : Int → Int} {n : Int} (hn : 0 ≤ n) (hf : ∀ i, 0 ≤ i → i < n → 0 ≤ f i ∧ f i < n) (inj : ∀ i j, 0 ≤ i → i < n → 0 ≤ j → j < n → f i = f j → i = j) {k : Int} (hk : 0 ≤ k ∧ k < n) : ∃ d, 0 ≤ d ∧ d < n ∧ f d = k := by
  apply Classical.byContradiction
  intro no
  have c0 : Sm (fun d => if f d = k then 1 else 0) n = 0 := Sm_zero fun d x y => if_neg fun w => no ⟨d, x, y, w⟩
  have c1 : ∀ q, Sm (fun d => if f d = q then 1 else 0) n ≤ 1 := fun q => by
    have e : ((n.toNat : Nat) : Int) = n := by omega
    have := cnt_le (f := f) (k := q) n.toNat (by rw [e]; exact inj)
    rw [e] at this
    exact this
  have tot : Sm (fun q => Sm (fun d => if f d = q then (1 : Int) else 0) n) n = n := by
    rw [Sm_swap hn hn]
    refine Eq.trans (Sm_congr (g := fun _ => 1) fun d x y => Sm_one (hf d x y).1 (hf d x y).2) ?_
    have := Sm_bd (f := fun _ => 1) (lo := 1) (hi := 1) hn (fun _ _ _ => by omega)
    omega
  have up := Sm_up (f := fun q => Sm (fun d => if f d = q then (1 : Int) else 0) n) (v := 1) hk.1 hk.2
  have le := Sm_le (f := fun q => if q = k then Sm (fun d => if f d = q then (1 : Int) else 0) n + 1 else Sm (fun d => if f d = q then (1 : Int) else 0) n) (g := fun _ => 1) hn (fun q _ _ => by
    show (if q = k then Sm (fun d => if f d = q then (1 : Int) else 0) n + 1 else Sm (fun d => if f d = q then (1 : Int) else 0) n) ≤ 1
    by_cases e : q = k
    · subst e; rw [if_pos rfl, c0]; decide
    · rw [if_neg e]; exact c1 q)
  have one := Sm_bd (f := fun _ => 1) (lo := 1) (hi := 1) hn (fun _ _ _ => by omega)
  rw [up, tot] at le
  omega
theorem q_ranked (h : cS D s F) {k : Int} (hk : 0 ≤ k ∧ k < sD D s) : ∃ d, (0 ≤ d ∧ d < sD D s) ∧ cPl D s d = k ∧ pfX11_ranked (pd_SH sT) 5000 F 1 k = some (d, F) := by
  have sd := h.sd
  obtain ⟨v, e1, e2⟩ := p_ranked (sT := sT) h (k := k)
  rcases e2 with ⟨a, b, c, -⟩ | ⟨no, -⟩
  · exact ⟨v, ⟨a, b⟩, c, e1⟩
  · obtain ⟨d, a, b, c⟩ := onto (f := cPl D s) sd.1 (fun i x y => cPl_bd ⟨x, y⟩) (fun i j x y z w e => cPl_inj ⟨x, y⟩ ⟨z, w⟩ e) hk
    exact absurd c (no d a b)
theorem q_none (h : cS D s F) : pfX11_ranked (pd_SH sT) 5000 F 1 (sD D s) = some (-1, F) := by
  obtain ⟨v, e1, e2⟩ := p_ranked (sT := sT) h (k := sD D s)
  rcases e2 with ⟨a, b, c, -⟩ | ⟨-, e⟩
  · have := cPl_bd (D := D) (s := s) ⟨a, b⟩
    omega
  · rw [e1, e]
theorem r_4 (h : cS D s F) : ∀ (k : Nat) (x2 x3 : Int), 0 ≤ x3 ∧ x3 ≤ sD D s → sD D s - x3 < k → (0 ≤ x2 ∧ x2 < 4096) → (∀ d, 0 ≤ d → d < sD D s → (tb x2 d ↔ cPl D s d < x3)) → pfL_isRanked_b4 (pd_SH sT) 5000 k F 1 (sD D s) x2 x3 = some (1, F) := by
  have sd := h.sd
  have bb := h.b9
  intro k
  induction k with
  | zero => intro x2 x3 hx hk; omega
  | succ k ih =>
    intro x2 x3 hx hk h2 hb
    rw [pfL_isRanked_b4]
    by_cases c : x3 ≥ sD D s
    · rw [if_pos c]
      unfold pfL_isRanked_b111
      simp only [gx_1, pl_iT, q_none h, pl_b, pl_l]
      rw [if_neg (fun z => z rfl)]
    · rw [if_neg c]
      obtain ⟨d, d0, dk, dr⟩ := q_ranked (sT := sT) h (k := x3) ⟨hx.1, by omega⟩
      obtain ⟨b1, b2⟩ := tb_one (p := d) (by omega)
      obtain ⟨o1, o2⟩ := tb_or h2 b1
      have nt : ¬ tb x2 d := fun z => by have := (hb d d0.1 d0.2).mp z; omega
      have an : pd_and (pd_shr x2 d) 1 = 0 := (tb_holds h2 (by omega)).mpr nt
      have on := ih (pd_or x2 (pd_shl 1 d)) (x3 + 1) (by omega) (by omega) o1 (fun q x y => by
        rw [o2 q, hb q x y, b2 q x]
        constructor
        · rintro (z | z)
          · omega
          · subst z; omega
        · intro z
          by_cases w : cPl D s q < x3
          · exact Or.inl w
          · exact Or.inr (cPl_inj ⟨x, y⟩ d0 (by omega)))
      have e105 : pfL_isRanked_b105 (pd_SH sT) 5000 (pfL_isRanked_b4 (pd_SH sT) 5000 k) F 1 (sD D s) (pd_or x2 (pd_shl 1 d)) x3 = some (1, F) := by
        unfold pfL_isRanked_b105
        rw [pl_l, pl_w (by omega)]
        exact on
      simp only [gx_1, pl_iT, dr, pl_b, pl_l]
      rw [if_neg (by omega), an, if_pos (by decide)]
      by_cases z : x3 = 0
      · rw [if_neg (fun y => y z)]
        exact e105
      · rw [if_pos z]
        obtain ⟨w, w0, wk, wr⟩ := q_ranked (sT := sT) h (k := x3 - 1) (by omega)
        have ne : w ≠ d := fun e => by rw [e] at wk; omega
        have first : ah D s w d := by
          rcases ah_tot (D := D) (s := s) ne with y | y
          · exact y
          · have := cPl_lt d0 y; omega
        obtain ⟨-, -, -, -, -, -, -, v7, -⟩ := vw (D := D) (s := s) d0
        obtain ⟨-, -, -, -, -, -, -, u7, -⟩ := vw (D := D) (s := s) w0
        have qd : pfX11_view (pd_SH sT) 5000 F 1 d 7 = some (cCl D s d, F) := by rw [p_view h, v7]
        have qw : pfX11_view (pd_SH sT) 5000 F 1 w 7 = some (cCl D s w, F) := by rw [p_view h, u7]
        rw [pl_w (x := x3 - 1) (by omega), wr]
        simp only [qd, qw, pl_b, pl_l]
        unfold ah at first
        rw [if_neg (by omega)]
        by_cases y : cCl D s w = cCl D s d
        · rw [if_neg (fun f => f y), if_pos (by omega)]
          exact e105
        · rw [if_pos y]
          exact e105
theorem l_isRanked (h : cS D s F) : pfL_isRanked (pd_SH sT) 5000 F 1 (sD D s) = some (1, F) := by
  have sd := h.sd
  have bb := h.b9
  unfold pfL_isRanked
  refine r_4 h 5000 0 0 ⟨by decide, sd.1⟩ (by omega) (by decide) fun d x y => ⟨fun z => absurd z (tb_0 d), fun z => ?_⟩
  have := cPl_bd (D := D) (s := s) ⟨x, y⟩
  omega
end LR

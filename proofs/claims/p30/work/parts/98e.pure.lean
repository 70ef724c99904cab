variable {sT : pd_S}
/-! names found -/
/-- v is the first below N with Q, or none -/
def fI (Q : Int → Prop) (N v : Int) : Prop := (0 ≤ v ∧ v < N ∧ Q v ∧ ∀ j, 0 ≤ j → j < v → ¬ Q j) ∨ (v = -1 ∧ ∀ j, 0 ≤ j → j < N → ¬ Q j)
theorem fI_ex (Q : Int → Prop) {N : Int} (hN : 0 ≤ N) : ∃ v, fI Q N v := by
  obtain ⟨n, rfl⟩ := Int.eq_ofNat_of_zero_le hN
  clear hN
  induction n with
  | zero => exact ⟨-1, Or.inr ⟨rfl, fun j a b => by omega⟩⟩
  | succ n ih =>
    obtain ⟨v, ⟨a, b, c, d⟩ | ⟨a, b⟩⟩ := ih
    · exact ⟨v, Or.inl ⟨a, by omega, c, d⟩⟩
    · rcases Classical.em (Q n) with k | k
      · exact ⟨n, Or.inl ⟨by omega, by omega, k, b⟩⟩
      · refine ⟨-1, Or.inr ⟨rfl, fun j x y => ?_⟩⟩
        by_cases e : j = n
        · rw [e]; exact k
        · exact b j x (by omega)
theorem fI_bd {Q : Int → Prop} {N v : Int} (h : fI Q N v) : (0 ≤ v ∧ v < N) ∨ v = -1 := by
  rcases h with ⟨a, b, _⟩ | ⟨a, _⟩
  · exact Or.inl ⟨a, b⟩
  · exact Or.inr a
theorem pl_fi {R : Type} {f : Nat → Int → Option R} {Q : Int → Prop} {hit : Int → Option R} {miss : Option R} {N v : Int} (hN : 0 ≤ N)
    (hh : ∀ k i, 0 ≤ i → i < N → Q i → f (k + 1) i = hit i) (hm : ∀ k i, 0 ≤ i → i < N → ¬ Q i → f (k + 1) i = f k (i + 1)) (he : ∀ k, f (k + 1) N = miss) (k : Nat) (hk : N < k) (h : fI Q N v) : f k 0 = if 0 ≤ v then hit v else miss := by
  rcases pl_find hN hh hm he k hk with ⟨i, a, b, c, d, e⟩ | ⟨c, e⟩
  · rcases h with ⟨x, y, z, w⟩ | ⟨x, y⟩
    · have : i = v := by
        rcases Int.lt_trichotomy i v with q | q | q
        · exact absurd c (w i a q)
        · exact q
        · exact absurd z (d v x q)
      rw [e, if_pos x, this]
    · exact absurd c (y i a b)
  · rcases h with ⟨x, y, z, w⟩ | ⟨x, y⟩
    · exact absurd z (c v x y)
    · rw [e, if_neg (by omega)]
section NF
variable {F G : pd_F} {b : Int}
theorem c_find (hL : pd_Ly F) (hb : aB b) {w p t a : Int} (n9 : 0 ≤ F b 9 ∧ F b 9 ≤ 12) (n10 : 0 ≤ F b 10 ∧ F b 10 ≤ 5) (n11 : 0 ≤ F b 11 ∧ F b 11 ≤ 10) (hp : fI (fun k => F (b + 10 + 2 * k) 2 = w) (F b 9) p) (ht : fI (fun k => F (b + 34 + 4 * k) 4 = w) (F b 10) t) (ha : fI (fun k => F (b + 34 + 4 * (5 + k)) 4 = w) (F b 11) a) :
    pfX0_find (pd_SH sT) 5000 F b w = some (if 0 ≤ p then p else if 0 ≤ t then 12 + t else if 0 ≤ a then 17 + a else -1, F) := by
  obtain ⟨s0, s1, s2, s3, s4, s5, s6, s7, s8, s9⟩ := sh_b (sT := sT) hb
  obtain ⟨l0, l1, l2, l3, l4, l5, l6, l7, l8⟩ := ly_b hL hb
  have e3 : pfX0_find_b67 (pd_SH sT) 5000 F b w = if 0 ≤ a then some (17 + a, F) else some (-1, F) := by
    unfold pfX0_find_b67
    refine pl_fi (f := fun j i => pfX0_find_b69 (pd_SH sT) 5000 j F b w i) (hit := fun i => some (17 + i, F)) (miss := some (-1, F)) n11.1 (fun k i x y q => ?_) (fun k i x y q => ?_) (fun k => ?_) 5000 (by omega) ha
    · have u := fy_ac hL hb x (show i < 10 by omega)
      obtain ⟨-, -, -, sg, -⟩ := fy_g (sT := sT) hL hb (i := 5 + i) (by omega) (by omega)
      show pfX0_find_b69 (pd_SH sT) 5000 (k + 1) F b w i = _
      simp only [pfX0_find_b69, pl_l, pl_b, pl_iT, pl_t, pl_f, pl_ob s0, l2, pl_ib s3, u, pl_ob sg]
      rw [if_neg (by omega), pl_i (by omega), if_neg (fun z => z q), pl_w (by omega)]
    · have u := fy_ac hL hb x (show i < 10 by omega)
      obtain ⟨-, -, -, sg, -⟩ := fy_g (sT := sT) hL hb (i := 5 + i) (by omega) (by omega)
      show pfX0_find_b69 (pd_SH sT) 5000 (k + 1) F b w i = _
      simp only [pfX0_find_b69, pl_l, pl_b, pl_iT, pl_t, pl_f, pl_ob s0, l2, pl_ib s3, u, pl_ob sg]
      rw [if_neg (by omega), pl_i (by omega), if_pos q, pl_w (by omega)]
    · show pfX0_find_b69 (pd_SH sT) 5000 (k + 1) F b w _ = _
      simp only [pfX0_find_b69, pl_l, pl_b, pl_iT, pl_t, pl_f, pl_ob s0]
      rw [if_pos (by omega)]
  have e2 : pfX0_find_b32 (pd_SH sT) 5000 F b w = if 0 ≤ t then some (12 + t, F) else pfX0_find_b67 (pd_SH sT) 5000 F b w := by
    unfold pfX0_find_b32
    refine pl_fi (f := fun j i => pfX0_find_b34 (pd_SH sT) 5000 j F b w i) (hit := fun i => some (12 + i, F)) (miss := pfX0_find_b67 (pd_SH sT) 5000 F b w) n10.1 (fun k i x y q => ?_) (fun k i x y q => ?_) (fun k => ?_) 5000 (by omega) ht
    · have u := fy_tr hL hb x (show i < 5 by omega)
      obtain ⟨-, -, -, sg, -⟩ := fy_g (sT := sT) hL hb (i := i) (by omega) (by omega)
      show pfX0_find_b34 (pd_SH sT) 5000 (k + 1) F b w i = _
      simp only [pfX0_find_b34, pl_l, pl_b, pl_iT, pl_t, pl_f, pl_ob s0, l1, pl_ib s2, u, pl_ob sg]
      rw [if_neg (by omega), pl_i (by omega), if_neg (fun z => z q), pl_w (by omega)]
    · have u := fy_tr hL hb x (show i < 5 by omega)
      obtain ⟨-, -, -, sg, -⟩ := fy_g (sT := sT) hL hb (i := i) (by omega) (by omega)
      show pfX0_find_b34 (pd_SH sT) 5000 (k + 1) F b w i = _
      simp only [pfX0_find_b34, pl_l, pl_b, pl_iT, pl_t, pl_f, pl_ob s0, l1, pl_ib s2, u, pl_ob sg]
      rw [if_neg (by omega), pl_i (by omega), if_pos q, pl_w (by omega)]
    · show pfX0_find_b34 (pd_SH sT) 5000 (k + 1) F b w _ = _
      simp only [pfX0_find_b34, pl_l, pl_b, pl_iT, pl_t, pl_f, pl_ob s0]
      rw [if_pos (by omega)]
  have e1 : pfX0_find (pd_SH sT) 5000 F b w = if 0 ≤ p then some (p, F) else pfX0_find_b32 (pd_SH sT) 5000 F b w := by
    unfold pfX0_find
    refine pl_fi (f := fun j i => pfX0_find_b2 (pd_SH sT) 5000 j F b w i) (hit := fun i => some (i, F)) (miss := pfX0_find_b32 (pd_SH sT) 5000 F b w) n9.1 (fun k i x y q => ?_) (fun k i x y q => ?_) (fun k => ?_) 5000 (by omega) hp
    · obtain ⟨u, -, sg, -⟩ := fy_p (sT := sT) hL hb x (show i < 12 by omega)
      show pfX0_find_b2 (pd_SH sT) 5000 (k + 1) F b w i = _
      simp only [pfX0_find_b2, pl_l, pl_b, pl_iT, pl_t, pl_f, pl_ob s0, l0, pl_ib s1, u, pl_ob sg]
      rw [if_neg (by omega), pl_i (by omega), if_neg (fun z => z q)]
    · obtain ⟨u, -, sg, -⟩ := fy_p (sT := sT) hL hb x (show i < 12 by omega)
      show pfX0_find_b2 (pd_SH sT) 5000 (k + 1) F b w i = _
      simp only [pfX0_find_b2, pl_l, pl_b, pl_iT, pl_t, pl_f, pl_ob s0, l0, pl_ib s1, u, pl_ob sg]
      rw [if_neg (by omega), pl_i (by omega), if_pos q, pl_w (by omega)]
    · show pfX0_find_b2 (pd_SH sT) 5000 (k + 1) F b w _ = _
      simp only [pfX0_find_b2, pl_l, pl_b, pl_iT, pl_t, pl_f, pl_ob s0]
      rw [if_pos (by omega)]
  rw [e1, e2, e3]
  by_cases x : 0 ≤ p
  · rw [if_pos x, if_pos x]
  rw [if_neg x, if_neg x]
  by_cases y : 0 ≤ t
  · rw [if_pos y, if_pos y]
  rw [if_neg y, if_neg y]
  by_cases z : 0 ≤ a
  · rw [if_pos z, if_pos z]
  · rw [if_neg z, if_neg z]
/-- the names told so far, of the class's book b and the book B -/
def jM (b : Int) (F B : pd_F) : Prop := (F b 9 = B 369 0 ∧ F b 10 = B 370 0 ∧ F b 11 = B 371 0) ∧ ((0 ≤ B 369 0 ∧ B 369 0 ≤ 12) ∧ (0 ≤ B 370 0 ∧ B 370 0 ≤ 5) ∧ 0 ≤ B 371 0 ∧ B 371 0 ≤ 10) ∧
  (∀ p, 0 ≤ p → p < B 369 0 → ∃ f, nm (F (b + 10 + 2 * p) 2) (B 374 p) f) ∧ (∀ t, 0 ≤ t → t < B 370 0 → ∃ f, nm (F (b + 34 + 4 * t) 4) (B 378 t) f) ∧ (∀ a, 0 ≤ a → a < B 371 0 → ∃ f, nm (F (b + 34 + 4 * (5 + a)) 4) (B 379 a) f) ∧
  (∀ a p, 0 ≤ a → a < B 371 0 → 0 ≤ p → p < B 369 0 → B 379 a ≠ B 374 p) ∧ ∀ a t, 0 ≤ a → a < B 371 0 → 0 ≤ t → t < B 370 0 → B 379 a ≠ B 378 t
theorem jM.fr {F' B B' : pd_F} (h : jM b F B) (e1 : F' b 9 = F b 9 ∧ F' b 10 = F b 10 ∧ F' b 11 = F b 11) (e2 : B' 369 0 = B 369 0 ∧ B' 370 0 = B 370 0 ∧ B' 371 0 = B 371 0) (e3 : ∀ p, 0 ≤ p → p < B 369 0 → F' (b + 10 + 2 * p) 2 = F (b + 10 + 2 * p) 2 ∧ B' 374 p = B 374 p)
    (e4 : ∀ p, 0 ≤ p → p < B 370 0 → F' (b + 34 + 4 * p) 4 = F (b + 34 + 4 * p) 4 ∧ B' 378 p = B 378 p) (e5 : ∀ p, 0 ≤ p → p < B 371 0 → F' (b + 34 + 4 * (5 + p)) 4 = F (b + 34 + 4 * (5 + p)) 4 ∧ B' 379 p = B 379 p) : jM b F' B' := by
  obtain ⟨h1, h2, h3, h4, h5, h6, h7⟩ := h
  unfold jM
  rw [e1.1, e1.2.1, e1.2.2, e2.1, e2.2.1, e2.2.2]
  refine ⟨h1, h2, fun p x y => ?_, fun p x y => ?_, fun p x y => ?_, fun a p x y z w => ?_, fun a p x y z w => ?_⟩
  · rw [(e3 p x y).1, (e3 p x y).2]; exact h3 p x y
  · rw [(e4 p x y).1, (e4 p x y).2]; exact h4 p x y
  · rw [(e5 p x y).1, (e5 p x y).2]; exact h5 p x y
  · rw [(e5 a x y).2, (e3 p z w).2]; exact h6 a p x y z w
  · rw [(e5 a x y).2, (e4 p z w).2]; exact h7 a p x y z w
end NF

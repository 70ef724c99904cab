/-! the reference: how far, step by step -/
section Far
variable {np : Int} {A : Int → Int → Prop} {p : Int}
/-- first reached at step d -/
def fL (np : Int) (A : Int → Int → Prop) (p : Int) (d : Nat) (r : Int) : Prop := Rk np A p d r ∧ ∀ e, e < d → ¬ Rk np A p e r
/-- beside one first reached at d, among those looked at so far -/
def fS (np : Int) (A : Int → Int → Prop) (p : Int) (d : Nat) (x o q : Int) : Prop := ∃ r, 0 ≤ r ∧ r < np ∧ (r < x ∨ r = x ∧ q < o) ∧ fL np A p d r ∧ A r q
def fV (np : Int) (A : Int → Int → Prop) (p : Int) (d : Nat) (S : Int → Prop) (g : Int → Int) : Prop := ∀ q, 0 ≤ q → q < np → (∃ e : Nat, e ≤ d ∧ g q = e ∧ fL np A p e q) ∨ (¬ Rk np A p d q ∧ ((S q ∧ g q = (d : Int) + 1) ∨ (¬ S q ∧ g q = -1)))
def fM (np : Int) (A : Int → Int → Prop) (p : Int) (d : Nat) (S : Int → Prop) (x : Int) : Prop := (x = 1 ∧ ∃ q, 0 ≤ q ∧ q < np ∧ S q ∧ ¬ Rk np A p d q) ∨ (x = 0 ∧ ∀ q, 0 ≤ q → q < np → S q → Rk np A p d q)
theorem fL_un {d e : Nat} {q : Int} (h1 : fL np A p d q) (h2 : fL np A p e q) : d = e := by
  rcases Nat.lt_trichotomy d e with h | h | h
  · exact absurd h1.1 (h2.2 d h)
  · exact h
  · exact absurd h2.1 (h1.2 e h)
theorem fV_c {d : Nat} {S S' : Int → Prop} {g : Int → Int} (h : ∀ q, 0 ≤ q → q < np → (S q ↔ S' q)) (hv : fV np A p d S g) : fV np A p d S' g := fun q a b => by
  rcases hv q a b with c | ⟨c, d⟩
  · exact Or.inl c
  · refine Or.inr ⟨c, ?_⟩
    rw [← h q a b]; exact d
theorem fM_c {d : Nat} {S S' : Int → Prop} {x : Int} (h : ∀ q, 0 ≤ q → q < np → (S q ↔ S' q)) (hv : fM np A p d S x) : fM np A p d S' x := by
  rcases hv with ⟨e, q, a, b, c, f⟩ | ⟨e, c⟩
  · exact Or.inl ⟨e, q, a, b, (h q a b).mp c, f⟩
  · exact Or.inr ⟨e, fun q a b s => c q a b ((h q a b).mpr s)⟩
theorem fV_d {d : Nat} {S : Int → Prop} {g : Int → Int} (hv : fV np A p d S g) {q : Int} (h0 : 0 ≤ q) (h1 : q < np) : g q = d ↔ fL np A p d q := by
  constructor
  · intro e
    rcases hv q h0 h1 with ⟨e', a, b, c⟩ | ⟨a, ⟨b, c⟩ | ⟨b, c⟩⟩
    · have : e' = d := by omega
      rw [← this]; exact c
    · omega
    · omega
  · intro l
    rcases hv q h0 h1 with ⟨e', a, b, c⟩ | ⟨a, -⟩
    · rw [b, fL_un c l]
    · exact absurd l.1 a
theorem fS_s {d : Nat} {x o q : Int} (hx : 0 ≤ x ∧ x < np) : fS np A p d x (o + 1) q ↔ (fS np A p d x o q ∨ (q = o ∧ fL np A p d x ∧ A x q)) := by
  constructor
  · rintro ⟨r, a, b, c, e, f⟩
    by_cases g : r = x ∧ q = o
    · exact Or.inr ⟨g.2, g.1 ▸ e, g.1 ▸ f⟩
    · exact Or.inl ⟨r, a, b, by omega, e, f⟩
  · rintro (⟨r, a, b, c, e, f⟩ | ⟨a, b, c⟩)
    · exact ⟨r, a, b, by omega, e, f⟩
    · exact ⟨x, hx.1, hx.2, Or.inr ⟨rfl, by omega⟩, b, c⟩
theorem fS_n {d : Nat} {x q : Int} (hq : q < np) (hq0 : 0 ≤ q) : fS np A p d x np q ↔ fS np A p d (x + 1) 0 q := by
  constructor
  · rintro ⟨r, a, b, c, e, f⟩; exact ⟨r, a, b, by omega, e, f⟩
  · rintro ⟨r, a, b, c, e, f⟩; exact ⟨r, a, b, by omega, e, f⟩
theorem fS_no {d : Nat} {x o q : Int} (hx : ¬ fL np A p d x) (hq0 : 0 ≤ q) : fS np A p d x o q ↔ fS np A p d (x + 1) 0 q := by
  constructor
  · rintro ⟨r, a, b, c, e, f⟩
    rcases c with c | c
    · exact ⟨r, a, b, by omega, e, f⟩
    · exact absurd (c.1 ▸ e) hx
  · rintro ⟨r, a, b, c, e, f⟩
    by_cases g : r = x
    · exact absurd (g ▸ e) hx
    · exact ⟨r, a, b, by omega, e, f⟩
/-- the round's end -/
theorem fV_end {d : Nat} {g : Int → Int} (hv : fV np A p d (fS np A p d np 0) g) : fV np A p (d + 1) (fS np A p (d + 1) 0 0) g := by
  have no : ∀ q, 0 ≤ q → ¬ fS np A p (d + 1) 0 0 q := by
    rintro q hq ⟨r, a, b, c, -, -⟩
    omega
  intro q a b
  rcases hv q a b with ⟨e, c, f, h⟩ | ⟨c, ⟨f, h⟩ | ⟨f, h⟩⟩
  · exact Or.inl ⟨e, by omega, f, h⟩
  · obtain ⟨r, r0, r1, -, r2, r3⟩ := f
    refine Or.inl ⟨d + 1, Nat.le_refl _, by omega, Or.inr ⟨a, b, r, r0, r1, r2.1, r3⟩, fun e he h => c (Rk_mono (by omega) h)⟩
  · refine Or.inr ⟨fun h => ?_, Or.inr ⟨no q a, h⟩⟩
    rcases h with h | ⟨-, -, r, r0, r1, r2, r3⟩
    · exact c h
    · refine f ⟨r, r0, r1, Or.inl r1, ⟨r2, fun e he h => c ?_⟩, r3⟩
      exact Rk_mono (show e + 1 ≤ d by omega) (Or.inr ⟨a, b, r, r0, r1, h, r3⟩)
theorem fM_1 {d : Nat} (h : fM np A p d (fS np A p d np 0) 1) : ∃ q, Rk np A p (d + 1) q ∧ ¬ Rk np A p d q := by
  rcases h with ⟨-, q, a, b, ⟨r, r0, r1, -, r2, r3⟩, c⟩ | ⟨e, -⟩
  · exact ⟨q, Or.inr ⟨a, b, r, r0, r1, r2.1, r3⟩, c⟩
  · omega
theorem fM_0 {d : Nat} (h : fM np A p d (fS np A p d np 0) 0) : ∀ q, Rk np A p (d + 1) q → Rk np A p d q := by
  rcases h with ⟨e, -⟩ | ⟨-, h⟩
  · omega
  · intro q hq
    rcases hq with hq | ⟨a, b, r, r0, r1, r2, r3⟩
    · exact hq
    · refine Classical.byContradiction fun c => c (h q a b ⟨r, r0, r1, Or.inl r1, ⟨r2, fun e he h2 => c ?_⟩, r3⟩)
      exact Rk_mono (show e + 1 ≤ d by omega) (Or.inr ⟨a, b, r, r0, r1, h2, r3⟩)
end Far
/-- far as laid: how many steps, or none -/
def fE (np : Int) (A : Int → Int → Prop) (p : Int) (g : Int → Int) : Prop := ∀ q, 0 ≤ q → q < np → (∃ e : Nat, g q = e ∧ fL np A p e q) ∨ (¬ Cn np A p q ∧ g q = -1)
theorem r_laysFar {F : pd_F} (hL : pd_Ly F) {np p : Int} (hn : F 369 0 = np ∧ np ≤ 12) (hk : pOk np (F 375) (F 376) (F 393)) (hp : 0 ≤ p ∧ p < np) :
    ∃ F', pfX12_laysFar pd_SH 5000 F 367 p = some F' ∧ pd_Ly F' ∧ (∀ b, b ≠ 399 → F' b = F b) ∧ fE np (Bs (F 375) (F 376) (F 393)) p (F' 399) := by
  generalize hA : Bs (F 375) (F 376) (F 393) = A
  -- the inner loop
  have l55 : ∀ (c32 : pd_F → Int → Int → Int → Option pd_F) (c41 : pd_F → Int → Int → Int → Int → Option pd_F) (G : pd_F) (d : Nat) (x2 x : Int), d ≤ 100 → 0 ≤ x → x < np → pd_Ly G → (∀ b, b ≠ 399 → G b = F b) → fV np A p d (fS np A p d x 0) (G 399) → fM np A p d (fS np A p d x 0) x2 →
      ∃ G' x2', (pd_Ly G' ∧ (∀ b, b ≠ 399 → G' b = F b) ∧ fV np A p d (fS np A p d (x + 1) 0) (G' 399) ∧ fM np A p d (fS np A p d (x + 1) 0) x2') ∧ pfX12_laysFar_b55 pd_SH 5000 c32 c41 5000 G 367 x2 d x 0 = c41 G' 367 x2' d (x + 1) := by
    intro c32 c41 G d x2 x hd hx hx2 g1 g2 g3 g4
    refine pl_for (f := fun j (q : pd_F × Int) i => pfX12_laysFar_b55 pd_SH 5000 c32 c41 j q.1 367 q.2 d x i) (P := fun i q => pd_Ly q.1 ∧ (∀ b, b ≠ 399 → q.1 b = F b) ∧ fV np A p d (fS np A p d x i) (q.1 399) ∧ fM np A p d (fS np A p d x i) q.2) (N := np)
      (res := fun o => ∃ G' x2', (pd_Ly G' ∧ (∀ b, b ≠ 399 → G' b = F b) ∧ fV np A p d (fS np A p d (x + 1) 0) (G' 399) ∧ fM np A p d (fS np A p d (x + 1) 0) x2') ∧ o = c41 G' 367 x2' d (x + 1)) ?_ ?_ 5000 (G, x2) 0 (by omega) (by omega) (by omega) ⟨g1, g2, g3, g4⟩
    · intro j ⟨G, x2⟩ i a b ⟨q1, q2, q3, q4⟩
      simp only at q1 q2 q3 q4
      have e0 : G 369 0 = np := by rw [q2 369 (by decide)]; exact hn.1
      by_cases c : G 399 x = d
      · have hl := (fV_d q3 hx hx2).mp c
        left
        by_cases c2 : 0 ≤ G 399 i
        · refine ⟨(G, x2), ⟨q1, q2, ?_, ?_⟩, ?_⟩
          · intro q a' b'
            rcases q3 q a' b' with h | ⟨h, ⟨h2, h3⟩ | ⟨h2, h3⟩⟩
            · exact Or.inl h
            · exact Or.inr ⟨h, Or.inl ⟨(fS_s ⟨hx, hx2⟩).mpr (Or.inl h2), h3⟩⟩
            · refine Or.inr ⟨h, Or.inr ⟨fun h4 => ?_, h3⟩⟩
              rcases (fS_s ⟨hx, hx2⟩).mp h4 with h5 | h5
              · exact h2 h5
              · rw [← h5.1] at c2; omega
          · rcases q4 with ⟨h, q, h1, h2, h3, h4⟩ | ⟨h, h2⟩
            · exact Or.inl ⟨h, q, h1, h2, (fS_s ⟨hx, hx2⟩).mpr (Or.inl h3), h4⟩
            · refine Or.inr ⟨h, fun q a' b' h3 => ?_⟩
              rcases (fS_s ⟨hx, hx2⟩).mp h3 with h5 | h5
              · exact h2 q a' b' h5
              · rcases q3 q a' b' with ⟨e, k1, k2, k3⟩ | ⟨k1, ⟨k2, k3⟩ | ⟨k2, k3⟩⟩
                · exact Rk_mono k1 k3.1
                · exact h2 q a' b' k2
                · rw [← h5.1] at c2; omega
          · show pfX12_laysFar_b55 pd_SH 5000 c32 c41 (j + 1) G 367 x2 d x i = _
            simp (disch := omega) only [pfX12_laysFar_b55, pfX12_laysFar_b113, pl_l, pl_b, pl_iT, pl_t, pl_f, lm_1 q1, lm_14 q1, lm_15 q1, lm_16 q1, lm_17 q1, lm_18 q1, lm_19 q1, lm_20 q1, lm_21 q1, lm_22 q1, lm_23 q1, lm_24 q1, lm_25 q1, lm_26 q1, lm_27 q1, lm_28 q1, lm_29 q1, lm_30 q1, lm_31 q1, lm_32 q1, lm_33 q1, lm_34 q1, lm_35 q1, lm_36 q1, lm_37 q1, lm_39 q1, lm_40 q1, lm_42 q1, lm_43 q1, lm_44 q1, lm_45 q1, lm_47 q1, lm_48 q1, lm_49 q1, lm_50 q1, lm_51 q1, gx_367, gx_368, gx_369, gx_370, gx_371, gx_372, gx_373, gx_374, gx_375, gx_376, gx_377, gx_378, gx_379, gx_380, gx_381, gx_382, gx_383, gx_384, gx_385, gx_386, gx_387, gx_388, gx_389, gx_390, gx_391, gx_392, gx_393, gx_394, gx_395, gx_396, gx_397, gx_398, gx_399, gx_400, gx_401, gx_402, gx_403, gn_368, gn_369, gn_370, gn_371, gn_372, gn_373, gn_374, gn_375, gn_376, gn_377, gn_378, gn_379, gn_380, gn_381, gn_382, gn_383, gn_384, gn_385, gn_386, gn_387, gn_388, gn_389, gn_390, gn_391, gn_392, gn_393, gn_394, gn_395, gn_396, gn_397, gn_398, gn_399, gn_400, gn_401, gn_402, gn_403, e0, pl_w, pl_i, if_pos, if_neg]
        · have hk' : pOk np (G 375) (G 376) (G 393) := by rw [q2 375 (by decide), q2 376 (by decide), q2 393 (by decide)]; exact hk
          have hb := r_areBeside q1 hn.2 hk' (p := x) (o := i) ⟨hx, hx2⟩ ⟨a, b⟩
          rw [q2 375 (by decide), q2 376 (by decide), q2 393 (by decide), hA] at hb
          rcases ci_o (A x i) (1 : Int) 0 with ⟨h, h'⟩ | ⟨h, h'⟩
          · refine ⟨(pd_up G 399 i ((d : Int) + 1), 1), ⟨q1.up (pl_rc0 sx_399 (by decide)), fun b hb => by show pd_up _ _ _ _ b = _; rw [pu_a hb]; exact q2 b hb, ?_, ?_⟩, ?_⟩
            · intro q a' b'
              show (∃ e : Nat, e ≤ d ∧ pd_up G 399 i ((d : Int) + 1) 399 q = _ ∧ _) ∨ (_ ∧ ((_ ∧ pd_up G 399 i ((d : Int) + 1) 399 q = _) ∨ (_ ∧ pd_up G 399 i ((d : Int) + 1) 399 q = _)))
              rw [pu_r]
              by_cases k : q = i
              · rw [if_pos k]
                rcases q3 q a' b' with ⟨e, k1, k2, k3⟩ | ⟨k1, -⟩
                · rw [k] at k2; omega
                · exact Or.inr ⟨k1, Or.inl ⟨(fS_s ⟨hx, hx2⟩).mpr (Or.inr ⟨k, hl, by rw [k]; exact h⟩), rfl⟩⟩
              · rw [if_neg k]
                rcases q3 q a' b' with h5 | ⟨h5, ⟨h2, h3⟩ | ⟨h2, h3⟩⟩
                · exact Or.inl h5
                · exact Or.inr ⟨h5, Or.inl ⟨(fS_s ⟨hx, hx2⟩).mpr (Or.inl h2), h3⟩⟩
                · refine Or.inr ⟨h5, Or.inr ⟨fun h4 => ?_, h3⟩⟩
                  rcases (fS_s ⟨hx, hx2⟩).mp h4 with h6 | h6
                  · exact h2 h6
                  · exact k h6.1
            · refine Or.inl ⟨rfl, i, a, b, (fS_s ⟨hx, hx2⟩).mpr (Or.inr ⟨rfl, hl, h⟩), ?_⟩
              rcases q3 i a b with ⟨e, k1, k2, k3⟩ | ⟨k1, -⟩
              · omega
              · exact k1
            · show pfX12_laysFar_b55 pd_SH 5000 c32 c41 (j + 1) G 367 x2 d x i = _
              rw [h'] at hb
              simp (disch := omega) only [pfX12_laysFar_b55, pfX12_laysFar_b113, pl_l, pl_b, pl_iT, pl_t, pl_f, lm_1 q1, lm_14 q1, lm_15 q1, lm_16 q1, lm_17 q1, lm_18 q1, lm_19 q1, lm_20 q1, lm_21 q1, lm_22 q1, lm_23 q1, lm_24 q1, lm_25 q1, lm_26 q1, lm_27 q1, lm_28 q1, lm_29 q1, lm_30 q1, lm_31 q1, lm_32 q1, lm_33 q1, lm_34 q1, lm_35 q1, lm_36 q1, lm_37 q1, lm_39 q1, lm_40 q1, lm_42 q1, lm_43 q1, lm_44 q1, lm_45 q1, lm_47 q1, lm_48 q1, lm_49 q1, lm_50 q1, lm_51 q1, gx_367, gx_368, gx_369, gx_370, gx_371, gx_372, gx_373, gx_374, gx_375, gx_376, gx_377, gx_378, gx_379, gx_380, gx_381, gx_382, gx_383, gx_384, gx_385, gx_386, gx_387, gx_388, gx_389, gx_390, gx_391, gx_392, gx_393, gx_394, gx_395, gx_396, gx_397, gx_398, gx_399, gx_400, gx_401, gx_402, gx_403, gn_368, gn_369, gn_370, gn_371, gn_372, gn_373, gn_374, gn_375, gn_376, gn_377, gn_378, gn_379, gn_380, gn_381, gn_382, gn_383, gn_384, gn_385, gn_386, gn_387, gn_388, gn_389, gn_390, gn_391, gn_392, gn_393, gn_394, gn_395, gn_396, gn_397, gn_398, gn_399, gn_400, gn_401, gn_402, gn_403, e0, hb, pl_w, pl_i, if_pos, if_neg]
          · refine ⟨(G, x2), ⟨q1, q2, fV_c (fun q a' b' => ?_) q3, fM_c (fun q a' b' => ?_) q4⟩, ?_⟩
            · rw [fS_s ⟨hx, hx2⟩]
              exact ⟨Or.inl, fun k => k.elim id (fun k => absurd (k.1 ▸ k.2.2) h)⟩
            · rw [fS_s ⟨hx, hx2⟩]
              exact ⟨Or.inl, fun k => k.elim id (fun k => absurd (k.1 ▸ k.2.2) h)⟩
            · show pfX12_laysFar_b55 pd_SH 5000 c32 c41 (j + 1) G 367 x2 d x i = _
              rw [h'] at hb
              simp (disch := omega) only [pfX12_laysFar_b55, pfX12_laysFar_b113, pl_l, pl_b, pl_iT, pl_t, pl_f, lm_1 q1, lm_14 q1, lm_15 q1, lm_16 q1, lm_17 q1, lm_18 q1, lm_19 q1, lm_20 q1, lm_21 q1, lm_22 q1, lm_23 q1, lm_24 q1, lm_25 q1, lm_26 q1, lm_27 q1, lm_28 q1, lm_29 q1, lm_30 q1, lm_31 q1, lm_32 q1, lm_33 q1, lm_34 q1, lm_35 q1, lm_36 q1, lm_37 q1, lm_39 q1, lm_40 q1, lm_42 q1, lm_43 q1, lm_44 q1, lm_45 q1, lm_47 q1, lm_48 q1, lm_49 q1, lm_50 q1, lm_51 q1, gx_367, gx_368, gx_369, gx_370, gx_371, gx_372, gx_373, gx_374, gx_375, gx_376, gx_377, gx_378, gx_379, gx_380, gx_381, gx_382, gx_383, gx_384, gx_385, gx_386, gx_387, gx_388, gx_389, gx_390, gx_391, gx_392, gx_393, gx_394, gx_395, gx_396, gx_397, gx_398, gx_399, gx_400, gx_401, gx_402, gx_403, gn_368, gn_369, gn_370, gn_371, gn_372, gn_373, gn_374, gn_375, gn_376, gn_377, gn_378, gn_379, gn_380, gn_381, gn_382, gn_383, gn_384, gn_385, gn_386, gn_387, gn_388, gn_389, gn_390, gn_391, gn_392, gn_393, gn_394, gn_395, gn_396, gn_397, gn_398, gn_399, gn_400, gn_401, gn_402, gn_403, e0, hb, pl_w, pl_i, if_pos, if_neg]
      · right
        have hl : ¬ fL np A p d x := fun h => c ((fV_d q3 hx hx2).mpr h)
        refine ⟨G, x2, ⟨q1, q2, fV_c (fun q a' _ => fS_no hl a') q3, fM_c (fun q a' _ => fS_no hl a') q4⟩, ?_⟩
        show pfX12_laysFar_b55 pd_SH 5000 c32 c41 (j + 1) G 367 x2 d x i = _
        simp (disch := omega) only [pfX12_laysFar_b55, pfX12_laysFar_b119, pl_l, pl_b, pl_iT, pl_t, pl_f, lm_1 q1, lm_14 q1, lm_15 q1, lm_16 q1, lm_17 q1, lm_18 q1, lm_19 q1, lm_20 q1, lm_21 q1, lm_22 q1, lm_23 q1, lm_24 q1, lm_25 q1, lm_26 q1, lm_27 q1, lm_28 q1, lm_29 q1, lm_30 q1, lm_31 q1, lm_32 q1, lm_33 q1, lm_34 q1, lm_35 q1, lm_36 q1, lm_37 q1, lm_39 q1, lm_40 q1, lm_42 q1, lm_43 q1, lm_44 q1, lm_45 q1, lm_47 q1, lm_48 q1, lm_49 q1, lm_50 q1, lm_51 q1, gx_367, gx_368, gx_369, gx_370, gx_371, gx_372, gx_373, gx_374, gx_375, gx_376, gx_377, gx_378, gx_379, gx_380, gx_381, gx_382, gx_383, gx_384, gx_385, gx_386, gx_387, gx_388, gx_389, gx_390, gx_391, gx_392, gx_393, gx_394, gx_395, gx_396, gx_397, gx_398, gx_399, gx_400, gx_401, gx_402, gx_403, gn_368, gn_369, gn_370, gn_371, gn_372, gn_373, gn_374, gn_375, gn_376, gn_377, gn_378, gn_379, gn_380, gn_381, gn_382, gn_383, gn_384, gn_385, gn_386, gn_387, gn_388, gn_389, gn_390, gn_391, gn_392, gn_393, gn_394, gn_395, gn_396, gn_397, gn_398, gn_399, gn_400, gn_401, gn_402, gn_403, e0, pl_w, pl_i, if_pos, if_neg]
    · intro j ⟨G, x2⟩ ⟨q1, q2, q3, q4⟩
      simp only at q1 q2 q3 q4
      have e0 : G 369 0 = np := by rw [q2 369 (by decide)]; exact hn.1
      refine ⟨G, x2, ⟨q1, q2, fV_c (fun q a' b' => fS_n b' a') q3, fM_c (fun q a' b' => fS_n b' a') q4⟩, ?_⟩
      show pfX12_laysFar_b55 pd_SH 5000 c32 c41 (j + 1) G 367 x2 d x np = _
      simp (disch := omega) only [pfX12_laysFar_b55, pfX12_laysFar_b119, pl_l, pl_b, pl_iT, pl_t, pl_f, lm_1 q1, lm_14 q1, lm_15 q1, lm_16 q1, lm_17 q1, lm_18 q1, lm_19 q1, lm_20 q1, lm_21 q1, lm_22 q1, lm_23 q1, lm_24 q1, lm_25 q1, lm_26 q1, lm_27 q1, lm_28 q1, lm_29 q1, lm_30 q1, lm_31 q1, lm_32 q1, lm_33 q1, lm_34 q1, lm_35 q1, lm_36 q1, lm_37 q1, lm_39 q1, lm_40 q1, lm_42 q1, lm_43 q1, lm_44 q1, lm_45 q1, lm_47 q1, lm_48 q1, lm_49 q1, lm_50 q1, lm_51 q1, gx_367, gx_368, gx_369, gx_370, gx_371, gx_372, gx_373, gx_374, gx_375, gx_376, gx_377, gx_378, gx_379, gx_380, gx_381, gx_382, gx_383, gx_384, gx_385, gx_386, gx_387, gx_388, gx_389, gx_390, gx_391, gx_392, gx_393, gx_394, gx_395, gx_396, gx_397, gx_398, gx_399, gx_400, gx_401, gx_402, gx_403, gn_368, gn_369, gn_370, gn_371, gn_372, gn_373, gn_374, gn_375, gn_376, gn_377, gn_378, gn_379, gn_380, gn_381, gn_382, gn_383, gn_384, gn_385, gn_386, gn_387, gn_388, gn_389, gn_390, gn_391, gn_392, gn_393, gn_394, gn_395, gn_396, gn_397, gn_398, gn_399, gn_400, gn_401, gn_402, gn_403, e0, pl_w, pl_i, if_pos, if_neg]
  -- the middle loop
  have l41 : ∀ (c32 : pd_F → Int → Int → Int → Option pd_F) (G : pd_F) (d : Nat), d ≤ 100 → pd_Ly G → (∀ b, b ≠ 399 → G b = F b) → fV np A p d (fS np A p d 0 0) (G 399) →
      ∃ G' x2', (pd_Ly G' ∧ (∀ b, b ≠ 399 → G' b = F b) ∧ fV np A p (d + 1) (fS np A p (d + 1) 0 0) (G' 399) ∧ fM np A p d (fS np A p d np 0) x2') ∧ pfX12_laysFar_b41 pd_SH 5000 c32 5000 G 367 0 d 0 = c32 G' 367 x2' ((d : Int) + 1) := by
    intro c32 G d hd g1 g2 g3
    have no : ∀ q, 0 ≤ q → ¬ fS np A p d 0 0 q := by
      rintro q hq ⟨r, a, b, c, -, -⟩
      omega
    refine pl_for (f := fun j (q : pd_F × Int) i => pfX12_laysFar_b41 pd_SH 5000 c32 j q.1 367 q.2 d i) (P := fun i q => pd_Ly q.1 ∧ (∀ b, b ≠ 399 → q.1 b = F b) ∧ fV np A p d (fS np A p d i 0) (q.1 399) ∧ fM np A p d (fS np A p d i 0) q.2) (N := np)
      (res := fun o => ∃ G' x2', (pd_Ly G' ∧ (∀ b, b ≠ 399 → G' b = F b) ∧ fV np A p (d + 1) (fS np A p (d + 1) 0 0) (G' 399) ∧ fM np A p d (fS np A p d np 0) x2') ∧ o = c32 G' 367 x2' ((d : Int) + 1)) ?_ ?_ 5000 (G, 0) 0 (by omega) (by omega) (by omega)
      ⟨g1, g2, g3, Or.inr ⟨rfl, fun q a b s => absurd s (no q a)⟩⟩
    · intro j ⟨G, x2⟩ i a b ⟨q1, q2, q3, q4⟩
      simp only at q1 q2 q3 q4
      have e0 : G 369 0 = np := by rw [q2 369 (by decide)]; exact hn.1
      obtain ⟨G', x2', h1, h2⟩ := l55 c32 (pfX12_laysFar_b41 pd_SH 5000 c32 j) G d x2 i hd a b q1 q2 q3 q4
      refine Or.inl ⟨(G', x2'), h1, ?_⟩
      show pfX12_laysFar_b41 pd_SH 5000 c32 (j + 1) G 367 x2 d i = _
      simp (disch := omega) only [pfX12_laysFar_b41, pl_l, pl_b, pl_iT, pl_t, pl_f, lm_1 q1, lm_14 q1, lm_15 q1, lm_16 q1, lm_17 q1, lm_18 q1, lm_19 q1, lm_20 q1, lm_21 q1, lm_22 q1, lm_23 q1, lm_24 q1, lm_25 q1, lm_26 q1, lm_27 q1, lm_28 q1, lm_29 q1, lm_30 q1, lm_31 q1, lm_32 q1, lm_33 q1, lm_34 q1, lm_35 q1, lm_36 q1, lm_37 q1, lm_39 q1, lm_40 q1, lm_42 q1, lm_43 q1, lm_44 q1, lm_45 q1, lm_47 q1, lm_48 q1, lm_49 q1, lm_50 q1, lm_51 q1, gx_367, gx_368, gx_369, gx_370, gx_371, gx_372, gx_373, gx_374, gx_375, gx_376, gx_377, gx_378, gx_379, gx_380, gx_381, gx_382, gx_383, gx_384, gx_385, gx_386, gx_387, gx_388, gx_389, gx_390, gx_391, gx_392, gx_393, gx_394, gx_395, gx_396, gx_397, gx_398, gx_399, gx_400, gx_401, gx_402, gx_403, gn_368, gn_369, gn_370, gn_371, gn_372, gn_373, gn_374, gn_375, gn_376, gn_377, gn_378, gn_379, gn_380, gn_381, gn_382, gn_383, gn_384, gn_385, gn_386, gn_387, gn_388, gn_389, gn_390, gn_391, gn_392, gn_393, gn_394, gn_395, gn_396, gn_397, gn_398, gn_399, gn_400, gn_401, gn_402, gn_403, e0, pl_w, pl_i, if_pos, if_neg, h2]
    · intro j ⟨G, x2⟩ ⟨q1, q2, q3, q4⟩
      simp only at q1 q2 q3 q4
      have e0 : G 369 0 = np := by rw [q2 369 (by decide)]; exact hn.1
      refine ⟨G, x2, ⟨q1, q2, fV_end q3, q4⟩, ?_⟩
      show pfX12_laysFar_b41 pd_SH 5000 c32 (j + 1) G 367 x2 d np = _
      simp (disch := omega) only [pfX12_laysFar_b41, pfX12_laysFar_b125, pl_l, pl_b, pl_iT, pl_t, pl_f, lm_1 q1, lm_14 q1, lm_15 q1, lm_16 q1, lm_17 q1, lm_18 q1, lm_19 q1, lm_20 q1, lm_21 q1, lm_22 q1, lm_23 q1, lm_24 q1, lm_25 q1, lm_26 q1, lm_27 q1, lm_28 q1, lm_29 q1, lm_30 q1, lm_31 q1, lm_32 q1, lm_33 q1, lm_34 q1, lm_35 q1, lm_36 q1, lm_37 q1, lm_39 q1, lm_40 q1, lm_42 q1, lm_43 q1, lm_44 q1, lm_45 q1, lm_47 q1, lm_48 q1, lm_49 q1, lm_50 q1, lm_51 q1, gx_367, gx_368, gx_369, gx_370, gx_371, gx_372, gx_373, gx_374, gx_375, gx_376, gx_377, gx_378, gx_379, gx_380, gx_381, gx_382, gx_383, gx_384, gx_385, gx_386, gx_387, gx_388, gx_389, gx_390, gx_391, gx_392, gx_393, gx_394, gx_395, gx_396, gx_397, gx_398, gx_399, gx_400, gx_401, gx_402, gx_403, gn_368, gn_369, gn_370, gn_371, gn_372, gn_373, gn_374, gn_375, gn_376, gn_377, gn_378, gn_379, gn_380, gn_381, gn_382, gn_383, gn_384, gn_385, gn_386, gn_387, gn_388, gn_389, gn_390, gn_391, gn_392, gn_393, gn_394, gn_395, gn_396, gn_397, gn_398, gn_399, gn_400, gn_401, gn_402, gn_403, e0, pl_w, pl_i, if_pos, if_neg]
  -- the outer loop
  have l32 : ∀ (G : pd_F), pd_Ly G → (∀ b, b ≠ 399 → G b = F b) → fV np A p 0 (fS np A p 0 0 0) (G 399) → ∃ F', pfX12_laysFar_b32 pd_SH 5000 5000 G 367 1 0 = some F' ∧ pd_Ly F' ∧ (∀ b, b ≠ 399 → F' b = F b) ∧ fE np A p (F' 399) := by
    intro G g1 g2 g3
    refine pl_whl (f := fun j (q : pd_F × Int × Int) => pfX12_laysFar_b32 pd_SH 5000 j q.1 367 q.2.1 q.2.2)
      (P := fun m q => ∃ d : Nat, q.2.2 = d ∧ m + d = 20 ∧ pd_Ly q.1 ∧ (∀ b, b ≠ 399 → q.1 b = F b) ∧ fV np A p d (fS np A p d 0 0) (q.1 399) ∧ ((q.2.1 = 1 ∧ d ≤ 11) ∨ (q.2.1 = 0 ∧ ∃ e, d = e + 1 ∧ ∀ q, Rk np A p (e + 1) q → Rk np A p e q)))
      (res := fun o => ∃ F', o = some F' ∧ pd_Ly F' ∧ (∀ b, b ≠ 399 → F' b = F b) ∧ fE np A p (F' 399)) ?_ 5000 20 (G, 1, 0) (by omega) ⟨0, rfl, rfl, g1, g2, g3, Or.inl ⟨rfl, by omega⟩⟩
    intro j m ⟨G, x2, x3⟩ ⟨d, e0, em, q1, q2, q3, q4⟩
    simp only at e0 q1 q2 q3 q4
    subst e0
    rcases q4 with ⟨e1, hd⟩ | ⟨e1, e, rfl, hs⟩
    · subst e1
      left
      obtain ⟨G', x2', ⟨h1, h2, h3, h4⟩, h5⟩ := l41 (pfX12_laysFar_b32 pd_SH 5000 j) G d (by omega) q1 q2 q3
      refine ⟨m - 1, (G', x2', ((d + 1 : Nat) : Int)), by omega, ⟨d + 1, rfl, by omega, h1, h2, h3, ?_⟩, ?_⟩
      · have h4' := h4
        rcases h4 with ⟨k, -⟩ | ⟨k, -⟩
        · left
          refine ⟨k, ?_⟩
          subst k
          obtain ⟨q, k1, k2⟩ := fM_1 h4'
          have := Rk_new hn.2 hp k1 k2
          omega
        · right
          refine ⟨k, d, rfl, ?_⟩
          subst k
          exact fM_0 h4'
      · show pfX12_laysFar_b32 pd_SH 5000 (j + 1) G 367 1 d = pfX12_laysFar_b32 pd_SH 5000 j G' 367 x2' ((d + 1 : Nat) : Int)
        rw [show ((d + 1 : Nat) : Int) = (d : Int) + 1 by omega]
        simp (disch := omega) only [pfX12_laysFar_b32, pl_l, pl_b, pl_iT, pl_t, pl_f, if_pos, if_neg, h5]
    · subst e1
      right
      refine ⟨G, ?_, q1, q2, ?_⟩
      · show pfX12_laysFar_b32 pd_SH 5000 (j + 1) G 367 0 _ = _
        simp (disch := omega) only [pfX12_laysFar_b32, pl_l, pl_b, pl_iT, pl_t, pl_f, if_pos, if_neg]
      · have hc : ∀ q, Cn np A p q → Rk np A p (e + 1) q := fun q h => by
          rcases Nat.lt_or_ge 11 (e + 1) with k | k
          · exact Rk_mono (by omega) h
          · obtain ⟨z, hz⟩ := Nat.exists_eq_add_of_le (show e ≤ 11 by omega)
            have h' : Rk np A p (e + z) q := hz ▸ h
            exact Or.inl (Rk_stop hs z q h')
        intro q a b
        rcases q3 q a b with ⟨e', k1, k2, k3⟩ | ⟨k1, ⟨⟨r, r0, r1, r2, -⟩, -⟩ | ⟨k2, k3⟩⟩
        · exact Or.inl ⟨e', k2, k3⟩
        · omega
        · exact Or.inr ⟨fun h => k1 (hc q h), k3⟩
  -- its start
  unfold pfX12_laysFar
  refine pl_for (f := fun j (q : pd_F) i => pfX12_laysFar_b2 pd_SH 5000 j q 367 p i) (P := fun i q => pd_Ly q ∧ (∀ b, b ≠ 399 → q b = F b) ∧ ∀ r, 0 ≤ r → r < i → q 399 r = -1) (N := 12) (res := fun o => ∃ F', o = some F' ∧ pd_Ly F' ∧ (∀ b, b ≠ 399 → F' b = F b) ∧ fE np A p (F' 399)) ?_ ?_ 5000 F 0 (by omega) (by omega) (by omega) ⟨hL, fun _ _ => rfl, fun p a b => by omega⟩
  · intro j G i a b ⟨q1, q2, q3⟩
    refine Or.inl ⟨pd_up G 399 i (-1), ⟨q1.up (pl_rc0 sx_399 (by decide)), fun b hb => by rw [pu_a hb]; exact q2 b hb, fun r c d => ?_⟩, ?_⟩
    · rw [pu_r]
      split
      · rfl
      · exact q3 r c (by omega)
    · show pfX12_laysFar_b2 pd_SH 5000 (j + 1) G 367 p i = _
      simp (disch := omega) only [pfX12_laysFar_b2, pl_l, pl_b, pl_iT, pl_t, pl_f, lm_1 q1, lm_14 q1, lm_15 q1, lm_16 q1, lm_17 q1, lm_18 q1, lm_19 q1, lm_20 q1, lm_21 q1, lm_22 q1, lm_23 q1, lm_24 q1, lm_25 q1, lm_26 q1, lm_27 q1, lm_28 q1, lm_29 q1, lm_30 q1, lm_31 q1, lm_32 q1, lm_33 q1, lm_34 q1, lm_35 q1, lm_36 q1, lm_37 q1, lm_39 q1, lm_40 q1, lm_42 q1, lm_43 q1, lm_44 q1, lm_45 q1, lm_47 q1, lm_48 q1, lm_49 q1, lm_50 q1, lm_51 q1, gx_367, gx_368, gx_369, gx_370, gx_371, gx_372, gx_373, gx_374, gx_375, gx_376, gx_377, gx_378, gx_379, gx_380, gx_381, gx_382, gx_383, gx_384, gx_385, gx_386, gx_387, gx_388, gx_389, gx_390, gx_391, gx_392, gx_393, gx_394, gx_395, gx_396, gx_397, gx_398, gx_399, gx_400, gx_401, gx_402, gx_403, gn_368, gn_369, gn_370, gn_371, gn_372, gn_373, gn_374, gn_375, gn_376, gn_377, gn_378, gn_379, gn_380, gn_381, gn_382, gn_383, gn_384, gn_385, gn_386, gn_387, gn_388, gn_389, gn_390, gn_391, gn_392, gn_393, gn_394, gn_395, gn_396, gn_397, gn_398, gn_399, gn_400, gn_401, gn_402, gn_403, pl_w, pl_i, if_pos, if_neg]
  · intro j G ⟨q1, q2, q3⟩
    obtain ⟨F', h1, h2⟩ := l32 (pd_up G 399 p 0) (q1.up (pl_rc0 sx_399 (by decide))) (fun b hb => by rw [pu_a hb]; exact q2 b hb) (fun q a b => by
      rw [pu_r]
      by_cases k : q = p
      · rw [if_pos k]
        exact Or.inl ⟨0, Nat.le_refl _, rfl, k, fun e he => absurd he (Nat.not_lt_zero _)⟩
      · rw [if_neg k]
        refine Or.inr ⟨k, Or.inr ⟨?_, q3 q a (by omega)⟩⟩
        rintro ⟨r, c1, c2, c3, -, -⟩
        omega)
    refine ⟨F', ?_, h2⟩
    show pfX12_laysFar_b2 pd_SH 5000 (j + 1) G 367 p _ = _
    simp (disch := omega) only [pfX12_laysFar_b2, pfX12_laysFar_b21, pl_l, pl_b, pl_iT, pl_t, pl_f, lm_1 q1, lm_14 q1, lm_15 q1, lm_16 q1, lm_17 q1, lm_18 q1, lm_19 q1, lm_20 q1, lm_21 q1, lm_22 q1, lm_23 q1, lm_24 q1, lm_25 q1, lm_26 q1, lm_27 q1, lm_28 q1, lm_29 q1, lm_30 q1, lm_31 q1, lm_32 q1, lm_33 q1, lm_34 q1, lm_35 q1, lm_36 q1, lm_37 q1, lm_39 q1, lm_40 q1, lm_42 q1, lm_43 q1, lm_44 q1, lm_45 q1, lm_47 q1, lm_48 q1, lm_49 q1, lm_50 q1, lm_51 q1, gx_367, gx_368, gx_369, gx_370, gx_371, gx_372, gx_373, gx_374, gx_375, gx_376, gx_377, gx_378, gx_379, gx_380, gx_381, gx_382, gx_383, gx_384, gx_385, gx_386, gx_387, gx_388, gx_389, gx_390, gx_391, gx_392, gx_393, gx_394, gx_395, gx_396, gx_397, gx_398, gx_399, gx_400, gx_401, gx_402, gx_403, gn_368, gn_369, gn_370, gn_371, gn_372, gn_373, gn_374, gn_375, gn_376, gn_377, gn_378, gn_379, gn_380, gn_381, gn_382, gn_383, gn_384, gn_385, gn_386, gn_387, gn_388, gn_389, gn_390, gn_391, gn_392, gn_393, gn_394, gn_395, gn_396, gn_397, gn_398, gn_399, gn_400, gn_401, gn_402, gn_403, pl_w, pl_i, if_pos, if_neg, h1]

/-! the class reads: tokens, forward -/
def atl (T : Int → Int) (p : Int) (u : List Int) : Prop := ∀ k : Nat, k < u.length → T (p + k) = u.getD k 0
theorem atl_app {T : Int → Int} {p : Int} {u v : List Int} (h : atl T p (u ++ v)) : atl T p u ∧ atl T (p + u.length) v := by
  refine ⟨fun k hk => ?_, fun k hk => ?_⟩
  · rw [h k (by rw [List.length_append]; omega), gd_app, if_pos hk]
  · have := h (u.length + k) (by rw [List.length_append]; omega)
    rw [gd_app, if_neg (by omega), show u.length + k - u.length = k by omega] at this
    rw [← this]; congr 1; omega
def sep (T : Int → Int) (N q : Int) : Prop := q < N ∧ (T q = 32 ∨ T q = 59)
/-- the token behind p is the current one -/
def ad (F : pd_F) (T : Int → Int) (N p : Int) : Prop := pd_Ly F ∧ (F 3 2 = N ∧ 0 ≤ N ∧ N ≤ 1000) ∧ (∀ j, 0 ≤ j → j < N → F 4 j = T j) ∧ (0 ≤ p ∧ p ≤ N) ∧ Tk w8 (F 4) N p (F 3 4) (F 3 5) (F 3 3) (F 3 7) (F 3 8) ∧ (F 3 5 < N → F 3 6 = F 4 (F 3 5))
theorem En_to {P : Int → Bool} {N : Int} : ∀ (k : Nat) (i : Int), (∀ j, i ≤ j → j < i + k → P j = true) → i + k ≤ N → (i + k < N → ¬ P (i + k) = true) → En P N i = i + k
  | 0, i, _, h1, h2 => by
    rw [En_e (fun z => h2 (by omega) (by rw [show i + ((0 : Nat) : Int) = i by omega]; exact z.2))]; omega
  | k + 1, i, h0, h1, h2 => by
    rw [En_s (by omega) (h0 i (by omega) (by omega)), En_to k (i + 1) (fun j a c => h0 j (by omega) (by omega)) (by omega) (fun z => by rw [show i + 1 + (k : Int) = i + ((k + 1 : Nat) : Int) by omega]; exact h2 (by omega))]
    omega
section TOK
variable {sT : pd_S} {F : pd_F} {T : Int → Int} {N p q : Int} {u : List Int}
theorem ad.adv (h : ad F T N p) (h3 : F 3 3 = q) (hq : 0 ≤ q ∧ q ≤ N) : ∃ F', pfX9_advance (pd_SH sT) 5000 F 3 = some F' ∧ ad F' T N q ∧ jC F F' := by
  obtain ⟨h1, ⟨h2, n0, n1⟩, ht, -, -, -⟩ := h
  obtain ⟨F', a1, a2, a3, a4, a5⟩ := c_advance (sT := sT) h1 (by omega) (by omega)
  have e4 : F' 4 = F 4 := a3.1 4 (by decide)
  rw [h2, h3] at a4
  refine ⟨F', a1, ⟨a2, ⟨by rw [a3.2 2 (by decide)]; exact h2, n0, n1⟩, fun j x y => by rw [e4]; exact ht j x y, hq, by rw [e4]; exact a4, fun x => by rw [e4]; exact a5 (by omega)⟩, a3⟩
theorem ad.pl (h : ad F T N p) (hq : q = p ∨ (q = p + 1 ∧ T p = 32)) (hn : q < N) (hb : T q ≠ 32 ∧ T q ≠ 10) : En (bkB (F 4)) N p = q := by
  obtain ⟨h1, ⟨h2, n0, n1⟩, ht, hp, -, -⟩ := h
  have g : ¬ bkB (F 4) q = true := fun z => by
    have := bkB_t.mp z
    rw [ht q (by omega) hn] at this
    omega
  rcases hq with rfl | ⟨rfl, h32⟩
  · exact En_e (fun z => g z.2)
  · refine En_to 1 p (fun j a c => ?_) (by omega) (fun _ => g)
    have : j = p := by omega
    subst this
    exact bkB_t.mpr (Or.inl (by rw [ht j (by omega) (by omega)]; exact h32))
def lets (u : List Int) : Prop := ∀ k : Nat, k < u.length → 97 ≤ u.getD k 0 ∧ u.getD k 0 ≤ 122
def digs (u : List Int) : Prop := ∀ k : Nat, k < u.length → 48 ≤ u.getD k 0 ∧ u.getD k 0 ≤ 57
def w8l (u : List Int) : Int := w8 (fun k => u.getD k 0 - 96) u.length
def nbl (u : List Int) : Int := nb (fun k => u.getD k 0 - 48) u.length
theorem w8_cg {c d : Nat → Int} : ∀ n : Nat, (∀ k, k < n → c k = d k) → w8 c n = w8 d n
  | 0, _ => rfl
  | n + 1, h => by
    show w8 c n * 256 + (c n + 96) = w8 d n * 256 + (d n + 96)
    rw [w8_cg n (fun k x => h k (by omega)), h n (by omega)]
theorem nb_cg {c d : Nat → Int} : ∀ n : Nat, (∀ k, k < n → c k = d k) → nb c n = nb d n
  | 0, _ => rfl
  | n + 1, h => by
    show nb c n * 10 + c n = nb d n * 10 + d n
    rw [nb_cg n (fun k x => h k (by omega)), h n (by omega)]
theorem ad.word (h : ad F T N p) (hq : q = p ∨ (q = p + 1 ∧ T p = 32)) (hu : atl T q u) (hl : lets u) (h8 : 1 ≤ u.length ∧ u.length ≤ 8) (hs : sep T N (q + u.length)) : F 3 4 = 1 ∧ F 3 8 = w8l u ∧ F 3 3 = q + u.length ∧ F 3 6 = u.getD 0 0 := by
  have hl0 := hl 0 (by omega)
  have hu0 := hu 0 (by omega)
  rw [show q + ((0 : Nat) : Int) = q by omega] at hu0
  have hpl := h.pl hq (by unfold sep at hs; omega) (by omega)
  obtain ⟨h1, ⟨h2, n0, n1⟩, ht, hp, ⟨e5, -, tk⟩, t6⟩ := h
  rw [hpl] at e5
  have tq := ht q (by omega) (by unfold sep at hs; omega)
  rw [e5] at tk t6
  have qN : q < N := by unfold sep at hs; omega
  obtain ⟨a1, -, -, -⟩ := tk qN
  have hb : ∀ k : Nat, k < u.length → F 4 (q + k) = u.getD k 0 := fun k hk => by
    rw [ht (q + k) (by omega) (by unfold sep at hs; omega)]; exact hu k hk
  have en : En (ltB (F 4)) N q = q + (u.length : Nat) := by
    refine En_to u.length q (fun j a c => ?_) (by unfold sep at hs; omega) (fun z => ?_)
    · have := hb (j - q).toNat (by omega)
      rw [show q + ((j - q).toNat : Int) = j by omega] at this
      rw [ltB_t, this]
      exact hl _ (by omega)
    · rw [ltB_t, ht _ (by omega) z]
      unfold sep at hs
      omega
  obtain ⟨b1, b2, b3⟩ := a1 (by omega)
  rw [en] at b1
  rw [b1] at b2 b3
  rw [if_pos (by omega)] at b2
  refine ⟨b2, ?_, b1, by rw [t6 qN]; omega⟩
  rw [b3 (by omega), show (q + (u.length : Int) - q).toNat = u.length by omega]
  exact w8_cg _ fun k hk => by rw [hb k hk]
theorem ad.num (h : ad F T N p) (hq : q = p ∨ (q = p + 1 ∧ T p = 32)) (hu : atl T q u) (hl : digs u) (h8 : 1 ≤ u.length ∧ u.length ≤ 7) (hs : sep T N (q + u.length)) : F 3 4 = 2 ∧ F 3 7 = nbl u ∧ F 3 3 = q + u.length := by
  have hl0 := hl 0 (by omega)
  have hu0 := hu 0 (by omega)
  rw [show q + ((0 : Nat) : Int) = q by omega] at hu0
  have hpl := h.pl hq (by unfold sep at hs; omega) (by omega)
  obtain ⟨h1, ⟨h2, n0, n1⟩, ht, hp, ⟨e5, -, tk⟩, t6⟩ := h
  rw [hpl] at e5
  have tq := ht q (by omega) (by unfold sep at hs; omega)
  rw [e5] at tk
  have qN : q < N := by unfold sep at hs; omega
  obtain ⟨-, a1, -, -⟩ := tk qN
  have hb : ∀ k : Nat, k < u.length → F 4 (q + k) = u.getD k 0 := fun k hk => by
    rw [ht (q + k) (by omega) (by unfold sep at hs; omega)]; exact hu k hk
  have en : En (dgB (F 4)) N q = q + (u.length : Nat) := by
    refine En_to u.length q (fun j a c => ?_) (by unfold sep at hs; omega) (fun z => ?_)
    · have := hb (j - q).toNat (by omega)
      rw [show q + ((j - q).toNat : Int) = j by omega] at this
      rw [dgB_t, this]
      exact hl _ (by omega)
    · rw [dgB_t, ht _ (by omega) z]
      unfold sep at hs
      omega
  obtain ⟨b1, b2, b3⟩ := a1 (by omega)
  rw [en] at b1
  rw [b1] at b2 b3
  rw [if_pos (by omega)] at b2
  refine ⟨b2, ?_, b1⟩
  rw [b3 (by omega), show (q + (u.length : Int) - q).toNat = u.length by omega]
  exact nb_cg _ fun k hk => by rw [hb k hk]
theorem ad.semi (h : ad F T N p) (hn : p < N) (hb : T p = 59) : F 3 4 = 3 ∧ F 3 3 = p + 1 := by
  have hpl := h.pl (Or.inl rfl) hn (by omega)
  obtain ⟨h1, ⟨h2, n0, n1⟩, ht, hp, ⟨e5, -, tk⟩, t6⟩ := h
  rw [hpl] at e5
  rw [e5] at tk
  obtain ⟨-, -, a1, -⟩ := tk hn
  exact a1 (by rw [ht p (by omega) hn]; exact hb)
theorem ad.stop (h : ad F T N N) : F 3 4 = 0 := by
  obtain ⟨h1, ⟨h2, n0, n1⟩, ht, hp, ⟨e5, tk, -⟩, t6⟩ := h
  have e : En (bkB (F 4)) N N = N := En_e (fun z => by omega)
  rw [e] at e5
  exact (tk (by omega)).1
theorem digs_dg {v : Int} (h : 0 ≤ v ∧ v < 10000) : digs (dg v) ∧ nbl (dg v) = v ∧ 1 ≤ (dg v).length ∧ (dg v).length ≤ 4 := by
  have d1 : ∀ x : Int, 0 ≤ x → x < 10 → 48 ≤ 48 + x ∧ 48 + x ≤ 57 := fun x _ _ => by omega
  have one : ∀ a : Int, 0 ≤ a → a < 10 → digs [48 + a] ∧ nbl [48 + a] = a := fun a a0 a1 => ⟨fun k hk => by
    have : k < 1 := hk
    have : k = 0 := by omega
    subst this; exact d1 a a0 a1, by show 0 * 10 + (48 + a - 48) = a; omega⟩
  have app : ∀ (l : List Int) (x y : Int), digs l → 0 ≤ x → x < 10 → 0 ≤ y → y < 10 → digs (l ++ [48 + x, 48 + y]) ∧ nbl (l ++ [48 + x, 48 + y]) = nbl l * 100 + x * 10 + y := fun l x y hl x0 x1 y0 y1 => by
    have g0 : ∀ k, k < l.length → (l ++ [48 + x, 48 + y]).getD k 0 = l.getD k 0 := fun k hk => by rw [gd_app, if_pos hk]
    have g1 : (l ++ [48 + x, 48 + y]).getD l.length 0 = 48 + x := by rw [gd_app, if_neg (by omega), Nat.sub_self]; rfl
    have g2 : (l ++ [48 + x, 48 + y]).getD (l.length + 1) 0 = 48 + y := by rw [gd_app, if_neg (by omega), Nat.add_sub_cancel_left]; rfl
    have ln : (l ++ [48 + x, 48 + y]).length = l.length + 2 := by rw [List.length_append]; rfl
    refine ⟨fun k hk => ?_, ?_⟩
    · rw [ln] at hk
      by_cases c : k < l.length
      · rw [g0 k c]; exact hl k c
      · by_cases c2 : k = l.length
        · rw [c2, g1]; omega
        · rw [show k = l.length + 1 by omega, g2]; omega
    · unfold nbl
      rw [ln]
      show (nb _ l.length * 10 + ((l ++ [48 + x, 48 + y]).getD l.length 0 - 48)) * 10 + ((l ++ [48 + x, 48 + y]).getD (l.length + 1) 0 - 48) = _
      rw [g1, g2, nb_cg (d := fun k => l.getD k 0 - 48) l.length (fun k hk => by rw [g0 k hk])]
      omega
  have two : ∀ a : Int, 0 ≤ a → a < 100 → digs (dg1 a) ∧ nbl (dg1 a) = a := fun a a0 a1 => by
    unfold dg1
    by_cases c : a < 10
    · rw [if_pos c]; exact one a a0 c
    · rw [if_neg c]
      have := app [] (a / 10) (a % 10) (fun k hk => absurd hk (by simp)) (by omega) (by omega) (by omega) (by omega)
      rw [List.nil_append, show nbl [] = 0 from rfl] at this
      exact ⟨this.1, by rw [this.2]; omega⟩
  refine ⟨?_, ?_, dg_lenB⟩
  all_goals
    unfold dg
    by_cases c : v < 100
    · rw [if_pos c]
      first
      | exact (two v h.1 c).1
      | exact (two v h.1 c).2
    · rw [if_neg c]
      have t := two (v / 100) (by omega) (by omega)
      have := app (dg1 (v / 100)) (v % 100 / 10) (v % 10) t.1 (by omega) (by omega) (by omega) (by omega)
      first
      | exact this.1
      | (rw [this.2, t.2]; omega)
/-! what the reader does at a token that is there -/
theorem c_at1 (h : pd_Ly F) {w : Int} (hk : F 3 4 = 1 ∧ F 3 8 = w) : pfX6_at (pd_SH sT) 5000 F 2 w = some (1, F) := by rw [c_at h, ci_t hk]
theorem c_at0 (h : pd_Ly F) {w : Int} (hk : ¬ (F 3 4 = 1 ∧ F 3 8 = w)) : pfX6_at (pd_SH sT) 5000 F 2 w = some (0, F) := by rw [c_at h, ci_f hk]
theorem ad.pass (h : ad F T N p) {w : Int} (hk : F 3 4 = 1 ∧ F 3 8 = w) (h3 : F 3 3 = q) (hq : 0 ≤ q ∧ q ≤ N) : ∃ F', pfX6_pass (pd_SH sT) 5000 F 2 w = some (1, F') ∧ ad F' T N q ∧ jC F F' := by
  obtain ⟨F', a, c, d⟩ := h.adv (sT := sT) h3 hq
  refine ⟨F', ?_, c, d⟩
  have q1 := h.1
  unfold pfX6_pass
  simp only [pl_l, pl_b, pl_iT, pl_t, pl_f, gx_1, gx_2, gx_3, gx_4, gx_113, gx_114, gx_115, gx_116, gx_212, gx_213, gx_224, gn_4, gn_114, gn_115, gn_116, gn_213, gn_224, lx_1_0 q1, lx_1_1 q1, lx_1_2 q1, lx_1_3 q1, lx_1_4 q1, lx_1_5 q1, lx_1_6 q1, lx_1_7 q1, lx_2_0 q1, lx_3_0 q1, lx_113_0 q1, lx_113_1 q1, lx_113_2 q1, lx_212_0 q1, lx_212_1 q1, c_at1 (sT := sT) q1 hk, a]
  rw [if_pos (show (1 : Int) ≠ 0 by decide)]
theorem ad.passEnd (h : ad F T N p) (hk : F 3 4 = 3) (h3 : F 3 3 = q) (hq : 0 ≤ q ∧ q ≤ N) : ∃ F', pfX6_passEnd (pd_SH sT) 5000 F 2 = some (1, F') ∧ ad F' T N q ∧ jC F F' := by
  obtain ⟨F', a, c, d⟩ := h.adv (sT := sT) h3 hq
  refine ⟨F', ?_, c, d⟩
  have q1 := h.1
  unfold pfX6_passEnd
  simp only [pl_l, pl_b, pl_iT, pl_t, pl_f, gx_1, gx_2, gx_3, gx_4, gx_113, gx_114, gx_115, gx_116, gx_212, gx_213, gx_224, gn_4, gn_114, gn_115, gn_116, gn_213, gn_224, lx_1_0 q1, lx_1_1 q1, lx_1_2 q1, lx_1_3 q1, lx_1_4 q1, lx_1_5 q1, lx_1_6 q1, lx_1_7 q1, lx_2_0 q1, lx_3_0 q1, lx_113_0 q1, lx_113_1 q1, lx_113_2 q1, lx_212_0 q1, lx_212_1 q1, hk, a]
theorem ad.take (h : ad F T N p) {x lo hi : Int} (hk : F 3 4 = 2 ∧ F 3 7 = x) (hx : lo ≤ x ∧ x ≤ hi) (h3 : F 3 3 = q) (hq : 0 ≤ q ∧ q ≤ N) : ∃ F', pfX6_takeNumberIn (pd_SH sT) 5000 F 2 lo hi 1 = some (x, F') ∧ ad F' T N q ∧ jC F F' := by
  obtain ⟨F', a, c, d⟩ := h.adv (sT := sT) h3 hq
  refine ⟨F', ?_, c, d⟩
  have q1 := h.1
  unfold pfX6_takeNumberIn
  simp only [pl_l, pl_b, pl_iT, pl_t, pl_f, gx_1, gx_2, gx_3, gx_4, gx_113, gx_114, gx_115, gx_116, gx_212, gx_213, gx_224, gn_4, gn_114, gn_115, gn_116, gn_213, gn_224, lx_1_0 q1, lx_1_1 q1, lx_1_2 q1, lx_1_3 q1, lx_1_4 q1, lx_1_5 q1, lx_1_6 q1, lx_1_7 q1, lx_2_0 q1, lx_3_0 q1, lx_113_0 q1, lx_113_1 q1, lx_113_2 q1, lx_212_0 q1, lx_212_1 q1, hk.1, hk.2, a]
  rw [if_neg (by omega), if_pos hx.2, if_pos (show (1 : Int) ≠ 0 by decide)]
theorem c_atName1 (h : pd_Ly F) (hk : F 3 4 = 1 ∧ ¬ Kw8 (F 3 8)) : pfX6_atName (pd_SH sT) 5000 F 2 = some (1, F) := by rw [c_atName h, ci_t hk]
end TOK

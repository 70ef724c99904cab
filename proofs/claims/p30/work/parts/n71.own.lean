/-! numbers told; a builder made; a text taken out of it; its signs -/
def dg1 (v : Int) : List Int := if v < 10 then [48 + v] else [48 + v / 10, 48 + v % 10]
def dg (v : Int) : List Int := if v < 100 then dg1 v else dg1 (v / 100) ++ [48 + v % 100 / 10, 48 + v % 10]
theorem dg1_len {v : Int} : (dg1 v).length = if v < 10 then 1 else 2 := by unfold dg1; split <;> rfl
theorem dg_len {v : Int} : (dg v).length = if v < 100 then (dg1 v).length else (dg1 (v / 100)).length + 2 := by
  unfold dg; split
  · rfl
  · rw [List.length_append]; rfl
theorem dg_lenB {v : Int} : 1 ≤ (dg v).length ∧ (dg v).length ≤ 4 := by
  rw [dg_len, dg1_len, dg1_len]; repeat' split
  all_goals omega
theorem pr1 {x : Int} (h : 32 ≤ x ∧ x < 127) : pr [x] := fun k hk => by
  have : k = 0 := by have : k < 1 := hk; omega
  subst this; exact h
theorem pr2 {x y : Int} (h : 32 ≤ x ∧ x < 127) (g : 32 ≤ y ∧ y < 127) : pr [x, y] := pr_app (pr1 h) (pr1 g)
theorem dg1_pr {v : Int} (h : 0 ≤ v ∧ v < 100) : pr (dg1 v) := by
  unfold dg1; split
  · exact pr1 (by omega)
  · exact pr2 (by omega) (by omega)
theorem dg_pr {v : Int} (h : 0 ≤ v ∧ v < 10000) : pr (dg v) := by
  unfold dg; split
  · exact dg1_pr (by omega)
  · exact pr_app (dg1_pr (by omega)) (pr2 (by omega) (by omega))
section NUM
variable {sh : pd_S} {F : pd_F} {n : Nat} {h0 b s : Int} {l w : List Int}
theorem s_size (hn : 5 ≤ n) {v : Int} (hv : 0 ≤ v ∧ v < 10000) : pfJ6_stringSize_0f7a4 sh n F v = some (((dg v).length : Int), F) := by
  obtain ⟨m, rfl⟩ : ∃ m, n = m + 5 := ⟨n - 5, by omega⟩
  have L : ((dg v).length : Int) = if v < 10 then 1 else if v < 100 then 2 else if v < 1000 then 3 else 4 := by
    rw [dg_len, dg1_len, dg1_len]; repeat' split
    all_goals omega
  rw [L]
  unfold pfJ6_stringSize_0f7a4
  rw [if_neg (by omega), pl_l, pl_w (by omega)]
  unfold pfJ6_stringSize_0f7a4_b11
  have st : ∀ (k : Nat) (x c : Int), 1 ≤ c → c < 10 → -20000 ≤ x → x < 0 → pfJ6_stringSize_0f7a4_b16 sh (m + 5) (k + 1) F (-v) 0 x c = if -v ≤ x then pfJ6_stringSize_0f7a4_b16 sh (m + 5) k F (-v) 0 (10 * x) (c + 1) else some (c, F) := by
    intro k x c h1 h2 h3 h4
    show (if c ≥ 10 then _ else if -v ≤ x then _ else _) = _
    rw [if_neg (by omega)]
    by_cases h : -v ≤ x
    · rw [if_pos h, if_pos h, pl_l, pl_l, pl_w (by omega), pl_w (by omega)]
    · rw [if_neg h, if_neg h, pl_w (by omega), Int.add_zero]
  rw [st (m + 4) (-10) 1 (by omega) (by omega) (by omega) (by omega)]
  by_cases h1 : v < 10
  · rw [if_neg (by omega), if_pos h1]
  rw [if_pos (by omega), if_neg h1, st (m + 3) _ _ (by omega) (by omega) (by omega) (by omega)]
  by_cases h2 : v < 100
  · rw [if_neg (by omega), if_pos h2]; rfl
  rw [if_pos (by omega), if_neg h2, st (m + 2) _ _ (by omega) (by omega) (by omega) (by omega)]
  by_cases h3 : v < 1000
  · rw [if_neg (by omega), if_pos h3]; rfl
  rw [if_pos (by omega), if_neg h3, st (m + 1) _ _ (by omega) (by omega) (by omega) (by omega), if_neg (by omega)]
  rfl
/-- a word laid into a row, from i on -/
def lay (F F' : pd_F) (b i : Int) (w : List Int) : Prop := (∀ c, c ≠ b → F' c = F c) ∧ ∀ q, F' b q = if i ≤ q ∧ q < i + w.length then w.getD (q - i).toNat 0 else F b q
theorem lay1 {i x : Int} : lay F (pd_up F b i x) b i [x] := by
  refine ⟨fun c hc => pu_a hc, fun q => ?_⟩
  rw [pu_r, show (([x] : List Int).length : Int) = 1 from rfl]
  by_cases h : q = i
  · rw [if_pos h, if_pos (by omega), show (q - i).toNat = 0 by omega]; rfl
  · rw [if_neg h, if_neg (by omega)]
theorem lay.app {F F1 F2 : pd_F} {i : Int} {u v : List Int} (h : lay F F1 b (i + u.length) v) (g : lay F1 F2 b i u) : lay F F2 b i (u ++ v) := by
  refine ⟨fun c hc => (g.1 c hc).trans (h.1 c hc), fun q => ?_⟩
  rw [g.2, h.2, List.length_append]
  by_cases h1 : i ≤ q ∧ q < i + u.length
  · rw [if_pos h1, if_pos (by omega), gd_app, if_pos (by omega)]
  · rw [if_neg h1]
    by_cases h2 : i + u.length ≤ q ∧ q < i + u.length + v.length
    · rw [if_pos h2, if_pos (by omega), gd_app, if_neg (by omega)]; congr 1; omega
    · rw [if_neg h2, if_neg (by omega)]
theorem s_gc1 {m : Nat} (m1 : pd_sh sh b = some (0, 1, m)) {v i : Int} (hv : 0 ≤ v ∧ v < 100) (hi : ((dg1 v).length : Int) ≤ i ∧ i ≤ m ∧ m ≤ 1200) : ∃ F', pfJ6_getChars_ba4f3_b72 sh n F (-v) b i 0 = some (i - (dg1 v).length, F') ∧ lay F F' b (i - (dg1 v).length) (dg1 v) := by
  rw [dg1_len] at hi ⊢
  unfold pfJ6_getChars_ba4f3_b72 dg1
  have e0 : pd_w (-(-v)) = v := by rw [pl_w (by omega)]; omega
  simp only [pl_l, e0, pl_ib m1]
  by_cases h : v < 10
  · rw [if_pos h] at hi ⊢
    rw [if_pos h]
    rw [pl_w (x := i + -1) (by omega), pl_i (by omega), pl_i (by omega), if_pos (by omega)]
    unfold pfJ6_getChars_ba4f3_b104
    rw [if_pos rfl, pl_by (by omega), show 48 + v % 10 = 48 + v by omega]
    exact ⟨_, rfl, lay1⟩
  · rw [if_neg h] at hi ⊢
    rw [if_neg h]
    rw [pl_w (x := i + -1) (by omega), pl_i (by omega), pl_i (by omega), if_neg (by omega), pl_w (x := i + -1 + -1) (by omega), pl_i (by omega)]
    unfold pfJ6_getChars_ba4f3_b104
    rw [if_pos rfl, pl_by (by omega), pl_by (by omega)]
    rw [show i + -1 + -1 = i - ((2 : Nat) : Int) by omega]
    refine ⟨_, rfl, ?_⟩
    refine lay.app (u := [48 + v / 10]) (v := [48 + v % 10]) ?_ lay1
    rw [show i - ((2 : Nat) : Int) + ((([48 + v / 10] : List Int).length : Nat) : Int) = i + -1 by show i - 2 + 1 = i + -1; omega]
    exact lay1
theorem s_gc (hn : 2 ≤ n) {m : Nat} (m1 : pd_sh sh b = some (0, 1, m)) {v i : Int} (hv : 0 ≤ v ∧ v < 10000) (hi : ((dg v).length : Int) ≤ i ∧ i ≤ m ∧ m ≤ 1200) : ∃ r F', pfJ6_getChars_ba4f3 sh n F v i b = some (r, F') ∧ lay F F' b (i - (dg v).length) (dg v) := by
  obtain ⟨k, rfl⟩ : ∃ k, n = k + 2 := ⟨n - 2, by omega⟩
  unfold pfJ6_getChars_ba4f3 pfJ6_getChars_ba4f3_b12
  rw [if_pos (by omega), if_neg (by omega), pl_l, pl_w (by omega)]
  have st : ∀ (G : pd_F) (j : Nat) (x i' : Int), 0 ≤ x → x < 100 → pfJ6_getChars_ba4f3_b22 sh (k + 2) (j + 1) G (-x) b i' 0 = pfJ6_getChars_ba4f3_b72 sh (k + 2) G (-x) b i' 0 := by
    intro G j x i' h1 h2
    show (if -x > -100 then _ else _) = _
    rw [if_pos (by omega)]
  rw [dg_len] at hi ⊢
  unfold dg
  by_cases h : v < 100
  · rw [if_pos h] at hi ⊢
    rw [if_pos h, st F (k + 1) v i hv.1 h]
    obtain ⟨F', g1, g2⟩ := s_gc1 (n := k + 2) (F := F) m1 ⟨hv.1, h⟩ hi
    exact ⟨_, F', g1, g2⟩
  · rw [if_neg h] at hi ⊢
    rw [if_neg h]
    show ∃ r F', (if -v > -100 then _ else _) = _ ∧ _
    rw [if_neg (by omega)]
    have e1 : Int.tdiv (-v) 100 = -(v / 100) := by rw [Int.neg_tdiv, Int.tdiv_eq_ediv_of_nonneg (by omega)]
    simp only [pl_l, e1, pl_ib m1]
    have e2 : pd_w (-(v / 100)) = -(v / 100) := pl_w (by omega)
    have e3 : pd_w (pd_w (-(v / 100) * 100) - -v) = v % 100 := by rw [pl_w (x := -(v / 100) * 100) (by omega), pl_w (by omega)]; omega
    have l1 := dg1_len (v := v / 100)
    have l2 : 1 ≤ (dg1 (v / 100)).length := by rw [l1]; split <;> omega
    simp only [e2, e3]
    rw [pl_w (x := i + -1) (by omega), pl_i (by omega), pl_i (by omega), pl_w (x := i + -1 + -1) (by omega), pl_i (by omega), pl_by (by omega), pl_by (by omega)]
    rw [st _ k (v / 100) _ (by omega) (by omega)]
    obtain ⟨F', g1, g2⟩ := s_gc1 (n := k + 2) (F := pd_up (pd_up F b (i + -1) (48 + v % 100 % 10)) b (i + -1 + -1) (48 + v % 100 / 10)) m1 (v := v / 100) (i := i + -1 + -1) (by omega) (by omega)
    refine ⟨_, F', g1, ?_⟩
    have e5 : i + -1 + -1 - ((dg1 (v / 100)).length : Int) = i - (((dg1 (v / 100)).length + 2 : Nat) : Int) := by omega
    rw [e5] at g2
    refine lay.app ?_ g2
    rw [show i - (((dg1 (v / 100)).length + 2 : Nat) : Int) + ((dg1 (v / 100)).length : Int) = i + -1 + -1 by omega, show v % 10 = v % 100 % 10 by omega]
    refine lay.app (u := [48 + v % 100 / 10]) (v := [48 + v % 100 % 10]) ?_ lay1
    rw [show i + -1 + -1 + ((([48 + v % 100 / 10] : List Int).length : Nat) : Int) = i + -1 by show i + -1 + -1 + 1 = i + -1; omega]
    exact lay1
theorem s_int (hn : 5 ≤ n) (hb : bS h0 sh F b l) {v : Int} (hv : 0 ≤ v ∧ v < 10000) (hl : l.length + 4 ≤ 600) : bA h0 sh F b (l ++ dg v) (pfJ4_append_bf812 sh n F b v) := by
  have dl := dg_lenB (v := v)
  have dp := dg_pr hv
  obtain ⟨sh1, F1, e1, x1, y1, ⟨m, z1, z2⟩, f1, v1⟩ := s_ensure (n := n) hb (k := (l.length : Int) + (dg v).length) (by omega)
  obtain ⟨⟨p1, p2⟩, p3, p4, p5, -, p6⟩ := id hb
  have q1 := sh_bd p3
  obtain ⟨⟨r1, r2⟩, r3, r4, r5, ⟨m', r6, r7, r8, r9⟩, r10⟩ := id y1
  have hmm : m' = m := by rw [r6] at z1; cases z1; rfl
  subst hmm
  have hbn : b ≠ F1 b 0 := fun e => by rw [← e, r3] at r6; cases r6
  obtain ⟨r, F2, g1, g2, g3⟩ := s_gc (n := n) (F := F1) (by omega) r6 hv (i := (l.length : Int) + (dg v).length) (by omega)
  have e4 : pfJ4_append_bf812 sh n F b v = some (b, sh1, pd_up F2 b 3 ((l.length : Int) + (dg v).length)) := by
    unfold pfJ4_append_bf812 pfJ5_append_c97b9 pfJ5_isLatin1_aae02
    simp only [pl_ob p3, pl_iT, p5, s_size (sh := sh) (F := F) hn hv, pl_b, pl_l]
    rw [pl_w (by omega), e1]
    simp only [pl_b, pl_l, pl_ob r3, pl_iT, r4]
    rw [if_neg (by decide), if_neg (fun z => z rfl)]
    simp only [pl_b]
    rw [if_neg (by decide), g1]
    simp only [pl_b]
  rw [e4]
  have ub : F2 b = F1 b := g2 b hbn
  have u3 : pd_up F2 b 3 ((l.length : Int) + (dg v).length) b 0 = F1 b 0 := by rw [pu_r, if_neg (by decide), ub]
  rw [show (l.length : Int) + (dg v).length - ((dg v).length : Int) = l.length by omega] at g3
  refine ⟨_, _, rfl, x1, ⟨⟨r1, by rw [u3]; exact r2⟩, r3, by rw [pu_r, if_neg (by decide), ub]; exact r4, by rw [pu_r, if_pos rfl, List.length_append]; omega, ⟨m', by rw [u3]; exact r6, by rw [List.length_append]; omega, r8, fun j hj => ?_⟩, fun k hk => ?_⟩, fun a c1 c2 c3 => ?_, by rw [u3]; exact v1⟩
  · rw [u3, pu_a (fun e => hbn e.symm), g3]
    split
    · have := dp ((j : Int) - l.length).toNat (by omega); omega
    · exact r9 j hj
  · rw [List.length_append] at hk
    rw [u3, pu_a (fun e => hbn e.symm), g3, gd_app]
    by_cases hkl : k < l.length
    · rw [if_neg (by omega), if_pos hkl]; exact r10 k hkl
    · rw [if_pos (by omega), if_neg hkl]; congr 1; omega
  · rw [pu_a c2, g2 a (fun e => by rcases v1 with v1 | v1 <;> omega), f1 a c1 c2]
/-- a builder made anew -/
theorem s_new : ∃ sh' F', pfJ4_init_da8c8 (sh ++ [(4, 13, 4)]) n (pd_z F ((sh.length : Int) + 1)) ((sh.length : Int) + 1) = some (sh', F') ∧ ex sh sh' ∧ bS sh.length sh' F' ((sh.length : Int) + 1) [] ∧ ∀ a : Int, a ≤ sh.length → F' a = F a := by
  have l1 : ((sh ++ [((4, 13, 4) : Nat × Nat × Nat)]).length : Int) = (sh.length : Int) + 1 := by rw [List.length_append]; rfl
  have n1 : pd_sh (sh ++ [((4, 13, 4) : Nat × Nat × Nat)]) ((sh.length : Int) + 1) = some (4, 13, 4) := sh_new
  have n2 : pd_sh (sh ++ [((4, 13, 4) : Nat × Nat × Nat)] ++ [(0, 1, 16)]) ((sh.length : Int) + 1) = some (4, 13, 4) := ex.one.sh n1
  have n3 : pd_sh (sh ++ [((4, 13, 4) : Nat × Nat × Nat)] ++ [(0, 1, 16)]) ((sh.length : Int) + 1 + 1) = some (0, 1, 16) := by rw [← l1]; exact sh_new
  unfold pfJ4_init_da8c8 pfJ5_init_d00df
  rw [pl_i (by omega), pl_i (by omega), if_neg (by decide), pl_i (by decide)]
  simp only [pl_l, l1, show Int.toNat 16 = 16 from rfl, pl_ob n2, pl_iT, pl_b]
  have ne : ((sh.length : Int) + 1) ≠ (sh.length : Int) + 1 + 1 := by omega
  refine ⟨_, _, rfl, ex.one.tr ex.one, ⟨⟨by omega, ?_⟩, n2, ?_, ?_, ⟨16, ?_, by decide, by decide, fun j hj => ?_⟩, fun k hk => absurd hk (by simp)⟩, fun a ha => ?_⟩
  · rw [pu_r, if_neg (by decide), pu_r, if_pos rfl]; omega
  · rw [pu_r, if_pos rfl]
  · rw [pu_r, if_neg (by decide), pu_r, if_neg (by decide)]; unfold pd_z; rw [if_neg ne, if_pos rfl]; rfl
  · rw [pu_r, if_neg (by decide), pu_r, if_pos rfl]; exact n3
  · rw [pu_r, if_neg (by decide), pu_r, if_pos rfl, pu_a (by omega), pu_a (by omega)]; unfold pd_z; rw [if_pos rfl]; omega
  · rw [pu_a (by omega), pu_a (by omega)]; funext j; unfold pd_z; rw [if_neg (by omega), if_neg (by omega)]
/-- a row's first l.length bytes in a row of their own -/
theorem s_range {m : Nat} {v : Int} (m1 : pd_sh sh v = some (0, 1, m)) {c : Nat} (hc : c ≤ m ∧ m ≤ 1200) (m4 : ∀ j : Nat, j < m → -128 ≤ F v j ∧ F v j ≤ 127) :
    ∃ G, pfJ7_copyOfRange_39247 sh n F v 0 c = some ((sh.length : Int) + 1, sh ++ [(0, 1, c)], G) ∧ (∀ a, a ≠ (sh.length : Int) + 1 → G a = F a) ∧ ∀ j : Nat, j < c → G ((sh.length : Int) + 1) j = F v j := by
  have q2 := sh_bd m1
  have hx : ex sh (sh ++ [((0, 1, c) : Nat × Nat × Nat)]) := ex.one
  have n1 : pd_sh (sh ++ [((0, 1, c) : Nat × Nat × Nat)]) ((sh.length : Int) + 1) = some (0, 1, c) := sh_new
  unfold pfJ7_copyOfRange_39247
  rw [if_neg (fun z => z rfl)]
  rw [pl_ln m1, pl_i (by omega)]
  by_cases h : (c : Int) = m
  · rw [if_pos h, pl_i (by omega), pl_i (pd_by_of fun j hj => by rw [Int.zero_add]; exact m4 j (by omega))]
    have hcm : m = c := by omega
    subst hcm
    simp only [pl_l, show Int.toNat (m : Int) = m from rfl, pl_ln n1]
    rw [pl_i (by omega)]
    refine ⟨_, rfl, fun a ha => ?_, fun j hj => ?_⟩
    · funext j; unfold pd_cl; rw [if_neg ha]
    · unfold pd_cl; rw [if_pos rfl]
  · rw [if_neg h]
    have zv : ∀ a, a ≠ (sh.length : Int) + 1 → pd_z F ((sh.length : Int) + 1) a = F a := fun a h => by
      funext j; unfold pd_z; rw [if_neg h]
    have e1 : pd_w ((c : Int) - 0) = c := by rw [Int.sub_zero]; exact pl_w (by omega)
    have e2 : min (pd_w ((m : Int) - 0)) (c : Int) = c := by rw [Int.sub_zero, pl_w (by omega)]; omega
    unfold pfJ7_copyOfRange_39247_b10 pfJ7_copyOfRangeByte_39247 pfJ7_checkLength_df160
    rw [if_pos (by omega)]
    simp only [pl_l, pl_b, e1, show Int.toNat (c : Int) = c from rfl, pl_ln (hx.sh m1), e2]
    rw [pl_i (by omega), pl_i (by omega), pl_i (by omega), pl_i (cgk (hx.sh m1) n1 ⟨by omega, by omega, by omega, by omega, by omega⟩), pl_i (pd_by_of fun j hj => by rw [Int.zero_add, zv _ (by omega)]; exact m4 j (by omega))]
    refine ⟨pd_cp (pd_z F ((sh.length : Int) + 1)) v 0 ((sh.length : Int) + 1) 0 c, rfl, fun a ha => ?_, fun j hj => ?_⟩
    · funext j; unfold pd_cp; rw [if_neg (fun z => ha z.1)]; exact congrFun (zv a ha) j
    · unfold pd_cp
      rw [if_pos ⟨rfl, by omega, by omega⟩, zv _ (by omega), show (0 : Int) + ((j : Int) - 0) = j by omega]
theorem s_str (hb : bS h0 sh F b l) (hh : h0 ≤ sh.length) : ∃ t sh' F', pfJ4_toString_0e30d sh n F b = some (t, sh', F') ∧ ex sh sh' ∧ tS sh' F' t l ∧ ((sh.length : Int) < t ∧ (sh.length : Int) < F' t 0) ∧ ∀ a : Int, a ≤ sh.length → F' a = F a := by
  obtain ⟨⟨p1, p2⟩, p3, p4, p5, ⟨m, m1, m2, m3, m4⟩, p6⟩ := id hb
  have q1 := sh_bd p3
  have q2 := sh_bd m1
  have x1 : ex sh (sh ++ [((4, 12, 4) : Nat × Nat × Nat)]) := ex.one
  have l1 : ((sh ++ [((4, 12, 4) : Nat × Nat × Nat)]).length : Int) = (sh.length : Int) + 1 := by rw [List.length_append]; rfl
  have n1 : pd_sh (sh ++ [((4, 12, 4) : Nat × Nat × Nat)]) ((sh.length : Int) + 1) = some (4, 12, 4) := sh_new
  have zv : ∀ a, a ≠ (sh.length : Int) + 1 → pd_z F ((sh.length : Int) + 1) a = F a := fun a h => by
    funext j; unfold pd_z; rw [if_neg h]
  obtain ⟨G, g1, g2, g3⟩ := s_range (n := n) (F := pd_up (pd_z F ((sh.length : Int) + 1)) ((sh.length : Int) + 1) 1 0) (x1.sh m1) (c := l.length) ⟨m2, m3⟩ (fun j hj => by rw [pu_a (by omega), zv _ (by omega)]; exact m4 j hj)
  rw [l1] at g1 g2 g3
  have x2 : ex (sh ++ [((4, 12, 4) : Nat × Nat × Nat)]) (sh ++ [((4, 12, 4) : Nat × Nat × Nat)] ++ [(0, 1, l.length)]) := ex.one
  have n2 := x2.sh n1
  have n3 : pd_sh (sh ++ [((4, 12, 4) : Nat × Nat × Nat)] ++ [(0, 1, l.length)]) ((sh.length : Int) + 1 + 1) = some (0, 1, l.length) := by rw [← l1]; exact sh_new
  have e : pfJ4_toString_0e30d sh n F b = some ((sh.length : Int) + 1, sh ++ [(4, 12, 4)] ++ [(0, 1, l.length)], pd_up G ((sh.length : Int) + 1) 0 ((sh.length : Int) + 1 + 1)) := by
    unfold pfJ4_toString_0e30d pfJ0_init_81219 pfJ0_init_db425 pfJ5_getValue_6d5f1 pfJ4_length_8abf5 pfJ5_length_8abf5 pfJ5_isLatin1_aae02
    simp only [pl_l]
    rw [pl_i (by omega), pl_i (by omega)]
    simp only [pl_ob (x1.sh p3), pl_iT, pl_b, zv b (by omega), p4, p5]
    rw [pl_i (by omega), if_neg (by decide), if_neg (fun z => z rfl)]
    simp only [pl_b, pl_ob n1, pl_iT]
    rw [if_neg (by decide), g1]
    simp only [pl_b, pl_ob n2, pl_iT]
    rw [pl_i (by omega)]
    rfl
  have gr : G ((sh.length : Int) + 1) = fun j => if j = 1 then 0 else (if True then (0 : Int) else 0) := by
    rw [g2 _ (by omega)]; funext j
    rw [pu_r]; unfold pd_z; rw [if_pos rfl, if_pos trivial]
  refine ⟨_, _, _, e, x1.tr x2, Or.inr ⟨by omega, n2, ?_, ?_, fun k hk => ?_⟩, ⟨by omega, ?_⟩, fun a ha => ?_⟩
  · rw [pu_r, if_neg (by decide), gr]; rfl
  · rw [pu_r, if_pos rfl]; exact n3
  · rw [pu_r, if_pos rfl, pu_a (by omega), g3 k hk, pu_a (by omega), zv _ (by omega)]; exact p6 k hk
  · rw [pu_r, if_pos rfl]; omega
  · rw [pu_a (by omega), g2 a (by omega), pu_a (by omega), zv _ (by omega)]
/-- a made text's length and signs -/
theorem s_len {t : Int} (h : tS sh F t l) (ht : 0 < t) (hl : l.length ≤ 1200) : pd_ob sh 12 t = true ∧ pfJ0_length_8abf5 sh n F t = some ((l.length : Int), F) := by
  have h1 := s_length (n := n) h hl
  unfold pfJ0_length_8abf5_d at h1
  rw [if_neg (by omega)] at h1
  rcases h with h | ⟨-, h2, -⟩
  · omega
  · exact ⟨by rw [pl_ob h2]; trivial, h1⟩
theorem pand255 {x : Int} (h : 0 ≤ x ∧ x < 127) : pd_and x 255 = x := by
  have : ∀ n : Fin 127, pd_and (n.val : Int) 255 = n.val := by decide +kernel
  have h1 := this ⟨x.toNat, by omega⟩
  have e : ((x.toNat : Nat) : Int) = x := by omega
  simp only [e] at h1
  exact h1
theorem pc127 {x : Int} (h : 0 ≤ x ∧ x < 127) : pd_c x = x := by
  have : ∀ n : Fin 127, pd_c (n.val : Int) = n.val := by decide +kernel
  have h1 := this ⟨x.toNat, by omega⟩
  have e : ((x.toNat : Nat) : Int) = x := by omega
  simp only [e] at h1
  exact h1
theorem s_sign {t : Int} (h : tS sh F t l) (ht : 0 < t) (hp : pr l) {k : Int} (hk : 0 ≤ k ∧ k < l.length) : pfJ0_charAt_5068e sh n F t k = some (l.getD k.toNat 0, F) := by
  rcases h with h | ⟨-, h2, h3, h4, h5⟩
  · omega
  have h6 := h5 k.toNat (by omega)
  have h7 := hp k.toNat (by omega)
  have e : ((k.toNat : Nat) : Int) = k := by omega
  rw [e] at h6
  have ec : pd_c (l.getD k.toNat 0) = l.getD k.toNat 0 := pc127 (by omega)
  unfold pfJ0_charAt_5068e pfJ0_isLatin1_aae02 pfJ1_charAt_3b067
  simp only [pl_ob h2, pl_iT, h3]
  rw [if_neg (by decide), if_neg (fun z => z rfl)]
  simp only [pl_b, pl_l, pl_ln h4, pl_ib h4, h6]
  rw [if_neg (by decide), pl_i (by omega), pl_i (by omega), pl_i (by omega), pand255 (by omega), ec, ec, pl_i rfl]
  simp only [pl_b, pl_l]
  rw [ec, pl_i rfl]
end NUM

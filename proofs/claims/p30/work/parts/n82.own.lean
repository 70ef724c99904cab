/-! the class reads: a person -/
/-- what the marks of a person change -/
def mF (c : Int) (F F' : pd_F) : Prop := (∀ a, a ≠ 3 → a ≠ c → a ≠ c + 1 → F' a = F a) ∧ (∀ j, j ≠ 1 → F' c j = F c j) ∧ ∀ j, (j < 3 ∨ 8 < j) → F' 3 j = F 3 j
theorem mF.tr {c : Int} {F1 F2 F3 : pd_F} (h : mF c F1 F2) (g : mF c F2 F3) : mF c F1 F3 := ⟨fun a x y z => (g.1 a x y z).trans (h.1 a x y z), fun j x => (g.2.1 j x).trans (h.2.1 j x), fun j x => (g.2.2 j x).trans (h.2.2 j x)⟩
theorem mF.rf (c : Int) (F : pd_F) : mF c F F := ⟨fun _ _ _ _ => rfl, fun _ _ => rfl, fun _ _ => rfl⟩
section PE
variable {sT : pd_S} {b c : Int} {F F' B : pd_F} {T : Int → Int} {N p q np nt na nh nl : Int} {u : List Int}
theorem c_noMark (hL : pd_Ly F) (k2 : F 3 4 ≠ 2) {k m : Nat} {x : Int} (hm : x ≤ 3) : pfX6_readMarks_b2 (pd_SH sT) 5000 (k + 1) F 2 c x = some (1, F) := by
  rw [pfX6_readMarks_b2]
  simp only [pl_l, pl_b, pl_iT, pl_t, pl_f, gx_1, gx_2, gx_3, gx_4, gx_113, gx_114, gx_115, gx_116, gx_212, gx_213, gx_224, gn_4, gn_114, gn_115, gn_116, gn_213, gn_224, lx_1_0 hL, lx_1_1 hL, lx_1_2 hL, lx_1_3 hL, lx_1_4 hL, lx_1_5 hL, lx_1_6 hL, lx_1_7 hL, lx_2_0 hL, lx_3_0 hL, lx_113_0 hL, lx_113_1 hL, lx_113_2 hL, lx_212_0 hL, lx_212_1 hL]
  rw [if_neg (by omega), if_pos k2]
theorem c_oneMark (h : ad F T N p) (hc : pd_sh (pd_SH sT) c = some (4, 5, 5)) (hc1 : pd_sh (pd_SH sT) (c + 1) = some (0, 0, 3)) (hcl : ∀ H : pd_F, pd_Ly H → H c 0 = c + 1) (c5 : 5 ≤ c) {v m : Int} (k2 : F 3 4 = 2 ∧ F 3 7 = v) (hv : 1 ≤ v ∧ v ≤ 9999) (h3 : F 3 3 = q) (hq : 0 ≤ q ∧ q ≤ N) (hm : F c 1 = m) (m0 : 0 ≤ m ∧ m < 3) (hno : ∀ i, 0 ≤ i → i < m → F (c + 1) i ≠ v) {k : Nat} :
    ∃ F', pfX6_readMarks_b2 (pd_SH sT) 5000 (k + 1) F 2 c m = pfX6_readMarks_b2 (pd_SH sT) 5000 k F' 2 c (m + 1) ∧ ad F' T N q ∧ mF c F F' ∧ F' c 1 = m + 1 ∧ ∀ i, F' (c + 1) i = if i = m then v else F (c + 1) i := by
  have h1 := h.1
  have e1 := c_hasMark (sT := sT) h1 hc hc1 (hcl F h1) (by rw [hm]; omega) (v := F 3 7)
  rw [hm, k2.2, ci_f (fun ⟨i, x, y, z⟩ => hno i x y z)] at e1
  obtain ⟨F1, a1, a2, a3⟩ := h.take (sT := sT) (lo := 1) (hi := 9999) k2 hv h3 hq
  have f1 := a2.1
  have fc : F1 c 1 = m := by rw [a3.1 c (by omega)]; exact hm
  have fu : pd_Ly (pd_up F1 (c + 1) m v) := f1.up (pl_rc0 hc1 (by decide))
  have fu2 : pd_Ly (pd_up (pd_up F1 (c + 1) m v) c 1 (m + 1)) := fu.up (pl_rc4 hc (by decide))
  have fc' : pd_up F1 (c + 1) m v c 1 = m := by rw [pu_a (by omega)]; exact fc
  refine ⟨pd_up (pd_up F1 (c + 1) m v) c 1 (m + 1), ?_, a2.up fu2 (by rw [pu_a (by omega), pu_a (by omega)]) (by rw [pu_a (by omega), pu_a (by omega)]), ⟨fun a x y z => by rw [pu_a y, pu_a z]; exact a3.1 a x, fun j x => by rw [pu_r, if_neg x, pu_a (by omega), a3.1 c (by omega)], fun j x => by rw [pu_a (by omega), pu_a (by omega)]; exact a3.2 j x⟩, by rw [pu_r, if_pos rfl], fun i => by rw [pu_a (by omega), pu_r, a3.1 (c + 1) (by omega)]⟩
  rw [pfX6_readMarks_b2]
  simp only [pl_l, pl_b, pl_iT, pl_t, pl_f, gx_1, gx_2, gx_3, gx_4, gx_113, gx_114, gx_115, gx_116, gx_212, gx_213, gx_224, gn_4, gn_114, gn_115, gn_116, gn_213, gn_224, lx_1_0 h1, lx_1_1 h1, lx_1_2 h1, lx_1_3 h1, lx_1_4 h1, lx_1_5 h1, lx_1_6 h1, lx_1_7 h1, lx_2_0 h1, lx_3_0 h1, lx_113_0 h1, lx_113_1 h1, lx_113_2 h1, lx_212_0 h1, lx_212_1 h1, pl_ob hc, k2.2, e1, hm]
  rw [if_neg (show ¬ m > 3 by omega), if_neg (show ¬ F 3 4 ≠ 2 from fun e => e k2.1), if_neg (show ¬ m ≥ 3 by omega)]
  unfold pfX6_readMarks_b56 pfX5_addMark
  simp only [pl_l, pl_b, pl_iT, pl_t, pl_f, gx_1, gx_2, gx_3, gx_4, gx_113, gx_114, gx_115, gx_116, gx_212, gx_213, gx_224, gn_4, gn_114, gn_115, gn_116, gn_213, gn_224, a1, pl_ob hc, hcl F1 f1, pl_ln hc1, fc, pl_ib hc1, fc']
  rw [if_pos (show v ≠ -1 by omega), pl_i (by decide), if_neg (by omega), pl_i (by omega), pl_w (by omega)]
  simp only [pl_l, pl_b, pl_iT, pl_t, pl_f]
/-- a name, new -/
theorem z_new (h : ad F T N p) (h21 : F 2 1 = b) (hb : aB b) {w : Int} (hk : F 3 4 = 1 ∧ F 3 8 = w) (hw : 24929 ≤ w ∧ w < 29807) (hf : pfX0_find (pd_SH sT) 5000 F b w = some (-1, F)) : pfX6_atNewName (pd_SH sT) 5000 F 2 = some (1, F) := by
  have q1 := h.1
  obtain ⟨s0, -⟩ := sh_b (sT := sT) hb
  have hn := c_atName1 (sT := sT) q1 ⟨hk.1, by rw [hk.2]; exact kw_no hw⟩
  unfold pfX6_atNewName
  simp only [pl_l, pl_b, pl_iT, pl_t, pl_f, gx_1, gx_2, gx_3, gx_4, gx_113, gx_114, gx_115, gx_116, gx_212, gx_213, gx_224, gn_4, gn_114, gn_115, gn_116, gn_213, gn_224, lx_1_0 q1, lx_1_1 q1, lx_1_2 q1, lx_1_3 q1, lx_1_4 q1, lx_1_5 q1, lx_1_6 q1, lx_1_7 q1, lx_2_0 q1, lx_3_0 q1, lx_113_0 q1, lx_113_1 q1, lx_113_2 q1, lx_212_0 q1, lx_212_1 q1, hn, hk.2, h21, pl_ob s0, hf]
  rw [if_pos (show (1 : Int) ≠ 0 by decide)]
theorem atl_s {x : Int} (h : T p = x) : atl T p [x] := fun k hk => by
  have : k < 1 := hk
  have : k = 0 := by omega
  subst this
  rw [show p + ((0 : Nat) : Int) = p by omega]; exact h
theorem nm_p {i : Int} (hi : 0 ≤ i ∧ i < 26) : nm (28769 + i) (513 + i) 15 := by
  refine ⟨fun k => if k = 0 then 16 else 1 + i, 2, by decide, fun k hk => ?_, ?_, ?_, show (15 : Int) = 16 - 1 by decide⟩
  · have : k = 0 ∨ k = 1 := by omega
    rcases this with rfl | rfl
    · show (1 : Int) ≤ 16 ∧ (16 : Int) ≤ 26; decide
    · show 1 ≤ 1 + i ∧ 1 + i ≤ 26; omega
  · show 28769 + i = (0 * 256 + (16 + 96)) * 256 + (1 + i + 96); omega
  · show 513 + i = (0 * 32 + 16) * 32 + (1 + i); omega
/-- the marks of a person told -/
theorem z_marks (h : ad F T N q) (hc : pd_sh (pd_SH sT) c = some (4, 5, 5)) (hc1 : pd_sh (pd_SH sT) (c + 1) = some (0, 0, 3)) (hcl : ∀ H : pd_F, pd_Ly H → H c 0 = c + 1) (c5 : 5 ≤ c) (q0 : 0 ≤ q) {m : Int} (hm : 1 ≤ m ∧ m < 6) {m2 rest : List Int} (h2 : m2 = [] ∨ m2 = [32, 57]) (hr : 1 ≤ rest.length) (hr0 : rest.getD 0 0 = 59 ∨ rest.getD 0 0 = 32 ∧ 2 ≤ rest.length ∧ rest.getD 1 0 = 105) (hF : F c 1 = 0) (ht : atl T q ([32] ++ dg m ++ m2 ++ rest)) {e : Int} (he : e = q + 1 + (dg m).length + m2.length) (hN : e + rest.length ≤ N) :
    ∃ F', pfX6_readMarks (pd_SH sT) 5000 F 2 c = some (1, F') ∧ ad F' T N e ∧ mF c F F' ∧ 1 ≤ F' c 1 ∧ F' c 1 ≤ 3 := by
  have dl := dg_lenB (v := m)
  have d1 := (dg_lenv (v := m)).1 (by omega)
  have x1 : T q = 32 := atl_1 ht.l.l.l
  have x2 : atl T (q + 1) (dg m) := ht.l.l.r rfl
  have x4 : atl T e rest := ht.r (by simp only [List.length_append, List.length_cons, List.length_nil]; omega)
  have x40 : T e = rest.getD 0 0 := by have := x4 0 (by omega); rw [show e + ((0 : Nat) : Int) = e by omega] at this; exact this
  have x41 : 2 ≤ rest.length → T (e + 1) = rest.getD 1 0 := fun z => x4 1 (by omega)
  have fin : ∀ G : pd_F, ad G T N e → G 3 4 ≠ 2 := fun G hG => by
    have eN : e < N := by omega
    rcases hr0 with z | ⟨z, z2, z3⟩
    · rw [(hG.semi eN (by omega)).1]; decide
    · have hpl := hG.pl (q := e + 1) (Or.inr ⟨rfl, by omega⟩) (by omega) (by rw [x41 z2]; omega)
      obtain ⟨-, ⟨n2, n0, n1⟩, ht', -, ⟨e5, -, tk⟩, -⟩ := hG
      rw [hpl] at e5
      rw [e5] at tk
      have := (tk (by omega)).1 (by rw [ht' _ (by omega) (by omega), x41 z2]; omega)
      rw [this.2.1]
      split <;> decide
  unfold pfX6_readMarks
  rcases h2 with rfl | rfl
  · have he' : e = q + 1 + (dg m).length := by rw [he]; simp
    obtain ⟨k1, k2, k3⟩ := h.dg (v := m) (by omega) x1 x2 he' ⟨by omega, by omega⟩
    obtain ⟨F1, a1, a2, a3, a4, a5⟩ := c_oneMark h hc hc1 hcl c5 ⟨k1, k2⟩ (by omega) k3 (by omega) hF (by omega) (fun i x y => by omega) (k := 4999)
    refine ⟨F1, ?_, a2, a3, by omega, by omega⟩
    rw [show (5000 : Nat) = 4999 + 1 from rfl]
    exact a1.trans (c_noMark (k := 4998) (m := 0) a2.1 (fin F1 a2) (by omega))
  · have x3 : atl T (q + 1 + (dg m).length) [32, 57] := ht.l.r (by simp only [List.length_append, List.length_cons, List.length_nil]; omega)
    have he' : e = q + 1 + (dg m).length + 2 := he
    have y1 : T (q + 1 + (dg m).length) = 32 := by have := x3 0 (by decide); rw [show q + 1 + ((dg m).length : Int) + ((0 : Nat) : Int) = q + 1 + (dg m).length by omega] at this; exact this
    have y2 : T (q + 1 + (dg m).length + 1) = 57 := x3 1 (by decide)
    obtain ⟨k1, k2, k3⟩ := h.dg (v := m) (by omega) x1 x2 rfl ⟨by omega, Or.inl y1⟩
    obtain ⟨F1, a1, a2, a3, a4, a5⟩ := c_oneMark h hc hc1 hcl c5 ⟨k1, k2⟩ (by omega) k3 (by omega) hF (by omega) (fun i x y => by omega) (k := 4999)
    have d9 : dg 9 = [57] := by decide
    obtain ⟨k4, k5, k6⟩ := a2.dg (v := 9) (by decide) y1 (by rw [d9]; exact atl_s y2) (m := e) (by rw [d9]; show e = _ + (1 : Int); omega) ⟨by omega, by omega⟩
    obtain ⟨F2, c1, c2, c3, c4, c5'⟩ := c_oneMark a2 hc hc1 hcl c5 ⟨k4, k5⟩ (by decide) k6 (by omega) a4 (by omega) (fun i x y => by rw [a5, if_pos (by omega)]; omega) (k := 4998)
    refine ⟨F2, ?_, c2, a3.tr c3, by omega, by omega⟩
    rw [show (5000 : Nat) = 4999 + 1 from rfl]
    refine a1.trans ?_
    rw [show (4999 : Nat) = 4998 + 1 from rfl]
    exact c1.trans (c_noMark (k := 4997) (m := 0) c2.1 (fin F2 c2) (by omega))
end PE

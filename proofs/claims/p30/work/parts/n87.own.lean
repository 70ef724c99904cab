/-! the class reads: the lines of the law's text, one after another -/
section RL
variable {sT : pd_S} {b : Int} {F F' B F0 : pd_F} {T : Int → Int} {N p q np nt na nh nl : Int} {u w : List Int}
theorem lw {rest : List Int} (h : ad F T N p) (ht : atl T p (u ++ rest)) (hl : lets u) (h8 : 1 ≤ u.length ∧ u.length ≤ 8) (hr : 1 ≤ rest.length ∧ rest.getD 0 0 = 32) (hN : p + u.length + 1 ≤ N) : F 3 4 = 1 ∧ F 3 8 = w8l u ∧ F 3 3 = p + u.length ∧ atl T (p + u.length) rest := by
  have x := (atl_app ht).2
  have x0 := atl_0 x hr.1
  rw [hr.2] at x0
  obtain ⟨a, c, d, -⟩ := h.word (Or.inl rfl) ht.l hl h8 ⟨by omega, Or.inl x0⟩
  exact ⟨a, c, d, x⟩
def RD (sT : pd_S) (F0 : pd_F) (m : Nat) : Option (Int × pd_F) := Option.bind (pfX6_readLine (pd_SH sT) 5000 F0 2) fun qr17 => pd_l qr17.1 fun r17 => pd_l qr17.2 fun F16 => pfX6_read_b27 (pd_SH sT) 5000 m F16 2 0 r17
def St (sT : pd_S) (F0 : pd_F) (c : Int) (F : pd_F) : Prop := ∃ cn : Nat, (cn : Int) = c ∧ 1 ≤ cn ∧ ∀ k, RD sT F0 (k + cn) = pfX6_read_b27 (pd_SH sT) 5000 (k + 1) F 2 (c - 1) 1
theorem St.one (h : pfX6_readLine (pd_SH sT) 5000 F0 2 = some (1, F)) : St sT F0 1 F := by
  refine ⟨1, rfl, by decide, fun k => ?_⟩
  unfold RD
  rw [h]
  rfl
theorem St.next {c : Int} (h : St sT F0 c F) (hc : c ≤ 44) (hL : pd_Ly F) (h4 : F 3 4 = 1) (e : pfX6_readLine (pd_SH sT) 5000 F 2 = some (1, F')) : St sT F0 (c + 1) F' := by
  obtain ⟨cn, c1, c2, c3⟩ := h
  refine ⟨cn + 1, by omega, by omega, fun k => ?_⟩
  rw [show k + (cn + 1) = (k + 1) + cn by omega, c3 (k + 1), pfX6_read_b27]
  simp only [pl_l, pl_b, pl_iT, pl_t, pl_f, gx_1, gx_2, gx_3, gx_4, gx_113, gx_114, gx_115, gx_116, gx_212, gx_213, gx_224, gn_4, gn_114, gn_115, gn_116, gn_213, gn_224, lx_1_0 hL, lx_1_1 hL, lx_1_2 hL, lx_1_3 hL, lx_1_4 hL, lx_1_5 hL, lx_1_6 hL, lx_1_7 hL, lx_2_0 hL, lx_3_0 hL, lx_113_0 hL, lx_113_1 hL, lx_113_2 hL, lx_212_0 hL, lx_212_1 hL, h4, e]
  rw [if_neg (show ¬ (1 : Int) = 0 by decide), if_neg (show ¬ c - 1 > 44 by omega), if_pos (show (1 : Int) ≠ 0 by decide), pl_w (by omega)]
  rw [show c - 1 + 1 = c + 1 - 1 by omega]
def Qr (sT : pd_S) (b : Int) (T : Int → Int) (N : Int) (F0 : pd_F) (np nt na nh c : Int) (w : List Int) : Prop := atl T 0 w → (w.length : Int) ≤ N → ∃ F B, ad F T N w.length ∧ F 2 1 = b ∧ ZK b F B np nt na nh nh ∧ wF b F0 F ∧ St sT F0 c F ∧ c = 3 + np + nt + na + 2 * nh
theorem wF.b21 (hb : aB b) (h : wF b F F') (h21 : F 2 1 = b) : F' 2 1 = b := by
  have := aB_5 hb
  rw [h.1 2 (by decide) (by omega)]; exact h21
theorem Qr_head (hb : aB b) (h0 : ad F0 T N 0) (h21 : F0 2 1 = b) (hZ : ZK b F0 B 0 0 0 0 0) (hs : ∀ w, 0 ≤ w → w < 3 → F0 (b + 7) w = -1) {v d r : Int} (h1 : 0 ≤ v ∧ v < 3000) (h2 : 0 ≤ d ∧ d < 40) (h3 : 0 ≤ r ∧ r < 2000) : Qr sT b T N F0 0 0 0 0 3 (wCov ++ dg v ++ wClo ++ dg d ++ wRai ++ dg r ++ wSem) := by
  intro ht hN
  have e : wCov ++ dg v ++ wClo ++ dg d ++ wRai ++ dg r ++ wSem = [99, 111, 118, 101, 114] ++ ([32] ++ dg v ++ [59]) ++ ([99, 108, 111, 115, 101, 100] ++ ([32] ++ dg d ++ [59]) ++ ([114, 97, 105, 115, 101] ++ ([32] ++ dg r ++ [59]))) := by
    unfold wCov wClo wRai wSem
    simp only [List.append_assoc, List.cons_append, List.nil_append]
  rw [e] at ht hN ⊢
  simp only [List.length_append, List.length_cons, List.length_nil] at hN ⊢
  obtain ⟨k1, k2, k3, k4⟩ := lw h0 ht.l (by unfold lets; decide) (by decide) (by exact ⟨by simp, rfl⟩) (by show (0 : Int) + (5 : Int) + 1 ≤ N; omega)
  obtain ⟨F1, B1, a1, a2, a3, a4, a5⟩ := z_setting (sT := sT) (w := 1) h0 hb h21 hZ (by decide) (hs 1 (by decide) (by decide)) k3 (by decide) (v := v) (by unfold tMx; rw [if_neg (by decide)]; omega) k4 (by show (0 : Int) + (5 : Int) + 1 + _ + 1 ≤ N; omega)
  have s1 := St.one (rl_cover h0.1 ⟨k1, k2⟩ a1)
  have b1 := a3.b21 hb h21
  have ht2 : atl T (0 + (5 : Int) + 1 + (dg v).length + 1) ([99, 108, 111, 115, 101, 100] ++ ([32] ++ dg d ++ [59]) ++ ([114, 97, 105, 115, 101] ++ ([32] ++ dg r ++ [59]))) := ht.r (by simp only [List.length_append, List.length_cons, List.length_nil]; omega)
  obtain ⟨k5, k6, k7, k8⟩ := lw a2 ht2.l (by unfold lets; decide) (by decide) (by exact ⟨by simp, rfl⟩) (by show (0 : Int) + (5 : Int) + 1 + _ + 1 + (6 : Int) + 1 ≤ N; omega)
  obtain ⟨F2, B2, c1, c2, c3, c4, c5⟩ := z_setting (sT := sT) (w := 0) a2 hb b1 a4 (by decide) (by rw [a5 0 (by decide)]; exact hs 0 (by decide) (by decide)) k7 (by show (0 : Int) ≤ 0 + (5 : Int) + 1 + _ + 1 + (6 : Int); omega) (v := d) (by unfold tMx; rw [if_pos rfl]; omega) k8 (by show (0 : Int) + (5 : Int) + 1 + _ + 1 + (6 : Int) + 1 + _ + 1 ≤ N; omega)
  have s2 := s1.next (by decide) a2.1 k5 (rl_closed a2.1 ⟨k5, k6⟩ c1)
  have b2 := c3.b21 hb b1
  have ht3 : atl T (0 + (5 : Int) + 1 + (dg v).length + 1 + (6 : Int) + 1 + (dg d).length + 1) ([114, 97, 105, 115, 101] ++ ([32] ++ dg r ++ [59])) := ht2.r (by simp only [List.length_append, List.length_cons, List.length_nil]; omega)
  obtain ⟨k9, k10, k11, k12⟩ := lw c2 ht3 (by unfold lets; decide) (by decide) (by exact ⟨by simp, rfl⟩) (by show (0 : Int) + (5 : Int) + 1 + _ + 1 + (6 : Int) + 1 + _ + 1 + (5 : Int) + 1 ≤ N; omega)
  obtain ⟨F3, B3, d1, d2, d3, d4, d5⟩ := z_setting (sT := sT) (w := 2) c2 hb b2 c4 (by decide) (by rw [c5 2 (by decide), a5 2 (by decide)]; exact hs 2 (by decide) (by decide)) k11 (by show (0 : Int) ≤ 0 + (5 : Int) + 1 + _ + 1 + (6 : Int) + 1 + _ + 1 + (5 : Int); omega) (v := r) (by unfold tMx; rw [if_neg (by decide)]; omega) k12 (by show (0 : Int) + (5 : Int) + 1 + _ + 1 + (6 : Int) + 1 + _ + 1 + (5 : Int) + 1 + _ + 1 ≤ N; omega)
  have s3 := s2.next (by decide) c2.1 k9 (rl_raise c2.1 ⟨k9, k10⟩ d1)
  refine ⟨F3, B3, ?_, d3.b21 hb b2, d4, (a3.tr c3).tr d3, s3, by decide⟩
  have : ad F3 T N (0 + (5 : Int) + 1 + (dg v).length + 1 + (6 : Int) + 1 + (dg d).length + 1 + (5 : Int) + 1 + (dg r).length + 1) := d2
  rw [show (((0 + 1 + 1 + 1 + 1 + 1 + (0 + 1 + (dg v).length + (0 + 1)) + (0 + 1 + 1 + 1 + 1 + 1 + 1 + (0 + 1 + (dg d).length + (0 + 1)) + (0 + 1 + 1 + 1 + 1 + 1 + (0 + 1 + (dg r).length + (0 + 1)))) : Nat)) : Int) = 0 + (5 : Int) + 1 + (dg v).length + 1 + (6 : Int) + 1 + (dg d).length + 1 + (5 : Int) + 1 + (dg r).length + 1 by omega]
  exact this
/-- a line more -/
theorem Qr.on {c : Int} {u rest : List Int} (hb : aB b) (h : Qr sT b T N F0 np nt na nh c w) (hl : lets u) (h8 : 1 ≤ u.length ∧ u.length ≤ 8) (hr : 1 ≤ rest.length ∧ rest.getD 0 0 = 32) (ht : atl T 0 (w ++ (u ++ rest))) (hN : ((w ++ (u ++ rest)).length : Int) ≤ N) : ∃ F B, ad F T N w.length ∧ F 2 1 = b ∧ ZK b F B np nt na nh nh ∧ wF b F0 F ∧ St sT F0 c F ∧ c = 3 + np + nt + na + 2 * nh ∧ (F 3 4 = 1 ∧ F 3 8 = w8l u) ∧ F 3 3 = w.length + u.length ∧ atl T (w.length + u.length) rest ∧ (w.length : Int) + u.length + rest.length ≤ N ∧ c ≤ 44 := by
  simp only [List.length_append] at hN
  obtain ⟨F, B, a1, a2, a3, a4, a5, a6⟩ := h ht.l (by omega)
  have x : atl T w.length (u ++ rest) := ht.r (by omega)
  obtain ⟨k1, k2, k3, k4⟩ := lw a1 x hl h8 hr (by omega)
  have := a3.bd
  exact ⟨F, B, a1, a2, a3, a4, a5, a6, ⟨k1, k2⟩, k3, k4, by omega, by omega⟩
theorem Qr_person (hb : aB b) {c m : Int} {m2 ins : List Int} (h : Qr sT b T N F0 np 0 0 0 c w) (h1 : 0 ≤ np ∧ np < 6) (h2 : 1 ≤ m ∧ m < 6) (h3 : m2 = wNo ∨ m2 = wNine) (h4 : ins = wNo ∨ ins = wIns) : Qr sT b T N F0 (np + 1) 0 0 0 (c + 1) (w ++ wPer ++ [112, 97 + np] ++ wSp ++ dg m ++ m2 ++ ins ++ wSem) := by
  intro ht hN
  have e : w ++ wPer ++ [112, 97 + np] ++ wSp ++ dg m ++ m2 ++ ins ++ wSem = w ++ ([112, 101, 114, 115, 111, 110] ++ ([32] ++ [112, 97 + np] ++ [32] ++ dg m ++ m2 ++ (ins ++ [59]))) := by
    unfold wPer wSp wSem
    simp only [List.append_assoc, List.cons_append, List.nil_append]
  rw [e] at ht hN ⊢
  obtain ⟨F, B, a1, a2, a3, a4, a5, a6, a7, a8, a9, a10, a11⟩ := h.on hb (by unfold lets; decide) (by decide) (by exact ⟨by simp, rfl⟩) ht hN
  simp only [List.length_append, List.length_cons, List.length_nil] at a10
  obtain ⟨F', B', c1, c2, c3, -, c5⟩ := z_person (sT := sT) a1 hb a2 a3 (by omega) a8 (by omega) h2 h3 h4 a9 rfl (by show (w.length : Int) + (6 : Int) + 1 + 2 + 1 + _ + _ + _ + 1 ≤ N; omega)
  refine ⟨F', B', ?_, c3.b21 hb a2, c5, a4.tr c3, a5.next a11 a1.1 a7.1 (rl_person a1.1 a7 c1), by omega⟩
  simp only [List.length_append, List.length_cons, List.length_nil]
  have c2 : ad F' T N ((w.length : Int) + (6 : Int) + 1 + 2 + 1 + (dg m).length + m2.length + ins.length + 1) := c2
  refine cast (congrArg (ad F' T N) ?_) c2
  omega
theorem Qr_trust (hb : aB b) {c : Int} {ps : List (Int × Int × Int)} (h : Qr sT b T N F0 np nt 0 0 c w) (h1 : 0 ≤ nt ∧ nt < 3) (hg : gp np nt ps) (hl : (ps.length : Int) ≤ 4) : Qr sT b T N F0 np (nt + 1) 0 0 (c + 1) (w ++ wTru ++ [116, 97 + nt] ++ ptxt ps ++ wSem) := by
  intro ht hN
  have e : w ++ wTru ++ [116, 97 + nt] ++ ptxt ps ++ wSem = w ++ ([116, 114, 117, 115, 116] ++ ([32] ++ [116, 97 + nt] ++ (ptxt ps ++ [59]))) := by
    unfold wTru wSem
    simp only [List.append_assoc, List.cons_append, List.nil_append]
  rw [e] at ht hN ⊢
  obtain ⟨F, B, a1, a2, a3, a4, a5, a6, a7, a8, a9, a10, a11⟩ := h.on hb (by unfold lets; decide) (by decide) (by exact ⟨by simp, rfl⟩) ht hN
  simp only [List.length_append, List.length_cons, List.length_nil] at a10
  obtain ⟨F', B', c1, c2, c3, -, c5⟩ := z_trust (sT := sT) a1 hb a2 a3 (by omega) hg (by omega) a8 (by omega) a9 rfl (by show (w.length : Int) + (5 : Int) + 3 + _ + 1 ≤ N; omega)
  refine ⟨F', B', ?_, c3.b21 hb a2, c5, a4.tr c3, a5.next a11 a1.1 a7.1 (rl_trust a1.1 a7 c1), by omega⟩
  simp only [List.length_append, List.length_cons, List.length_nil]
  have c2 : ad F' T N ((w.length : Int) + (5 : Int) + 3 + (ptxt ps).length + 1) := c2
  refine cast (congrArg (ad F' T N) ?_) c2
  omega
theorem Qr_account (hb : aB b) {c v : Int} {ps : List (Int × Int × Int)} (h : Qr sT b T N F0 np nt na 0 c w) (h1 : 0 ≤ na ∧ na < 5) (h2 : 0 ≤ v ∧ v < 9000) (hg : gp np nt ps) (hl : 1 ≤ (ps.length : Int) ∧ (ps.length : Int) ≤ 4) : Qr sT b T N F0 np nt (na + 1) 0 (c + 1) (w ++ wAcc ++ [97, 97 + na] ++ wBal ++ dg v ++ ptxt ps ++ wSem) := by
  intro ht hN
  have e : w ++ wAcc ++ [97, 97 + na] ++ wBal ++ dg v ++ ptxt ps ++ wSem = w ++ ([97, 99, 99, 111, 117, 110, 116] ++ ([32] ++ [97, 97 + na] ++ [32] ++ [98, 97, 108, 97, 110, 99, 101] ++ [32] ++ dg v ++ (ptxt ps ++ [59]))) := by
    unfold wAcc wBal wSem
    simp only [List.append_assoc, List.cons_append, List.nil_append]
  rw [e] at ht hN ⊢
  obtain ⟨F, B, a1, a2, a3, a4, a5, a6, a7, a8, a9, a10, a11⟩ := h.on hb (by unfold lets; decide) (by decide) (by exact ⟨by simp, rfl⟩) ht hN
  simp only [List.length_append, List.length_cons, List.length_nil] at a10
  obtain ⟨F', B', c1, c2, c3, -, c5⟩ := z_account (sT := sT) a1 hb a2 a3 (by omega) hg (by omega) (by omega) a8 (by omega) a9 rfl (by show (w.length : Int) + (7 : Int) + 12 + _ + _ + 1 ≤ N; omega)
  refine ⟨F', B', ?_, c3.b21 hb a2, c5, a4.tr c3, a5.next a11 a1.1 a7.1 (rl_account a1.1 a7 c1), by omega⟩
  simp only [List.length_append, List.length_cons, List.length_nil]
  have c2 : ad F' T N ((w.length : Int) + (7 : Int) + 12 + (dg v).length + (ptxt ps).length + 1) := c2
  refine cast (congrArg (ad F' T N) ?_) c2
  omega
theorem Qr_pair (hb : aB b) {c a v f g p u d : Int} (h : Qr sT b T N F0 np nt na nh c w) (h1 : 0 ≤ nh ∧ nh < 2) (ha : 0 ≤ a ∧ a < na) (hv : 0 ≤ v ∧ v < 4000) (hf : 0 ≤ f ∧ f < 40) (hg : 0 ≤ g ∧ g < 30) (hp : 0 ≤ p ∧ p < np) (hu : 0 ≤ u ∧ u < 2000) (hd : 0 ≤ d ∧ d < 60) : Qr sT b T N F0 np nt na (nh + 1) (c + 2) (w ++ wHigh ++ [97, 97 + a] ++ wSp ++ dg v ++ wFrom ++ dg f ++ wTo ++ dg (f + g) ++ wLoan ++ [112, 97 + p] ++ wSp ++ dg u ++ wDue ++ dg d ++ wSem) := by
  intro ht hN
  have e : w ++ wHigh ++ [97, 97 + a] ++ wSp ++ dg v ++ wFrom ++ dg f ++ wTo ++ dg (f + g) ++ wLoan ++ [112, 97 + p] ++ wSp ++ dg u ++ wDue ++ dg d ++ wSem = w ++ ([104, 105, 103, 104] ++ (([32] ++ [97, 97 + a] ++ [32] ++ dg v ++ [32] ++ [102, 114, 111, 109] ++ [32] ++ dg f ++ [32] ++ [116, 111] ++ [32] ++ dg (f + g) ++ [59]) ++ ([108, 111, 97, 110] ++ ([32] ++ [112, 97 + p] ++ [32] ++ dg u ++ [32] ++ [100, 117, 101] ++ [32] ++ dg d ++ [59])))) := by
    unfold wHigh wSp wFrom wTo wLoan wDue wSem
    simp only [List.append_assoc, List.cons_append, List.nil_append]
  rw [e] at ht hN ⊢
  obtain ⟨F, B, a1, a2, a3, a4, a5, a6, a7, a8, a9, a10, a11⟩ := h.on hb (by unfold lets; decide) (by decide) (by exact ⟨by simp, rfl⟩) ht hN
  simp only [List.length_append, List.length_cons, List.length_nil] at a10
  have bd := a3.bd
  have a9 : atl T ((w.length : Int) + (4 : Int)) _ := a9
  have a8 : F 3 3 = (w.length : Int) + (4 : Int) := a8
  obtain ⟨F1, B1, c1, c2, c3, c5⟩ := z_high (sT := sT) a1 hb a2 a3 (by omega) a8 (by omega) ha (by omega) (d := f) (by omega) (g := f + g) (by omega) a9.l rfl (by omega)
  have s1 := a5.next a11 a1.1 a7.1 (rl_high a1.1 a7 c1)
  have b1 := c3.b21 hb a2
  have x : atl T ((w.length : Int) + 4 + 15 + (dg v).length + (dg f).length + (dg (f + g)).length) ([108, 111, 97, 110] ++ ([32] ++ [112, 97 + p] ++ [32] ++ dg u ++ [32] ++ [100, 117, 101] ++ [32] ++ dg d ++ [59])) := a9.r (by simp only [List.length_append, List.length_cons, List.length_nil]; omega)
  obtain ⟨k1, k2, k3, k4⟩ := lw c2 x (by unfold lets; decide) (by decide) (by exact ⟨by simp, rfl⟩) (by show _ + (4 : Int) + 1 ≤ N; omega)
  obtain ⟨F2, B2, d1, d2, d3, d5⟩ := z_loan (sT := sT) c2 hb b1 c5 (by omega) k3 (by show (0 : Int) ≤ _ + (4 : Int); omega) hp (by omega) (by omega) k4 rfl (by show _ + (4 : Int) + 10 + _ + _ ≤ N; omega)
  refine ⟨F2, B2, ?_, d3.b21 hb b1, d5, (a4.tr c3).tr d3, by have := s1.next (by omega) c2.1 k1 (rl_loan c2.1 ⟨k1, k2⟩ d1); rw [show c + 2 = c + 1 + 1 by omega]; exact this, by omega⟩
  simp only [List.length_append, List.length_cons, List.length_nil]
  have d2 : ad F2 T N ((w.length : Int) + 4 + 15 + (dg v).length + (dg f).length + (dg (f + g)).length + (4 : Int) + 10 + (dg u).length + (dg d).length) := d2
  refine cast (congrArg (ad F2 T N) ?_) d2
  omega
theorem Qr_all (hb : aB b) (h0 : ad F0 T N 0) (h21 : F0 2 1 = b) (hZ : ZK b F0 B 0 0 0 0 0) (hs : ∀ w, 0 ≤ w → w < 3 → F0 (b + 7) w = -1) : Bc (Qr sT b T N F0) := ⟨Qr_head hb h0 h21 hZ hs, Qr_person hb, Qr_trust hb, Qr_account hb, Qr_pair hb⟩
end RL

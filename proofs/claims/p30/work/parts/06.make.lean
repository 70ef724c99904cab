/-! what is made; functions of the library -/
def pd_cp (F : pd_F) (a i b j n : Int) : pd_F := fun c q => if c = b ∧ j ≤ q ∧ q < j + n then F a (i + (q - j)) else F c q
def pd_cgk (sh : pd_S) (kk : Nat) (a i b j n : Int) : Bool := decide (0 ≤ i ∧ 0 ≤ j ∧ 0 ≤ n ∧ i + n ≤ pd_ln sh 0 kk a ∧ j + n ≤ pd_ln sh 0 kk b)
abbrev pd_cg (sh : pd_S) (a i b j n : Int) : Bool := pd_cgk sh 0 a i b j n
def pd_z (F : pd_F) (a : Int) : pd_F := fun b j => if b = a then 0 else F b j
theorem pd_wr_z {E : pd_E} {tys tys' : List (ClassId × FieldType)} {F F' : pd_F} {b : Int} {c k n : Nat} {e : va_E} (ht : ∀ (t0 : Nat) q, tys[t0]? = some q → tys'[t0]? = some q) (h : ∀ j, F' b j = F b j) (hw : pd_wr E tys F b c k n e) : pd_wr E tys' F' b c k n e := by
  unfold pd_wr at hw ⊢
  split at hw
  · obtain ⟨cA, f, t0, h1, h2, h3, h4⟩ := hw
    exact ⟨cA, f, t0, h1, ht _ _ h2, h3, fun j hj => by rw [h]; exact h4 j hj⟩
  · obtain ⟨cA, f, t0, h1, h2, h3, h4⟩ := hw
    exact ⟨cA, f, t0, h1, ht _ _ h2, h3, fun j hj => by rw [h]; exact h4 j hj⟩
  · obtain ⟨cA, f, t0, r, h0, h1, h2, h3, h4⟩ := hw
    exact ⟨cA, f, t0, r, h0, h1, ht _ _ h2, h3, fun j hj => by rw [h]; exact h4 j hj⟩
  · obtain ⟨cA, f, t0, h1, h2, h3, h4⟩ := hw
    exact ⟨cA, f, t0, h1, ht _ _ h2, h3, fun j hj => by rw [h]; exact h4 j hj⟩
  · obtain ⟨fs, r, h1, h2, h3, h4⟩ := hw
    exact ⟨fs, r, h1, h2, h3, fun j hj => by rw [h]; exact h4 j hj⟩
theorem pd_Wd_push {E : pd_E} {sh : pd_S} {F : pd_F} {s : State} {H1 : Heap} {ws : va_W} {tys tys' : List (ClassId × FieldType)} {c k n q : Nat} {e1 : va_E} (hK : va_K E.1 vwCl tys' s) (ht : ∀ (t0 : Nat) q, tys[t0]? = some q → tys'[t0]? = some q) (hlen : ws.length = sh.length)
    (hw : ∀ a c k n, sh[a]? = some (c, k, n) → ∃ e, ws[a]? = some (E.2.1 + (a + 1), e) ∧ pd_wr E tys F ((a + 1 : Nat) : Int) c k n e) (hq : q = E.2.1 + (sh.length + 1)) (hn : pd_wr E tys' (pd_z F (sh.length + 1)) ((sh.length + 1 : Nat) : Int) c k n e1)
    (hP : va_P E.1 vwCl (ws ++ [(q, e1)]) H1) (hD : va_D (pd_A E) (ws ++ [(q, e1)])) : pd_Wd E (sh ++ [(c, k, n)]) (pd_z F (sh.length + 1)) s H1 := by
  refine ⟨_, tys', hK, hP, hD, by simp [hlen], fun b c' k' n' hb => ?_⟩
  by_cases hbl : b < sh.length
  · rw [List.getElem?_append_left hbl] at hb
    obtain ⟨e, h2, h3⟩ := hw b c' k' n' hb
    refine ⟨e, by rw [List.getElem?_append_left (by omega)]; exact h2, pd_wr_z ht (fun j => ?_) h3⟩
    unfold pd_z
    rw [if_neg (by omega)]
  · rw [List.getElem?_append_right (by omega)] at hb
    have hb0 : b - sh.length < 1 := (List.getElem?_eq_some_iff.mp hb).1
    have hbe : b = sh.length := by omega
    subst hbe
    rw [Nat.sub_self] at hb
    cases hb
    refine ⟨e1, ?_, hn⟩
    rw [List.getElem?_append_right (by omega), hlen, Nat.sub_self, hq]
    rfl
def pd_okt : FieldType → Bool
  | .float => false
  | .double => false
  | _ => true
theorem pd_dflt {E : pd_E} {ty : FieldType} (h : pd_okt ty = true) : pd_rv E (defaultValue ty) (pd_tag ty 0) := by
  cases ty <;> first | exact absurd h (by decide) | exact ⟨0, rfl, rfl⟩ | simp [pd_rf, defaultValue, pd_tag, pd_rv]
section PDA
variable {E : pd_E} {l : Launch} {R : Room} {own : String} {cc : ByteArray} {nL : Nat} {ret : Option FieldType} {nm : String} {Qf : State → Array Value → List Frame → State → Prop} {al : Bool} {cells slots : Nat} {sh : pd_S} {F : pd_F} {pc : Nat} {L S : List pd_v}
theorem pd_hA {s : State} {mm : pd_M} {p : Program} {m : MethodId} {args : Array Value} {meth : Method} {c : Code} (C : pd_Cx E mm p s m args meth c) : ∀ q, s.heap.size ≤ q → pd_A E q := fun q h => Nat.lt_of_lt_of_le C.2.2.2.2.2.2.2.2.1 h
theorem pd_lg {tys : List (ClassId × FieldType)} {x : ClassId × FieldType} : ∀ (t0 : Nat) q, tys[t0]? = some q → (tys ++ [x])[t0]? = some q := by
  intro t0 q h
  rw [List.getElem?_append_left (List.getElem?_eq_some_iff.mp h).1]
  exact h

theorem pd_oinit {a : Int} {idx : Nat} (hd : decode cc pc = .ok (.invokespecial idx, 3)) (hlink : Cond.methodLink own idx Lib.objectInit ∈ pd_gt) (hinst : Cond.instanceMethod Lib.objectInit ∈ pd_gt) (hcode : Cond.code Lib.objectInit ⟨#[0xb1]⟩ 1 none ∈ pd_gt) (ha : a ≠ 0) (hR : 1 ≤ R.frames ∧ 64 ≤ R.locals) (hcat : pd_cat S ≤ 8) (k : pd_V E l R (own, cc, nL, ret, nm) Qf al cells slots sh F (pc + 3) L S) : pd_V E l R (own, cc, nL, ret, nm) Qf al cells slots sh F pc L (pd_R a :: S) := by
  intro p e s m args below meth c H locs ls st C hW hz hS hl hs
  obtain ⟨_, st1, rfl, h0, hs1⟩ := pd_sv_cons hs
  obtain ⟨q, hq⟩ := pd_rf_ne (E := E) ha
  obtain rfl := (show _ = pd_rf E a from h0).trans hq
  refine W.objInit C.1 C.2.1 C.2.2.2.1 (C.2.2.2.2.1 _ hlink) (C.2.2.2.2.1 _ hinst) (C.2.2.2.2.1 _ hcode) rfl (by rw [C.2.2.1]; exact hl.choose_spec.1.1) rfl hd hR.1 ?_ (W.eq (g2 := F0 m (pc + 3) ls st1) rfl (k _ _ _ _ _ _ _ _ _ _ _ _ C hW hz hS hl hs1))
  have h8 := pd_sv_cat hs1
  show 2 * 0 + _ + 12 ≤ R.locals
  rw [h8]
  omega
theorem pd_new {C : String} {T : u_T} {N ci index : Nat} (hd : decode cc pc = .ok (.new index, 3)) (hc : vwCl[ci]? = some (C, T, N)) (hin : ∀ w ∈ u_ws C T N, w ∈ pd_gt) (htp : ∀ k, k < N → parseFieldDescriptor (T k).2.2.1 = some (pd_ty ci k)) (hcl : Cond.classLink own index C ∈ pd_gt) (hinst : Cond.instantiable C N ∈ pd_gt) (hini : Cond.initialized C ∈ pd_gt) (hdf : ∀ j, j < N → pd_okt (pd_ty ci j) = true)
    (hR : cells + 1 ≤ R.cells ∧ slots + N ≤ R.slots) (k : pd_V E l R (own, cc, nL, ret, nm) Qf true (cells + 1) (slots + N) (sh ++ [(4, ci, N)]) (pd_z F (sh.length + 1)) (pc + 3) L (pd_R (sh.length + 1) :: S)) : pd_V E l R (own, cc, nL, ret, nm) Qf true cells slots sh F pc L S := by
  intro p e s m args below meth c H locs ls st C hW hz hS hl hs
  obtain ⟨ws, tys, hK, hP, hD, hlen, hw⟩ := id hW
  have hKn := hK.1 ci _ hc
  have hz0 := hz rfl
  refine W.newcK C.1 C.2.1 C.2.2.2.1 (C.2.2.2.2.1 _ hcl) (C.2.2.2.2.1 _ hinst) (C.2.2.2.2.1 _ hini) rfl hd hR.1 hR.2 hKn.2.1 rfl fun H1 kC hkC e1 z1 o1 => ?_
  have hk : ∀ (k : Nat) (x : Nat × va_E), ws[k]? = some x → H1[x.1]? = H[x.1]? := fun k x hx => o1 x.1 ((hP k x hx).lt)
  have hfs : ∀ j, j < N → defaultValue (pd_ty ci j) = vp_V ((List.range N).map fun j => defaultValue (pd_ty ci j)) j := fun j hj => by
    unfold vp_V
    rw [List.getD_eq_getElem?_getD, List.getElem?_map, List.getElem?_range hj]
    rfl
  have hP1 : va_P E.1 vwCl (ws ++ [(H.size, .inr (ci, (List.range N).map fun j => defaultValue (pd_ty ci j)))]) H1 := (hP.kept hk).app (fun k x hx => by
    have hz : k < 1 := (List.getElem?_eq_some_iff.mp hx).1
    rw [show k = 0 by omega] at hx
    cases hx
    exact ⟨_, hc, (u_born (pd_ty ci) (fun w hw => C.2.2.2.2.1 w hw) hin hKn hkC e1 htp).to hfs⟩)
  have hD1 : va_D (pd_A E) (ws ++ [(H.size, .inr (ci, (List.range N).map fun j => defaultValue (pd_ty ci j)))]) := hD.push hP rfl (pd_hA C _ hS.1)
  refine W.eq (g2 := F0 m (pc + 3) ls (.ref H.size :: st)) rfl (k _ _ _ _ _ _ _ _ _ _ _ _ C (pd_Wd_push hK (fun _ _ h => h) hlen hw (by omega) ?_ hP1 hD1) (fun _ => by rw [z1, hz0, List.length_append]; rfl) ⟨Nat.le_trans hS.1 (by omega), fun x h1 h2 => (o1 x (Nat.lt_of_lt_of_le h1 hS.1)).trans (hS.2.1 x h1 h2), hS.2.2⟩ hl ⟨?_, hs⟩)
  · refine ⟨_, _, rfl, hc, by simp, fun j hj => ⟨defaultValue (pd_ty ci j), ?_, ?_⟩⟩
    · rw [List.getElem?_map, List.getElem?_range hj]
      rfl
    · have : pd_z F (↑sh.length + 1) (↑(sh.length + 1)) ↑j = 0 := by
        unfold pd_z
        rw [if_pos (by omega)]
      rw [this]
      exact pd_dflt (hdf j hj)
  · show _ = pd_rf E _
    unfold pd_rf
    rw [if_neg (by omega), if_neg (by omega), hz0]
    (congr 1) <;> omega

theorem pd_newI {n : Int} {N : Nat} (hd : decode cc pc = .ok (.newarray .int, 2)) (hw0 : Cond.arrayClass .int ∈ pd_gt) (hN : n = N) (hb : N < 100000) (hR : cells + 1 ≤ R.cells ∧ slots + N ≤ R.slots)
    (k : pd_V E l R (own, cc, nL, ret, nm) Qf true (cells + 1) (slots + N) (sh ++ [(0, 0, N)]) (pd_z F (sh.length + 1)) (pc + 2) L (pd_R (sh.length + 1) :: S)) : pd_V E l R (own, cc, nL, ret, nm) Qf true cells slots sh F pc L (pd_I n :: S) := by
  intro p e s m args below meth c H locs ls st C hW hz hS hl hs
  obtain ⟨_, st1, rfl, ⟨n, rfl, rfl⟩, hs1⟩ := pd_sv_cons hs
  obtain ⟨ws, tys, hK, hP, hD, hlen, hw⟩ := id hW
  have hz0 := hz rfl
  have hn0 : ¬ n < 0 := by rw [Int32.lt_iff_toInt_lt, hN]; simp
  have hNn : n.toNatClampNeg = N := by show n.toInt.toNat = N; rw [hN]; rfl
  refine va_newaK (atype := .int) C.1 C.2.1 (C.2.2.2.2.1 _ hw0) rfl hd rfl hn0 hNn (by show N * componentBytes .int ≤ _; simp only [componentBytes]; omega) hR.1 hR.2 rfl fun H1 cA e1 z1 o1 hAr hNm => ?_
  have hk : ∀ (k : Nat) (x : Nat × va_E), ws[k]? = some x → H1[x.1]? = H[x.1]? := fun k x hx => o1 x.1 ((hP k x hx).lt)
  have hK1 : va_K E.1 vwCl (tys ++ [(cA, .int)]) s := ⟨hK.1, fun k x hx => by
    by_cases hl : k < tys.length
    · rw [List.getElem?_append_left hl] at hx
      exact hK.2 k x hx
    · rw [List.getElem?_append_right (by omega)] at hx
      have hz : k - tys.length < 1 := (List.getElem?_eq_some_iff.mp hx).1
      rw [show k - tys.length = 0 by omega] at hx
      cases hx
      exact ⟨hAr, hNm⟩⟩
  have hP1 : va_P E.1 vwCl (ws ++ [(H.size, .inl (cA, N, .inl (fun _ => 0)))]) H1 := (hP.kept hk).app (fun k x hx => by
    have hz : k < 1 := (List.getElem?_eq_some_iff.mp hx).1
    rw [show k = 0 by omega] at hx
    cases hx
    exact e1)
  have hD1 : va_D (pd_A E) (ws ++ [(H.size, .inl (cA, N, .inl (fun _ => 0)))]) := hD.push hP rfl (pd_hA C _ hS.1)
  refine W.eq (g2 := F0 m (pc + 2) ls (.ref H.size :: st1)) rfl (k _ _ _ _ _ _ _ _ _ _ _ _ C (pd_Wd_push hK1 pd_lg hlen hw (by omega) ?_ hP1 hD1) (fun _ => by rw [z1, hz0, List.length_append]; rfl) ⟨Nat.le_trans hS.1 (by omega), fun x h1 h2 => (o1 x (Nat.lt_of_lt_of_le h1 hS.1)).trans (hS.2.1 x h1 h2), hS.2.2⟩ hl ⟨?_, hs1⟩)
  · refine ⟨cA, _, tys.length, rfl, by rw [List.getElem?_append_right (by omega), Nat.sub_self]; rfl, by omega, fun j hj => ?_⟩
    unfold pd_z
    rw [if_pos (by omega)]
    rfl
  · show _ = pd_rf E _
    unfold pd_rf
    rw [if_neg (by omega), if_neg (by omega), hz0]
    (congr 1) <;> omega

theorem pd_newB {n : Int} {N : Nat} (hd : decode cc pc = .ok (.newarray .byte, 2)) (hw0 : Cond.arrayClass .byte ∈ pd_gt) (hN : n = N) (hb : N < 100000) (hR : cells + 1 ≤ R.cells ∧ slots + N ≤ R.slots)
    (k : pd_V E l R (own, cc, nL, ret, nm) Qf true (cells + 1) (slots + N) (sh ++ [(0, 1, N)]) (pd_z F (sh.length + 1)) (pc + 2) L (pd_R (sh.length + 1) :: S)) : pd_V E l R (own, cc, nL, ret, nm) Qf true cells slots sh F pc L (pd_I n :: S) := by
  intro p e s m args below meth c H locs ls st C hW hz hS hl hs
  obtain ⟨_, st1, rfl, ⟨n, rfl, rfl⟩, hs1⟩ := pd_sv_cons hs
  obtain ⟨ws, tys, hK, hP, hD, hlen, hw⟩ := id hW
  have hz0 := hz rfl
  have hn0 : ¬ n < 0 := by rw [Int32.lt_iff_toInt_lt, hN]; simp
  have hNn : n.toNatClampNeg = N := by show n.toInt.toNat = N; rw [hN]; rfl
  refine va_newaK (atype := .byte) C.1 C.2.1 (C.2.2.2.2.1 _ hw0) rfl hd rfl hn0 hNn (by show N * componentBytes .byte ≤ _; simp only [componentBytes]; omega) hR.1 hR.2 rfl fun H1 cA e1 z1 o1 hAr hNm => ?_
  have hk : ∀ (k : Nat) (x : Nat × va_E), ws[k]? = some x → H1[x.1]? = H[x.1]? := fun k x hx => o1 x.1 ((hP k x hx).lt)
  have hK1 : va_K E.1 vwCl (tys ++ [(cA, .byte)]) s := ⟨hK.1, fun k x hx => by
    by_cases hl : k < tys.length
    · rw [List.getElem?_append_left hl] at hx
      exact hK.2 k x hx
    · rw [List.getElem?_append_right (by omega)] at hx
      have hz : k - tys.length < 1 := (List.getElem?_eq_some_iff.mp hx).1
      rw [show k - tys.length = 0 by omega] at hx
      cases hx
      exact ⟨hAr, hNm⟩⟩
  have hP1 : va_P E.1 vwCl (ws ++ [(H.size, .inl (cA, N, .inl (fun _ => 0)))]) H1 := (hP.kept hk).app (fun k x hx => by
    have hz : k < 1 := (List.getElem?_eq_some_iff.mp hx).1
    rw [show k = 0 by omega] at hx
    cases hx
    exact e1)
  have hD1 : va_D (pd_A E) (ws ++ [(H.size, .inl (cA, N, .inl (fun _ => 0)))]) := hD.push hP rfl (pd_hA C _ hS.1)
  refine W.eq (g2 := F0 m (pc + 2) ls (.ref H.size :: st1)) rfl (k _ _ _ _ _ _ _ _ _ _ _ _ C (pd_Wd_push hK1 pd_lg hlen hw (by omega) ?_ hP1 hD1) (fun _ => by rw [z1, hz0, List.length_append]; rfl) ⟨Nat.le_trans hS.1 (by omega), fun x h1 h2 => (o1 x (Nat.lt_of_lt_of_le h1 hS.1)).trans (hS.2.1 x h1 h2), hS.2.2⟩ hl ⟨?_, hs1⟩)
  · refine ⟨cA, _, tys.length, rfl, by rw [List.getElem?_append_right (by omega), Nat.sub_self]; rfl, by omega, fun j hj => ?_⟩
    unfold pd_z
    rw [if_pos (by omega)]
    rfl
  · show _ = pd_rf E _
    unfold pd_rf
    rw [if_neg (by omega), if_neg (by omega), hz0]
    (congr 1) <;> omega

theorem pd_newZ {n : Int} {N : Nat} (hd : decode cc pc = .ok (.newarray .boolean, 2)) (hw0 : Cond.arrayClass .boolean ∈ pd_gt) (hN : n = N) (hb : N < 100000) (hR : cells + 1 ≤ R.cells ∧ slots + N ≤ R.slots)
    (k : pd_V E l R (own, cc, nL, ret, nm) Qf true (cells + 1) (slots + N) (sh ++ [(0, 2, N)]) (pd_z F (sh.length + 1)) (pc + 2) L (pd_R (sh.length + 1) :: S)) : pd_V E l R (own, cc, nL, ret, nm) Qf true cells slots sh F pc L (pd_I n :: S) := by
  intro p e s m args below meth c H locs ls st C hW hz hS hl hs
  obtain ⟨_, st1, rfl, ⟨n, rfl, rfl⟩, hs1⟩ := pd_sv_cons hs
  obtain ⟨ws, tys, hK, hP, hD, hlen, hw⟩ := id hW
  have hz0 := hz rfl
  have hn0 : ¬ n < 0 := by rw [Int32.lt_iff_toInt_lt, hN]; simp
  have hNn : n.toNatClampNeg = N := by show n.toInt.toNat = N; rw [hN]; rfl
  refine va_newaK (atype := .boolean) C.1 C.2.1 (C.2.2.2.2.1 _ hw0) rfl hd rfl hn0 hNn (by show N * componentBytes .boolean ≤ _; simp only [componentBytes]; omega) hR.1 hR.2 rfl fun H1 cA e1 z1 o1 hAr hNm => ?_
  have hk : ∀ (k : Nat) (x : Nat × va_E), ws[k]? = some x → H1[x.1]? = H[x.1]? := fun k x hx => o1 x.1 ((hP k x hx).lt)
  have hK1 : va_K E.1 vwCl (tys ++ [(cA, .boolean)]) s := ⟨hK.1, fun k x hx => by
    by_cases hl : k < tys.length
    · rw [List.getElem?_append_left hl] at hx
      exact hK.2 k x hx
    · rw [List.getElem?_append_right (by omega)] at hx
      have hz : k - tys.length < 1 := (List.getElem?_eq_some_iff.mp hx).1
      rw [show k - tys.length = 0 by omega] at hx
      cases hx
      exact ⟨hAr, hNm⟩⟩
  have hP1 : va_P E.1 vwCl (ws ++ [(H.size, .inl (cA, N, .inl (fun _ => 0)))]) H1 := (hP.kept hk).app (fun k x hx => by
    have hz : k < 1 := (List.getElem?_eq_some_iff.mp hx).1
    rw [show k = 0 by omega] at hx
    cases hx
    exact e1)
  have hD1 : va_D (pd_A E) (ws ++ [(H.size, .inl (cA, N, .inl (fun _ => 0)))]) := hD.push hP rfl (pd_hA C _ hS.1)
  refine W.eq (g2 := F0 m (pc + 2) ls (.ref H.size :: st1)) rfl (k _ _ _ _ _ _ _ _ _ _ _ _ C (pd_Wd_push hK1 pd_lg hlen hw (by omega) ?_ hP1 hD1) (fun _ => by rw [z1, hz0, List.length_append]; rfl) ⟨Nat.le_trans hS.1 (by omega), fun x h1 h2 => (o1 x (Nat.lt_of_lt_of_le h1 hS.1)).trans (hS.2.1 x h1 h2), hS.2.2⟩ hl ⟨?_, hs1⟩)
  · refine ⟨cA, _, tys.length, rfl, by rw [List.getElem?_append_right (by omega), Nat.sub_self]; rfl, by omega, fun j hj => ?_⟩
    unfold pd_z
    rw [if_pos (by omega)]
    rfl
  · show _ = pd_rf E _
    unfold pd_rf
    rw [if_neg (by omega), if_neg (by omega), hz0]
    (congr 1) <;> omega

theorem pd_newJ {n : Int} {N : Nat} (hd : decode cc pc = .ok (.newarray .long, 2)) (hw0 : Cond.arrayClass .long ∈ pd_gt) (hN : n = N) (hb : N < 100000) (hR : cells + 1 ≤ R.cells ∧ slots + N ≤ R.slots)
    (k : pd_V E l R (own, cc, nL, ret, nm) Qf true (cells + 1) (slots + N) (sh ++ [(1, 0, N)]) (pd_z F (sh.length + 1)) (pc + 2) L (pd_R (sh.length + 1) :: S)) : pd_V E l R (own, cc, nL, ret, nm) Qf true cells slots sh F pc L (pd_I n :: S) := by
  intro p e s m args below meth c H locs ls st C hW hz hS hl hs
  obtain ⟨_, st1, rfl, ⟨n, rfl, rfl⟩, hs1⟩ := pd_sv_cons hs
  obtain ⟨ws, tys, hK, hP, hD, hlen, hw⟩ := id hW
  have hz0 := hz rfl
  have hn0 : ¬ n < 0 := by rw [Int32.lt_iff_toInt_lt, hN]; simp
  have hNn : n.toNatClampNeg = N := by show n.toInt.toNat = N; rw [hN]; rfl
  refine va_newaK (atype := .long) C.1 C.2.1 (C.2.2.2.2.1 _ hw0) rfl hd rfl hn0 hNn (by show N * componentBytes .long ≤ _; simp only [componentBytes]; omega) hR.1 hR.2 rfl fun H1 cA e1 z1 o1 hAr hNm => ?_
  have hk : ∀ (k : Nat) (x : Nat × va_E), ws[k]? = some x → H1[x.1]? = H[x.1]? := fun k x hx => o1 x.1 ((hP k x hx).lt)
  have hK1 : va_K E.1 vwCl (tys ++ [(cA, .long)]) s := ⟨hK.1, fun k x hx => by
    by_cases hl : k < tys.length
    · rw [List.getElem?_append_left hl] at hx
      exact hK.2 k x hx
    · rw [List.getElem?_append_right (by omega)] at hx
      have hz : k - tys.length < 1 := (List.getElem?_eq_some_iff.mp hx).1
      rw [show k - tys.length = 0 by omega] at hx
      cases hx
      exact ⟨hAr, hNm⟩⟩
  have hP1 : va_P E.1 vwCl (ws ++ [(H.size, .inl (cA, N, .inr (.inl (fun _ => 0))))]) H1 := (hP.kept hk).app (fun k x hx => by
    have hz : k < 1 := (List.getElem?_eq_some_iff.mp hx).1
    rw [show k = 0 by omega] at hx
    cases hx
    exact e1)
  have hD1 : va_D (pd_A E) (ws ++ [(H.size, .inl (cA, N, .inr (.inl (fun _ => 0))))]) := hD.push hP rfl (pd_hA C _ hS.1)
  refine W.eq (g2 := F0 m (pc + 2) ls (.ref H.size :: st1)) rfl (k _ _ _ _ _ _ _ _ _ _ _ _ C (pd_Wd_push hK1 pd_lg hlen hw (by omega) ?_ hP1 hD1) (fun _ => by rw [z1, hz0, List.length_append]; rfl) ⟨Nat.le_trans hS.1 (by omega), fun x h1 h2 => (o1 x (Nat.lt_of_lt_of_le h1 hS.1)).trans (hS.2.1 x h1 h2), hS.2.2⟩ hl ⟨?_, hs1⟩)
  · refine ⟨cA, _, tys.length, rfl, by rw [List.getElem?_append_right (by omega), Nat.sub_self]; rfl, by omega, fun j hj => ?_⟩
    unfold pd_z
    rw [if_pos (by omega)]
    rfl
  · show _ = pd_rf E _
    unfold pd_rf
    rw [if_neg (by omega), if_neg (by omega), hz0]
    (congr 1) <;> omega

theorem pd_newq {n : Int} {N ci index : Nat} {Cn : String} {T : u_T} {M : Nat} (hd : decode cc pc = .ok (.anewarray index, 3)) (hc : vwCl[ci]? = some (Cn, T, M)) (hcl : Cond.classLink own index Cn ∈ pd_gt) (hover : Cond.arrayOver (.object Cn) ∈ pd_gt) (hN : n = N) (hb : N < 100000) (hR : cells + 1 ≤ R.cells ∧ slots + N ≤ R.slots)
    (k : pd_V E l R (own, cc, nL, ret, nm) Qf true (cells + 1) (slots + N) (sh ++ [(2, ci, N)]) (pd_z F (sh.length + 1)) (pc + 3) L (pd_R (sh.length + 1) :: S)) : pd_V E l R (own, cc, nL, ret, nm) Qf true cells slots sh F pc L (pd_I n :: S) := by
  intro p e s m args below meth c H locs ls st C hW hz hS hl hs
  obtain ⟨_, st1, rfl, ⟨n, rfl, rfl⟩, hs1⟩ := pd_sv_cons hs
  obtain ⟨ws, tys, hK, hP, hD, hlen, hw⟩ := id hW
  have hz0 := hz rfl
  have hn0 : ¬ n < 0 := by rw [Int32.lt_iff_toInt_lt, hN]; simp
  have hNn : n.toNatClampNeg = N := by show n.toInt.toNat = N; rw [hN]; rfl
  subst hNn
  refine W.anew C.1 C.2.1 C.2.2.2.1 (C.2.2.2.2.1 _ hcl) (C.2.2.2.2.1 _ hover) rfl hd rfl hn0 (by omega) hR.1 hR.2 fun cA kA comp f1 f2 f3 f4 => ?_
  generalize hH1 : H.push ({ cls := cA, slots := Array.replicate n.toNatClampNeg .null, vm := .none } : Cell) = H1
  have z1 : H1.size = H.size + 1 := by rw [← hH1, Array.size_push]
  have e1 : H1[H.size]? = some (arrV cA n.toNatClampNeg (fun _ => .null)) := by rw [← hH1, Array.getElem?_push_size, ← arrV_new]
  have o1 : ∀ q : Nat, q < H.size → H1[q]? = H[q]? := fun q hq => by rw [← hH1, Array.getElem?_push, if_neg (Nat.ne_of_lt hq)]
  have hAr : ArrOfT s cA (.object Cn) := fun N z => ⟨(fun k h => by cases h), kA, f2, comp, f3⟩
  have hk : ∀ (k : Nat) (x : Nat × va_E), ws[k]? = some x → H1[x.1]? = H[x.1]? := fun k x hx => o1 x.1 ((hP k x hx).lt)
  have hK1 : va_K E.1 vwCl (tys ++ [(cA, .object Cn)]) s := ⟨hK.1, fun k x hx => by
    by_cases hl : k < tys.length
    · rw [List.getElem?_append_left hl] at hx
      exact hK.2 k x hx
    · rw [List.getElem?_append_right (by omega)] at hx
      have hz : k - tys.length < 1 := (List.getElem?_eq_some_iff.mp hx).1
      rw [show k - tys.length = 0 by omega] at hx
      cases hx
      exact ⟨hAr, kA, comp, f2, f3, f4, f1⟩⟩
  have hP1 : va_P E.1 vwCl (ws ++ [(H.size, .inl (cA, n.toNatClampNeg, .inr (.inr (.inr (.inr (fun _ => none))))))]) H1 := (hP.kept hk).app (fun k x hx => by
    have hz : k < 1 := (List.getElem?_eq_some_iff.mp hx).1
    rw [show k = 0 by omega] at hx
    cases hx
    show H1[H.size]? = some (vp_cell _ _)
    rw [vp_cell_q]
    exact e1)
  have hD1 : va_D (pd_A E) (ws ++ [(H.size, .inl (cA, n.toNatClampNeg, .inr (.inr (.inr (.inr (fun _ => none))))))]) := hD.push hP rfl (pd_hA C _ hS.1)
  refine W.eq (g2 := F0 m (pc + 3) ls (.ref H.size :: st1)) rfl (k _ _ _ _ _ _ _ _ _ _ _ _ C (pd_Wd_push hK1 pd_lg hlen hw (by omega) ?_ hP1 hD1) (fun _ => by rw [z1, hz0, List.length_append]; rfl) ⟨Nat.le_trans hS.1 (by omega), fun x h1 h2 => (o1 x (Nat.lt_of_lt_of_le h1 hS.1)).trans (hS.2.1 x h1 h2), hS.2.2⟩ hl ⟨?_, hs1⟩)
  · refine ⟨cA, _, tys.length, _, hc, rfl, by rw [List.getElem?_append_right (by omega), Nat.sub_self]; rfl, by omega, fun j hj => ?_⟩
    unfold pd_z
    rw [if_pos (by omega)]
    rfl
  · show _ = pd_rf E _
    unfold pd_rf
    rw [if_neg (by omega), if_neg (by omega), hz0]
    (congr 1) <;> omega
theorem pd_aast {a i v : Int} {ci : Nat} (hd : decode cc pc = .ok (.aastore, 1)) (hi : pd_ib sh 2 ci a i = true) (hv : pd_ob sh ci v = true) (k : pd_V E l R (own, cc, nL, ret, nm) Qf al cells slots sh (pd_up F a i v) (pc + 1) L S) : pd_V E l R (own, cc, nL, ret, nm) Qf al cells slots sh F pc L (pd_R v :: pd_I i :: pd_R a :: S) := by
  intro p e s m args below meth c H locs ls st C hW hz hS hl hs
  obtain ⟨_, st0, rfl, hv0, hs0⟩ := pd_sv_cons hs
  obtain ⟨_, st1, rfl, ⟨i, rfl, rfl⟩, hs1⟩ := pd_sv_cons hs0
  obtain ⟨_, st2, rfl, h0, hs2⟩ := pd_sv_cons hs1
  obtain ⟨n, h1, h2, h3⟩ := pd_ib_spec hi
  obtain ⟨nv, hv1⟩ := pd_ob_spec hv
  obtain ⟨ws, tys, hK, hP, hD, hlen, hw⟩ := id hW
  obtain ⟨h4, h5, e1, h6, h7, cA, f, t0, r, h10, rfl, h8, h9, g1⟩ := pd_sh_at h1 hw
  obtain ⟨v4, v5, e2, v6, v7, fs, r', rfl, v8, v9, v10⟩ := pd_sh_at hv1 hw
  cases h10.symm.trans v8
  obtain rfl := (show _ = pd_rf E a from h0).trans h7
  obtain rfl := (show _ = pd_rf E v from hv0).trans v7
  obtain ⟨j1, j2, j3⟩ := pd_idx h2 h3
  have hn0 : ¬ i < 0 := fun q => j1 (Or.inl q)
  obtain ⟨r2, hr2, cellV, q1, q2, q3, -⟩ := hP _ _ v6
  cases h10.symm.trans hr2
  have hcls := (hK.1 ci r h10).2
  obtain ⟨kA, comp, k1, k2, k3, -⟩ := (hK.2 t0 _ h8).2
  have hcomp : comp = E.1.1 ci := Option.some.inj (k3.symm.trans hcls.1)
  subst hcomp
  obtain ⟨kC, hkC, -⟩ := hcls.2
  refine W.aast C.1 C.2.1 (hP _ _ h6) (fun q h => by cases h) (fun h => by cases h) k1 k2 rfl hkC ⟨hn0, by show _ < (arrV _ _ _).slots.size; rw [arrV_size]; exact j2⟩ q1 (fun q h => by rw [q3] at h; cases h) (by rw [q2]; exact hkC) (by rw [q2]; exact va_assign hcls) rfl rfl hd fun H1 e z oq => ?_
  have hcell : H1[E.2.1 + a.toNat]? = some (vp_cell cA (n, .inr (.inr (.inr (.inr (va_up f i.toNatClampNeg (some (E.2.1 + v.toNat)))))))) := by
    rw [e, vp_cell_q, vp_cell_q, arrV_store]
    congr 2
    funext q
    by_cases hq : q = i.toNatClampNeg
    · subst hq
      simp [updV, va_up, va_rf]
    · simp [updV, va_up, hq]
  have hP1 : va_P E.1 vwCl (ws.set (a - 1).toNat (E.2.1 + a.toNat, .inl (cA, n, .inr (.inr (.inr (.inr (va_up f i.toNatClampNeg (some (E.2.1 + v.toNat))))))))) H1 := hP.set hD h6 hcell oq
  have hD1 : va_D (pd_A E) (ws.set (a - 1).toNat (E.2.1 + a.toNat, .inl (cA, n, .inr (.inr (.inr (.inr (va_up f i.toNatClampNeg (some (E.2.1 + v.toNat))))))))) := hD.set h6
  refine k _ _ _ _ _ _ _ _ _ _ _ _ C (pd_Wd_set hK hlen hw h4 h5 ?_ hP1 hD1) (fun h => by rw [z]; exact hz h) (hS.put z oq (hD.2 _ _ h6)) hl hs2
  refine ⟨cA, _, t0, r, h10, rfl, h8, h9, fun j hj => ?_⟩
  by_cases hji : j = i.toNatClampNeg
  · subst hji
    rw [j3, pd_up_eq, v7]
    simp [va_up, va_rf]
  · rw [pd_up_i (by omega), ← g1 j hj]
    simp [va_up, hji]

theorem pd_mmin {x y : Int} {index : Nat} (hd : decode cc pc = .ok (.invokestatic index, 3)) (hlink : Cond.methodLink own index Lib.Math.min.name ∈ pd_gt) (hst : Cond.static Lib.Math.min.name ∈ pd_gt) (hini : Cond.initialized "java/lang/Math" ∈ pd_gt) (hcode : Cond.code Lib.Math.min.name Lib.Math.min.code 2 (some .int) ∈ pd_gt) (hR : 1 ≤ R.frames ∧ 64 ≤ R.locals ∧ cells ≤ R.cells ∧ slots ≤ R.slots) (hcat : pd_cat S ≤ 8) (k : pd_V E l R (own, cc, nL, ret, nm) Qf al cells slots sh F (pc + 3) L (pd_I (min x y) :: S)) : pd_V E l R (own, cc, nL, ret, nm) Qf al cells slots sh F pc L (pd_I y :: pd_I x :: S) := by
  intro p e s m args below meth c H locs ls st C hW hz hS hl hs
  obtain ⟨_, st1, rfl, ⟨y, rfl, rfl⟩, hs1⟩ := pd_sv_cons hs
  obtain ⟨_, st2, rfl, ⟨x, rfl, rfl⟩, hs2⟩ := pd_sv_cons hs1
  have h8 := pd_sv_cat hs2
  refine va_mmin C.1 C.2.1 (by rw [C.2.2.1]; exact hl.choose_spec.1.1.symm) C.2.2.2.1 (C.2.2.2.2.1 _ hlink) (C.2.2.2.2.1 _ hst) (C.2.2.2.2.1 _ hini) (C.2.2.2.2.1 _ hcode) hR.1 (by rw [h8]; omega) hR.2.2.1 hR.2.2.2 hd (k _ _ _ _ _ _ _ _ _ _ _ _ C hW hz hS hl ⟨⟨_, rfl, ?_⟩, hs2⟩)
  simp only [Int32.lt_iff_toInt_lt, Int32.le_iff_toInt_le, gt_iff_lt, ge_iff_le]
  split <;> omega

theorem pd_mmax {x y : Int} {index : Nat} (hd : decode cc pc = .ok (.invokestatic index, 3)) (hlink : Cond.methodLink own index Lib.Math.max.name ∈ pd_gt) (hst : Cond.static Lib.Math.max.name ∈ pd_gt) (hini : Cond.initialized "java/lang/Math" ∈ pd_gt) (hcode : Cond.code Lib.Math.max.name Lib.Math.max.code 2 (some .int) ∈ pd_gt) (hR : 1 ≤ R.frames ∧ 64 ≤ R.locals ∧ cells ≤ R.cells ∧ slots ≤ R.slots) (hcat : pd_cat S ≤ 8) (k : pd_V E l R (own, cc, nL, ret, nm) Qf al cells slots sh F (pc + 3) L (pd_I (max x y) :: S)) : pd_V E l R (own, cc, nL, ret, nm) Qf al cells slots sh F pc L (pd_I y :: pd_I x :: S) := by
  intro p e s m args below meth c H locs ls st C hW hz hS hl hs
  obtain ⟨_, st1, rfl, ⟨y, rfl, rfl⟩, hs1⟩ := pd_sv_cons hs
  obtain ⟨_, st2, rfl, ⟨x, rfl, rfl⟩, hs2⟩ := pd_sv_cons hs1
  have h8 := pd_sv_cat hs2
  refine va_mmax C.1 C.2.1 (by rw [C.2.2.1]; exact hl.choose_spec.1.1.symm) C.2.2.2.1 (C.2.2.2.2.1 _ hlink) (C.2.2.2.2.1 _ hst) (C.2.2.2.2.1 _ hini) (C.2.2.2.2.1 _ hcode) hR.1 (by rw [h8]; omega) hR.2.2.1 hR.2.2.2 hd (k _ _ _ _ _ _ _ _ _ _ _ _ C hW hz hS hl ⟨⟨_, rfl, ?_⟩, hs2⟩)
  simp only [Int32.lt_iff_toInt_lt, Int32.le_iff_toInt_le, gt_iff_lt, ge_iff_le]
  split <;> omega

theorem pd_mminJ {x y : Int} {index : Nat} (hd : decode cc pc = .ok (.invokestatic index, 3)) (hlink : Cond.methodLink own index Lib.MathLoose.min_long.x ∈ pd_gt) (hst : Cond.static Lib.MathLoose.min_long.x ∈ pd_gt) (hini : Cond.initialized "java/lang/Math" ∈ pd_gt) (hcode : Cond.code Lib.MathLoose.min_long.x Lib.MathLoose.min_long.code 4 (some .long) ∈ pd_gt) (hR : 1 ≤ R.frames ∧ 64 ≤ R.locals ∧ cells ≤ R.cells ∧ slots ≤ R.slots) (hcat : pd_cat S ≤ 8) (k : pd_V E l R (own, cc, nL, ret, nm) Qf al cells slots sh F (pc + 3) L (pd_J (min x y) :: S)) : pd_V E l R (own, cc, nL, ret, nm) Qf al cells slots sh F pc L (pd_J y :: pd_J x :: S) := by
  intro p e s m args below meth c H locs ls st C hW hz hS hl hs
  obtain ⟨_, st1, rfl, ⟨y, rfl, rfl⟩, hs1⟩ := pd_sv_cons hs
  obtain ⟨_, st2, rfl, ⟨x, rfl, rfl⟩, hs2⟩ := pd_sv_cons hs1
  have h8 := pd_sv_cat hs2
  refine va_mmin_long C.1 C.2.1 (by rw [C.2.2.1]; exact hl.choose_spec.1.1.symm) C.2.2.2.1 (C.2.2.2.2.1 _ hlink) (C.2.2.2.2.1 _ hst) (C.2.2.2.2.1 _ hini) (C.2.2.2.2.1 _ hcode) hR.1 (by rw [h8]; omega) hR.2.2.1 hR.2.2.2 hd (k _ _ _ _ _ _ _ _ _ _ _ _ C hW hz hS hl ⟨⟨_, rfl, ?_⟩, hs2⟩)
  simp only [Int64.lt_iff_toInt_lt, Int64.le_iff_toInt_le, gt_iff_lt, ge_iff_le]
  split <;> omega

theorem pd_mmaxJ {x y : Int} {index : Nat} (hd : decode cc pc = .ok (.invokestatic index, 3)) (hlink : Cond.methodLink own index Lib.MathLoose.max_long.x ∈ pd_gt) (hst : Cond.static Lib.MathLoose.max_long.x ∈ pd_gt) (hini : Cond.initialized "java/lang/Math" ∈ pd_gt) (hcode : Cond.code Lib.MathLoose.max_long.x Lib.MathLoose.max_long.code 4 (some .long) ∈ pd_gt) (hR : 1 ≤ R.frames ∧ 64 ≤ R.locals ∧ cells ≤ R.cells ∧ slots ≤ R.slots) (hcat : pd_cat S ≤ 8) (k : pd_V E l R (own, cc, nL, ret, nm) Qf al cells slots sh F (pc + 3) L (pd_J (max x y) :: S)) : pd_V E l R (own, cc, nL, ret, nm) Qf al cells slots sh F pc L (pd_J y :: pd_J x :: S) := by
  intro p e s m args below meth c H locs ls st C hW hz hS hl hs
  obtain ⟨_, st1, rfl, ⟨y, rfl, rfl⟩, hs1⟩ := pd_sv_cons hs
  obtain ⟨_, st2, rfl, ⟨x, rfl, rfl⟩, hs2⟩ := pd_sv_cons hs1
  have h8 := pd_sv_cat hs2
  refine va_mmax_long C.1 C.2.1 (by rw [C.2.2.1]; exact hl.choose_spec.1.1.symm) C.2.2.2.1 (C.2.2.2.2.1 _ hlink) (C.2.2.2.2.1 _ hst) (C.2.2.2.2.1 _ hini) (C.2.2.2.2.1 _ hcode) hR.1 (by rw [h8]; omega) hR.2.2.1 hR.2.2.2 hd (k _ _ _ _ _ _ _ _ _ _ _ _ C hW hz hS hl ⟨⟨_, rfl, ?_⟩, hs2⟩)
  simp only [Int64.lt_iff_toInt_lt, Int64.le_iff_toInt_le, gt_iff_lt, ge_iff_le]
  split <;> omega

theorem pd_cg_spec {sh : pd_S} {kk : Nat} {a i b j n : Int} (h : pd_cgk sh kk a i b j n = true) : 0 ≤ i ∧ 0 ≤ j ∧ 0 ≤ n ∧ i + n ≤ pd_ln sh 0 kk a ∧ j + n ≤ pd_ln sh 0 kk b := of_decide_eq_true h
/-- a source: a cell of whole numbers f, n0 of them -/
def pd_src (s : State) (H : Heap) (ty : FieldType) (b0 n0 : Nat) (f : Nat → Int32) : Prop := ∃ scr : Cell, H[b0]? = some scr ∧ s.isArrayOf scr ty ∧ scr.vm ≠ .unknown ∧ n0 ≤ scr.slots.size ∧ ∀ j : Nat, j < n0 → scr.slots[j]? = some (.int (f j))
theorem pd_acopy {p : Program} {e : Env} {s : State} {m : MethodId} {args : Array Value} {below : List Frame} {meth : Method} {c : Code} {H : Heap} {locs : List Loc} {ls : Array Slot} {rest : List Value} {Q : State → Prop} {own : String} {index : Nat} {D : va_G} {cl : List vw_C} {A : Nat → Prop} {a : Nat} {tys : List (ClassId × FieldType)} {ws : va_W} {ty : FieldType} (hexec : p.tables.exec = Jvm.exec) (hml : c.maxLocals = ls.size) (hown : s.vm.findClass own = some m.cls) (hlink : (Cond.methodLink own index arraycopyName).before args s = true) (hnat : (Cond.native arraycopyName).before args s = true) (hstat : (Cond.static arraycopyName).before args s = true) (hini : (Cond.initialized "java/lang/System").before args s = true)
    (hK : va_K D cl tys s) (hP : va_P D cl ws H) (hD : va_D A ws) (hS : va_S A s.heap H locs) {b0 n0 : Nat} {f : Nat → Int32} (hX : pd_src s H ty b0 n0 f) (hprim : refKind ty = false) (q1 t1 : Nat) {c1 : ClassId} {n1 : Nat} {g : Nat → Int32} (ha1 : ws[q1]? = some (a, .inl (c1, n1, .inl g))) (ht1 : tys[t1]? = some (c1, ty))
    {sp dp n : Int32} (h1 : ¬ sp < 0) (h2 : ¬ dp < 0) (h3 : ¬ n < 0) (h4 : sp.toNatClampNeg + n.toNatClampNeg ≤ n0) (h5 : dp.toNatClampNeg + n.toNatClampNeg ≤ n1) (hfit : ∀ i : Nat, i < n.toNatClampNeg → fits ty (.int (f (sp.toNatClampNeg + i))) = true)
    (hframes : 1 ≤ R.frames) (hlocals : (rest.map fun v => v.category).sum + (nativeFrameWords "java/lang/System" "arraycopy" 5 + 11) ≤ R.locals) (hdg : decode c.code pc = .ok (.invokestatic index, 3))
    (kk : ∀ (H1 : Heap) (locs1 : List Loc), va_P D cl (ws.set q1 (a, .inl (c1, n1, .inl (va_cpy f g sp.toNatClampNeg dp.toNatClampNeg n.toNatClampNeg)))) H1 → va_D A (ws.set q1 (a, .inl (c1, n1, .inl (va_cpy f g sp.toNatClampNeg dp.toNatClampNeg n.toNatClampNeg)))) → va_S A s.heap H1 locs1 → H1.size = H.size → W p l e R s m args below meth c H1 locs1 cells slots Q (F0 m (pc + 3) ls rest)) : W p l e R s m args below meth c H locs cells slots Q (F0 m pc ls (.int n :: .int dp :: .ref a :: .int sp :: .ref b0 :: rest)) := by
  have nn : ∀ z : Int32, ¬ z < 0 → z.toInt = (z.toNatClampNeg : Int) := by
    intro z hz
    have hz0 : (0 : Int) ≤ z.toInt := by simpa using Int32.le_iff_toInt_le.mp (Int32.not_lt.mp hz)
    show z.toInt = ((z.toInt.toNat : Nat) : Int)
    omega
  intro T hT X
  obtain ⟨scr, hs1, ⟨hs6, k0, hk0, cm0, hkk0⟩, hs3, hs4, hs5⟩ := hX
  have hc1 : H[a]? = some (vp_cell c1 (n1, .inl g)) := hP q1 _ ha1
  obtain ⟨-, k1, hk1, cm1, hkk1⟩ := (hK.2 t1 _ ht1).1 n1 (fun j => .int (g j))
  obtain ⟨vm', X', step⟩ := X.arraycopy hexec hown hlink hnat hstat hini (src := b0) (dst := a) (cs := scr) (cd := vp_cell c1 (n1, .inl g)) (srcPos := sp) (destPos := dp) (n := n) (by rw [hT]; exact hs1) (by rw [hT]; exact hc1)
    hs6 (fun _ h => by cases h) hs3 (fun h => by cases h) hk0 hk1 hkk0 hkk1 (by simp [hprim]) h1 h2 h3
    (by rw [nn sp h1, nn n h3]; omega)
    (by rw [nn dp h2, nn n h3]; show ¬ _ > ((arrV c1 n1 (fun j => .int (g j))).slots.size : Int); rw [arrV_size]; omega)
    (fun vm₁ _ i hi => by
      have e : scr.slots.getD (sp.toNatClampNeg + i) .null = .int (f (sp.toNatClampNeg + i)) := by
        rw [Array.getD_eq_getD_getElem?, hs5 _ (by omega)]
        rfl
      rw [e]
      exact ⟨hfit i hi, trivial⟩)
    (g := F0 m pc ls (.int n :: .int dp :: .ref a :: .int sp :: .ref b0 :: rest)) rfl (by rw [hml]) (rest := rest) rfl hdg hframes (by show 2 * 0 + _ + _ ≤ _; omega)
  have e1 : copied scr (vp_cell c1 (n1, .inl g)) sp dp n = vp_cell c1 (n1, .inl (va_cpy f g sp.toNatClampNeg dp.toNatClampNeg n.toNatClampNeg)) := va_copiedX (fun z => .int z) scr c1 f g hs5 h4
  rw [e1] at X' step
  generalize hcd : vp_cell c1 (n1, .inl (va_cpy f g sp.toNatClampNeg dp.toNatClampNeg n.toNatClampNeg)) = cd at X' step
  have hl : a < H.size := (Array.getElem?_eq_some_iff.mp hc1).1
  have hheap : ((T.setVm vm').setCell a cd).heap = H.setIfInBounds a cd := by rw [← hT]; rfl
  have oq : ∀ q : Nat, q ≠ a → (H.setIfInBounds a cd)[q]? = H[q]? := fun q hq => by simp [Array.getElem?_setIfInBounds, Ne.symm hq]
  obtain ⟨t, a1, b1⟩ := kk (H.setIfInBounds a cd) _ (hP.set hD ha1 (by show (H.setIfInBounds a cd)[a]? = some (vp_cell c1 (n1, .inl _)); rw [hcd]; simp [Array.getElem?_setIfInBounds, hl]) oq) (hD.set ha1) ⟨by simp; exact hS.1, fun q g1 g2 => by
      rw [oq q (fun e => g2 (by rw [e]; exact hD.2 q1 _ ha1))]
      exact hS.2.1 q g1 g2, fun q hq => by
      rcases List.mem_append.mp hq with h | h
      · exact hS.2.2 q h
      · obtain ⟨z, -, hz⟩ := List.mem_map.mp h
        rw [← hz]
        exact hD.2 q1 _ ha1⟩ (by simp) _ hheap X'
  exact ⟨t, step t a1, b1⟩
/-- bytes -/
def pd_by (F : pd_F) (a i n : Int) : Bool := (List.range n.toNat).all fun k => decide (-128 ≤ F a (i + k) ∧ F a (i + k) ≤ 127)
theorem pd_by_spec {F : pd_F} {a i n : Int} (h : pd_by F a i n = true) (k : Nat) (hk : (k : Int) < n) : -128 ≤ F a (i + k) ∧ F a (i + k) ≤ 127 := of_decide_eq_true (List.all_eq_true.mp h k (List.mem_range.mpr (by omega)))
theorem pd_by_of {F : pd_F} {a i n : Int} (h : ∀ k : Nat, (k : Int) < n → -128 ≤ F a (i + k) ∧ F a (i + k) ≤ 127) : pd_by F a i n = true := List.all_eq_true.mpr fun k hk => decide_eq_true (h k (by have := List.mem_range.mp hk; omega))
theorem pd_fitB {x : Int32} (h : -128 ≤ x.toInt ∧ x.toInt ≤ 127) : fits .byte (.int x) = true := by
  have h1 : (-128 : Int32) ≤ x := Int32.le_iff_toInt_le.mpr (by simpa using h.1)
  have h2 : x ≤ (127 : Int32) := Int32.le_iff_toInt_le.mpr (by simpa using h.2)
  simp [fits, h1, h2]
theorem pd_prim0 {kk : Nat} : refKind (pd_pt kk) = false := by
  match kk with
  | 0 => rfl
  | 1 => rfl
  | _ + 2 => rfl
theorem pd_copyk {kk : Nat} {a b i j n : Int} {index : Nat} (hd : decode cc pc = .ok (.invokestatic index, 3)) (hlink : Cond.methodLink own index arraycopyName ∈ pd_gt) (hnat : Cond.native arraycopyName ∈ pd_gt) (hst : Cond.static arraycopyName ∈ pd_gt) (hini : Cond.initialized "java/lang/System" ∈ pd_gt) (hR : 1 ≤ R.frames ∧ 64 ≤ R.locals) (hcat : pd_cat S ≤ 8) (h0 : pd_cgk sh kk a i b j n = true) (hby : kk = 0 ∨ (kk = 1 ∧ pd_by F a i n = true))
    (k : pd_V E l R (own, cc, nL, ret, nm) Qf al cells slots sh (pd_cp F a i b j n) (pc + 3) L S) : pd_V E l R (own, cc, nL, ret, nm) Qf al cells slots sh F pc L (pd_I n :: pd_I j :: pd_R b :: pd_I i :: pd_R a :: S) := by
  intro p e s m args below meth c H locs ls st C hW hz hS hl hs
  obtain ⟨_, st1, rfl, ⟨n, rfl, rfl⟩, hs1⟩ := pd_sv_cons hs
  obtain ⟨_, st2, rfl, ⟨j, rfl, rfl⟩, hs2⟩ := pd_sv_cons hs1
  obtain ⟨_, st3, rfl, hb0, hs3⟩ := pd_sv_cons hs2
  obtain ⟨_, st4, rfl, ⟨i, rfl, rfl⟩, hs4⟩ := pd_sv_cons hs3
  obtain ⟨_, st5, rfl, ha0, hs5⟩ := pd_sv_cons hs4
  obtain ⟨z1, z2, z3, z4, z5⟩ := pd_cg_spec h0
  obtain ⟨na, a1, a2⟩ := pd_ln_spec (sh := sh) (c := 0) (k := kk) (a := a) (by omega)
  obtain ⟨nb, b1, b2⟩ := pd_ln_spec (sh := sh) (c := 0) (k := kk) (a := b) (by omega)
  rw [a2] at z4
  rw [b2] at z5
  obtain ⟨ws, tys, hK, hP, hD, hlen, hw⟩ := id hW
  obtain ⟨a4, a5, ea, a6, a7, cA, f, ta, rfl, a8, a9, a10⟩ := pd_sh_at a1 hw
  obtain ⟨b4, b5, eb, b6, b7, cB, g, tb, rfl, b8, b9, b10⟩ := pd_sh_at b1 hw
  obtain rfl := (show _ = pd_rf E a from ha0).trans a7
  obtain rfl := (show _ = pd_rf E b from hb0).trans b7
  have ni : i.toNatClampNeg = i.toInt.toNat := rfl
  have nj : j.toNatClampNeg = j.toInt.toNat := rfl
  have nn : n.toNatClampNeg = n.toInt.toNat := rfl
  have q1 : ¬ i < 0 := by rw [Int32.lt_iff_toInt_lt]; simpa using z1
  have q2 : ¬ j < 0 := by rw [Int32.lt_iff_toInt_lt]; simpa using z2
  have q3 : ¬ n < 0 := by rw [Int32.lt_iff_toInt_lt]; simpa using z3
  have h8 := pd_sv_cat hs5
  have h9 : nativeFrameWords "java/lang/System" "arraycopy" 5 ≤ 40 := by decide +kernel
  have hsrc : pd_src s H (pd_pt kk) (E.2.1 + a.toNat) na f := ⟨_, hP _ _ a6, (hK.2 ta _ a8).1 na (fun j => .int (f j)), (fun h => by cases h), by show _ ≤ (arrV _ _ _).slots.size; rw [arrV_size]; exact Nat.le_refl _, fun x hx => by show (arrV _ _ _).slots[x]? = _; rw [arrV_read _ _ hx]⟩
  have hfit : ∀ x : Nat, x < n.toNatClampNeg → fits (pd_pt kk) (.int (f (i.toNatClampNeg + x))) = true := fun x hx => by
    rcases hby with rfl | ⟨rfl, hby⟩
    · rfl
    · have h1 := pd_by_spec hby x (by omega)
      have h2 := a10 (i.toNatClampNeg + x) (by omega)
      rw [show (((i.toNatClampNeg + x : Nat) : Nat) : Int) = i.toInt + x by omega] at h2
      exact pd_fitB (by rw [h2]; exact h1)
  refine pd_acopy (ty := pd_pt kk) C.1 (by rw [C.2.2.1]; exact hl.choose_spec.1.1.symm) C.2.2.2.1 (C.2.2.2.2.1 _ hlink) (C.2.2.2.2.1 _ hnat) (C.2.2.2.2.1 _ hst) (C.2.2.2.2.1 _ hini) hK hP hD hS hsrc pd_prim0 _ tb b6 b8 q1 q2 q3 (by omega) (by omega) hfit hR.1 (by rw [h8]; omega) (by rw [C.2.1]; exact hd) (fun H1 locs1 hP1 hD1 hS1 hz1 => ?_)
  refine k _ _ _ _ _ _ _ _ _ _ _ _ C ⟨_, tys, hK, hP1, hD1, by rw [List.length_set]; exact hlen, fun x c' k' n' hx => ?_⟩ (fun h => by rw [hz1]; exact hz h) hS1 hl hs5
  obtain ⟨e, h2, h3⟩ := hw x c' k' n' hx
  by_cases hxb : x = (b - 1).toNat
  · subst hxb
    have h4 : (b - 1).toNat + 1 = b.toNat := by omega
    have h5 : ((b.toNat : Nat) : Int) = b := by omega
    rw [b5] at hx
    cases hx
    refine ⟨_, by rw [List.getElem?_set_self (by rw [hlen]; exact (List.getElem?_eq_some_iff.mp b5).1), h4], ?_⟩
    rw [h4, h5]
    refine ⟨cB, _, tb, rfl, b8, b9, fun q hq => ?_⟩
    unfold va_cpy pd_cp
    by_cases hc : j.toNatClampNeg ≤ q ∧ q < j.toNatClampNeg + n.toNatClampNeg
    · rw [if_pos hc, if_pos ⟨rfl, by omega, by omega⟩, a10 _ (by omega)]
      congr 1
      omega
    · rw [if_neg hc, if_neg (fun hh => hc ⟨by omega, by omega⟩)]
      exact b10 q hq
  · refine ⟨e, by rw [List.getElem?_set_ne (fun h => hxb h.symm)]; exact h2, pd_wr_z (fun _ _ h => h) (fun q => ?_) h3⟩
    unfold pd_cp
    rw [if_neg (fun hh => hxb (by omega))]
theorem pd_copy {a b i j n : Int} {index : Nat} (hd : decode cc pc = .ok (.invokestatic index, 3)) (hlink : Cond.methodLink own index arraycopyName ∈ pd_gt) (hnat : Cond.native arraycopyName ∈ pd_gt) (hst : Cond.static arraycopyName ∈ pd_gt) (hini : Cond.initialized "java/lang/System" ∈ pd_gt) (hR : 1 ≤ R.frames ∧ 64 ≤ R.locals) (hcat : pd_cat S ≤ 8) (h0 : pd_cg sh a i b j n = true)
    (k : pd_V E l R (own, cc, nL, ret, nm) Qf al cells slots sh (pd_cp F a i b j n) (pc + 3) L S) : pd_V E l R (own, cc, nL, ret, nm) Qf al cells slots sh F pc L (pd_I n :: pd_I j :: pd_R b :: pd_I i :: pd_R a :: S) := pd_copyk (kk := 0) hd hlink hnat hst hini hR hcat h0 (Or.inl rfl) k
/-- from a text that stands from the start, or a number's digits: f what it holds -/
def pd_cS (f : Int → Int) (F : pd_F) (i b j n : Int) : pd_F := fun c q => if c = b ∧ j ≤ q ∧ q < j + n then f (i + (q - j)) else F c q
theorem pd_copyS {a b i j n : Int} {q0 na : Nat} {f : Int → Int} {index : Nat} (hd : decode cc pc = .ok (.invokestatic index, 3)) (hlink : Cond.methodLink own index arraycopyName ∈ pd_gt) (hnat : Cond.native arraycopyName ∈ pd_gt) (hst : Cond.static arraycopyName ∈ pd_gt) (hini : Cond.initialized "java/lang/System" ∈ pd_gt) (hR : 1 ≤ R.frames ∧ 64 ≤ R.locals) (hcat : pd_cat S ≤ 8) (hra : pd_rf E a = .ref q0) {g0 : Nat → Int32} (hT : ∀ s : State, pd_Sk E s s.heap → va_T .byte q0 na (fun j => .int (g0 j)) (pd_A E) s s.heap) (hf : ∀ j : Nat, j < na → (g0 j).toInt = f j) (hby : ∀ j : Nat, j < na → -128 ≤ f j ∧ f j ≤ 127) (h0 : 0 ≤ i ∧ 0 ≤ j ∧ 0 ≤ n ∧ i + n ≤ na ∧ j + n ≤ pd_ln sh 0 1 b)
    (k : pd_V E l R (own, cc, nL, ret, nm) Qf al cells slots sh (pd_cS f F i b j n) (pc + 3) L S) : pd_V E l R (own, cc, nL, ret, nm) Qf al cells slots sh F pc L (pd_I n :: pd_I j :: pd_R b :: pd_I i :: pd_R a :: S) := by
  intro p e s m args below meth c H locs ls st C hW hz hS hl hs
  obtain ⟨_, st1, rfl, ⟨n, rfl, rfl⟩, hs1⟩ := pd_sv_cons hs
  obtain ⟨_, st2, rfl, ⟨j, rfl, rfl⟩, hs2⟩ := pd_sv_cons hs1
  obtain ⟨_, st3, rfl, hb0, hs3⟩ := pd_sv_cons hs2
  obtain ⟨_, st4, rfl, ⟨i, rfl, rfl⟩, hs4⟩ := pd_sv_cons hs3
  obtain ⟨_, st5, rfl, ha0, hs5⟩ := pd_sv_cons hs4
  obtain ⟨z1, z2, z3, z4, z5⟩ := h0
  obtain ⟨nb, b1, b2⟩ := pd_ln_spec (sh := sh) (c := 0) (k := 1) (a := b) (by omega)
  rw [b2] at z5
  obtain ⟨ws, tys, hK, hP, hD, hlen, hw⟩ := id hW
  obtain ⟨b4, b5, eb, b6, b7, cB, g, tb, rfl, b8, b9, b10⟩ := pd_sh_at b1 hw
  obtain rfl := (show _ = pd_rf E a from ha0).trans hra
  obtain rfl := (show _ = pd_rf E b from hb0).trans b7
  have ni : i.toNatClampNeg = i.toInt.toNat := rfl
  have nj : j.toNatClampNeg = j.toInt.toNat := rfl
  have nn : n.toNatClampNeg = n.toInt.toNat := rfl
  have q1 : ¬ i < 0 := by rw [Int32.lt_iff_toInt_lt]; simpa using z1
  have q2 : ¬ j < 0 := by rw [Int32.lt_iff_toInt_lt]; simpa using z2
  have q3 : ¬ n < 0 := by rw [Int32.lt_iff_toInt_lt]; simpa using z3
  have h8 := pd_sv_cat hs5
  have h9 : nativeFrameWords "java/lang/System" "arraycopy" 5 ≤ 40 := by decide +kernel
  obtain ⟨cell, t1, t2, t3, t4, t5, t6, t7⟩ := hT s C.2.2.2.2.2.2.2.2.2
  have hsrc : pd_src s H .byte q0 na g0 := ⟨cell, by rw [hS.2.1 q0 (Array.getElem?_eq_some_iff.mp t1).1 t7]; exact t1, t2, t3, t4, t6⟩
  refine pd_acopy (ty := .byte) C.1 (by rw [C.2.2.1]; exact hl.choose_spec.1.1.symm) C.2.2.2.1 (C.2.2.2.2.1 _ hlink) (C.2.2.2.2.1 _ hnat) (C.2.2.2.2.1 _ hst) (C.2.2.2.2.1 _ hini) hK hP hD hS hsrc rfl _ tb b6 b8 q1 q2 q3 (by omega) (by omega) (fun x hx => pd_fitB (by rw [hf _ (by omega)]; exact hby _ (by omega))) hR.1 (by rw [h8]; omega) (by rw [C.2.1]; exact hd) (fun H1 locs1 hP1 hD1 hS1 hz1 => ?_)
  refine k _ _ _ _ _ _ _ _ _ _ _ _ C ⟨_, tys, hK, hP1, hD1, by rw [List.length_set]; exact hlen, fun x c' k' n' hx => ?_⟩ (fun h => by rw [hz1]; exact hz h) hS1 hl hs5
  obtain ⟨e, h2, h3⟩ := hw x c' k' n' hx
  by_cases hxb : x = (b - 1).toNat
  · subst hxb
    have h4 : (b - 1).toNat + 1 = b.toNat := by omega
    have h5 : ((b.toNat : Nat) : Int) = b := by omega
    rw [b5] at hx
    cases hx
    refine ⟨_, by rw [List.getElem?_set_self (by rw [hlen]; exact (List.getElem?_eq_some_iff.mp b5).1), h4], ?_⟩
    rw [h4, h5]
    refine ⟨cB, _, tb, rfl, b8, b9, fun q hq => ?_⟩
    unfold va_cpy pd_cS
    by_cases hc : j.toNatClampNeg ≤ q ∧ q < j.toNatClampNeg + n.toNatClampNeg
    · rw [if_pos hc, if_pos ⟨rfl, by omega, by omega⟩, hf _ (by omega)]
      congr 1
      omega
    · rw [if_neg hc, if_neg (fun hh => hc ⟨by omega, by omega⟩)]
      exact b10 q hq
  · refine ⟨e, by rw [List.getElem?_set_ne (fun h => hxb h.symm)]; exact h2, pd_wr_z (fun _ _ h => h) (fun q => ?_) h3⟩
    unfold pd_cS
    rw [if_neg (fun hh => hxb (by omega))]

end PDA

/-! methods that throw, and who catches -/
abbrev pd_nse : String := "java/util/NoSuchElementException"
abbrev pd_xat (own : String) (ic : Nat) : List Cond := pd_atX own ic pd_nse 13 prog_29_method_4_code "java/lang/RuntimeException" ["java/lang/Exception"]
def pd_XC (E : pd_E) (sh : pd_S) (F : pd_F) : String → State → State → Prop := fun n st t => n = pd_nse ∧ pd_Wd E sh F t t.heap ∧ va_F (pd_A E) st t
def pd_QX (E : pd_E) (o : Option pd_v) (sh : pd_S) (F : pd_F) : Array Value → State → Outcome → State → Prop := fun a st oc t => ∃ r, o = some r ∧ pd_Q E false (some r) sh F a st oc t
def pd_XX (E : pd_E) (o : Option pd_v) (sh : pd_S) (F : pd_F) : String → State → State → Prop := fun n st t => o = none ∧ pd_XC E sh F n st t
def pd_Qx (E : pd_E) (o : Option pd_v) (sh : pd_S) (F : pd_F) (mc ms : Nat) : State → Array Value → List Frame → State → Prop := fun s args below => vx_MQ below (pd_QX E o sh F) (pd_XX E o sh F) args s mc ms (pd_A E)
def pd_CX (l : Launch) (y : MethodName) (ws : List Cond) (rm : Room) (mc ms : Nat) (sh : pd_S) (F : pd_F) (xs : List pd_v) (o : Option pd_v) (sh' : pd_S) (F' : pd_F) : Prop :=
  ∀ (E : pd_E) (As : List Value), pd_sv E As xs → vx_Met l y ws rm (va_Pc As (pd_B E false sh F)) (pd_QX E o sh' F') (pd_XX E o sh' F') mc ms (pd_A E)
theorem pd_lv_sN {E : pd_E} {lv : List (Nat × Value)} {L : List pd_v} (h : ∀ (i : Nat) (x : pd_v), L[i]? = some x → x = pd_N ∨ ∃ v, (i, v) ∈ lv ∧ pd_rv E v x) {i : Nat} {v : Value} :
    ∀ (j : Nat) (z : pd_v), (pd_st1 L i pd_N)[j]? = some z → z = pd_N ∨ ∃ w, (j, w) ∈ ((i, v) :: lv.filter (fun q => !(q.1 == i) && !(q.1 + 1 == i && q.2.category == 2))) ∧ pd_rv E w z := by
  intro j z hz
  rcases pd_st1_get L i pd_N j z hz with h1 | ⟨h1, h2⟩ | ⟨h1, h2, h3⟩
  · exact Or.inl h1
  · exact Or.inl h2
  · rcases h j z h2 with h4 | ⟨w, h4, h5⟩
    · exact Or.inl h4
    · refine Or.inr ⟨w, List.mem_cons_of_mem _ (List.mem_filter.mpr ⟨h4, ?_⟩), h5⟩
      by_cases hj : j + 1 = i
      · have h6 := h3 hj
        have hc : w.category = 1 := by
          rw [pd_rv_cat h5]
          match z, h6 with
          | .inl n, _ => rfl
          | .inr (.inl n), h6 => exact absurd rfl (h6 n)
          | .inr (.inr n), _ => rfl
        simp [h1, hc]
      · simp [h1, hj]
theorem pd_bodyX {l : Launch} {y : MethodName} {cc : ByteArray} {maxL : Nat} {ret : Option FieldType} {rm : Room} {mc ms : Nat} {sh sh' : pd_S} {F F' : pd_F} {xs : List pd_v} {o : Option pd_v} {L : List pd_v} (hy : plainName y.cls = true ∧ pd_hh y.cls y.name = []) (hlen : pd_cat xs ≤ maxL)
    (hL : pd_en xs ++ List.replicate (maxL - pd_cat xs) pd_N = L)
    (hv : ∀ E, pd_V E l rm (y.cls, cc, maxL, ret, y.name) (pd_Qx E o sh' F' mc ms) false 0 0 sh F 0 L []) : pd_CX l y (Cond.code y cc maxL ret :: pd_gt) rm mc ms sh F xs o sh' F' := by
  intro E As hAs
  refine vx_ofW (cc := cc) (maxL := maxL) (ret := ret) hy.1 rfl ?_
  intro p e s m args below meth c s₁ B hml ht hv0
  obtain ⟨rfl, hW, hz, hlt, hk⟩ := hv0
  have hts := atoms_spec (ws := Cond.code y cc maxL ret :: pd_gt) B.pre
  have htb : c.exceptionTable.toList = tableOf (pd_hh y.cls y.name) := by
    rw [hy.2]
    exact List.eq_nil_iff_forall_not_mem.mpr (fun x hx => ht x hx)
  have hc := pd_sl_len hAs
  have hl := lv_entry As (n := maxL) (by rw [hc]; exact hlen)
  rw [lg_entry_eq]
  refine hv E p e s m _ below meth c s.heap [] _ [] ⟨B.exec, B.bytes, hml, findClass_of_methodNamed B.named, fun w hw => hts w (List.mem_cons_of_mem _ hw), B.returns, ⟨B.notSynchronized, htb⟩, (name_of_methodNamed B.named B.method).1, hlt, hk⟩ hW hz va_S.rf ⟨_, hl, ?_⟩ trivial
  subst hL
  intro i x hi
  rw [List.getElem?_append] at hi
  split at hi
  · have := pd_en_at As xs 0 hAs i x hi
    rwa [Nat.zero_add] at this
  · have := (List.mem_replicate.mp (List.mem_of_getElem? hi)).2
    exact Or.inl this
theorem pd_bodyW {l : Launch} {y : MethodName} {cc : ByteArray} {maxL : Nat} {ret : Option FieldType} {hh : List (Nat × Nat × Nat × Nat)} {rm : Room} {mc ms : Nat} {sh sh' : pd_S} {F F' : pd_F} {xs : List pd_v} {r : Option pd_v} {L : List pd_v} (hy : plainName y.cls = true ∧ pd_hh y.cls y.name = hh) (hlen : pd_cat xs ≤ maxL)
    (hL : pd_en xs ++ List.replicate (maxL - pd_cat xs) pd_N = L)
    (hv : ∀ E, pd_V E l rm (y.cls, cc, maxL, ret, y.name) (pd_Qm E false r sh' F' mc ms) false 0 0 sh F 0 L []) : pd_C l y (Cond.codeWith y cc maxL ret hh :: pd_gt) rm false mc ms sh F xs r sh' F' := by
  intro E As hAs
  refine va_MetW (cc := cc) (maxL := maxL) (ret := ret) (hh := hh) hy.1 rfl ?_
  intro p e s m args below meth c s₁ B hml hv0
  obtain ⟨rfl, hW, hz, hlt, hk⟩ := hv0
  have hts := atoms_spec (ws := Cond.codeWith y cc maxL ret hh :: pd_gt) B.pre
  have htb : c.exceptionTable.toList = tableOf (pd_hh y.cls y.name) := by
    rw [hy.2]
    exact vx_table (x := y) B (hts _ List.mem_cons_self)
  have hc := pd_sl_len hAs
  have hl := lv_entry As (n := maxL) (by rw [hc]; exact hlen)
  rw [lg_entry_eq]
  refine hv E p e s m _ below meth c s.heap [] _ [] ⟨B.exec, B.bytes, hml, findClass_of_methodNamed B.named, fun w hw => hts w (List.mem_cons_of_mem _ hw), B.returns, ⟨B.notSynchronized, htb⟩, (name_of_methodNamed B.named B.method).1, hlt, hk⟩ hW hz va_S.rf ⟨_, hl, ?_⟩ trivial
  subst hL
  intro i x hi
  rw [List.getElem?_append] at hi
  split at hi
  · have := pd_en_at As xs 0 hAs i x hi
    rwa [Nat.zero_add] at this
  · have := (List.mem_replicate.mp (List.mem_of_getElem? hi)).2
    exact Or.inl this
theorem pd_Wd_ext {E : pd_E} {sh : pd_S} {F : pd_F} {s t : State} {H H1 : Heap} (h : s.vm.Alike t.vm) (hq : ∀ q : Nat, q < H.size → H1[q]? = H[q]?) (hW : pd_Wd E sh F s H) : pd_Wd E sh F t H1 := by
  obtain ⟨ws, tys, hK, hP, hr⟩ := hW
  exact ⟨ws, tys, va_K.moved h hK, hP.kept (fun k x hx => hq _ ((hP k x hx).lt)), hr⟩
section PDX
variable {E : pd_E} {l : Launch} {R : Room} {own : String} {cc : ByteArray} {nL : Nat} {ret : Option FieldType} {nm : String} {Qf : State → Array Value → List Frame → State → Prop} {al : Bool} {cells slots mc ms : Nat} {sh : pd_S} {F : pd_F} {pc : Nat} {L S : List pd_v}

theorem pd_toX {r : pd_v} {sh' : pd_S} {F' : pd_F} (k : pd_V E l R (own, cc, nL, ret, nm) (pd_Qm E false (some r) sh' F' mc ms) false cells slots sh F pc L S) : pd_V E l R (own, cc, nL, ret, nm) (pd_Qx E (some r) sh' F' mc ms) false cells slots sh F pc L S := by
  intro p e s m args below meth c H locs ls st C hW hz hS hl hs
  refine vx_ret (Qc := pd_QX E (some r) sh' F') ?_
  intro T hT X
  obtain ⟨t, a1, oc, b1, b2, b3, b4⟩ := k _ _ _ _ _ _ _ _ _ _ _ _ C hW hz hS hl hs T hT X
  exact ⟨t, a1, oc, b1, b2, ⟨r, rfl, b3⟩, b4⟩

theorem pd_thrS {ik is ic k0 : Nat} {tx : String} {bs : List Int32} (hlt : l.stackTraces = false) (hk : Cond.classLink own ik pd_nse ∈ pd_gt) (hini : Cond.initialized pd_nse ∈ pd_gt) (hstr : pd_strT[k0]? = some (own, is, tx, bs)) (hat : ∀ w ∈ pd_xat own ic, w ∈ pd_gt) (hgood : ∀ w ∈ Cond.classLink own ik pd_nse :: Cond.initialized pd_nse :: pd_xat own ic, vx_ot w = true)
    (d0 : decode cc pc = .ok (.new ik, 3)) (d3 : decode cc (pc + 3) = .ok (.dup, 1)) (d4 : decode cc (pc + 4) = .ok (.ldc is, 2)) (d6 : decode cc (pc + 6) = .ok (.invokespecial ic, 3)) (d9 : decode cc (pc + 9) = .ok (.athrow, 1)) (hhh : pd_hh own nm = [])
    (hR : 6 ≤ R.frames ∧ 200 ≤ R.locals ∧ cells + 1 ≤ R.cells ∧ slots + 6 ≤ R.slots) (hcat : pd_cat S ≤ 8) (hc : cells + 1 ≤ mc) (hs0 : slots + 6 ≤ ms) : pd_V E l R (own, cc, nL, ret, nm) (pd_Qx E none sh F mc ms) false cells slots sh F pc L S := by
  intro p e s m args below meth c H locs ls st C hW hz hS hl hs
  have h8 := pd_sv_cat hs
  have htb : c.exceptionTable.toList = [] := by
    have := C.2.2.2.2.2.2.1.2
    rw [show pd_hh (own, cc, nL, ret, nm).1 (own, cc, nL, ret, nm).2.2.2.2 = [] from hhh] at this
    exact this
  refine pd_throwX (cls := pd_nse) (ix := 13) (rx := prog_29_method_4_code) (Y0 := "java/lang/RuntimeException") (r0 := ["java/lang/Exception"]) C.1 C.2.1 hlt (by decide +kernel) (by decide +kernel) (by decide +kernel) (by decide +kernel) C.2.2.2.1 (by decide +kernel) (by decide +kernel) (C.2.2.2.2.1 _ hk) (C.2.2.2.2.1 _ hini) (C.2.2.2.2.2.2.2.2.2.2.1 _ _ hstr) (fun w hw => C.2.2.2.2.1 _ (hat w hw)) hgood C.2.2.2.2.2.2.2.2.2.2.2.2.2.1 C.2.2.2.2.2.2.2.2.2.2.2.2.2.2.1.1 hS (by rw [C.2.2.1]; exact hl.choose_spec.1.1) d0 d3 d4 d6 d9 (fun x hx => by rw [htb] at hx; cases hx) (by show 2 + 3 < _; omega) (by rw [h8]; show _ + (13 * (2 + 1) + 43) ≤ _; omega) hR.2.2.1 hR.2.2.2 C.2.2.2.2.2.2.1.1 (fun t h1 h2 h3 => ⟨rfl, rfl, pd_Wd_ext h1 h3 hW, ?_⟩) hS.2.2 hc hs0
  exact ⟨Nat.le_trans hS.1 h2, fun q g1 g2 => (h3 q (Nat.lt_of_lt_of_le g1 hS.1)).trans (hS.2.1 q g1 g2)⟩

theorem pd_thrSW {ik is ic k0 : Nat} {tx : String} {bs : List Int32} (hlt : l.stackTraces = false) (hk : Cond.classLink own ik pd_nse ∈ pd_gt) (hini : Cond.initialized pd_nse ∈ pd_gt) (hstr : pd_strT[k0]? = some (own, is, tx, bs)) (hat : ∀ w ∈ pd_xat own ic, w ∈ pd_gt) (hgood : ∀ w ∈ Cond.classLink own ik pd_nse :: Cond.initialized pd_nse :: pd_xat own ic, vx_ot w = true)
    (d0 : decode cc pc = .ok (.new ik, 3)) (d3 : decode cc (pc + 3) = .ok (.dup, 1)) (d4 : decode cc (pc + 4) = .ok (.ldc_w is, 3)) (d6 : decode cc (pc + 7) = .ok (.invokespecial ic, 3)) (d9 : decode cc (pc + 10) = .ok (.athrow, 1)) (hhh : pd_hh own nm = [])
    (hR : 6 ≤ R.frames ∧ 200 ≤ R.locals ∧ cells + 1 ≤ R.cells ∧ slots + 6 ≤ R.slots) (hcat : pd_cat S ≤ 8) (hc : cells + 1 ≤ mc) (hs0 : slots + 6 ≤ ms) : pd_V E l R (own, cc, nL, ret, nm) (pd_Qx E none sh F mc ms) false cells slots sh F pc L S := by
  intro p e s m args below meth c H locs ls st C hW hz hS hl hs
  have h8 := pd_sv_cat hs
  have htb : c.exceptionTable.toList = [] := by
    have := C.2.2.2.2.2.2.1.2
    rw [show pd_hh (own, cc, nL, ret, nm).1 (own, cc, nL, ret, nm).2.2.2.2 = [] from hhh] at this
    exact this
  refine pd_throwXW (cls := pd_nse) (ix := 13) (rx := prog_29_method_4_code) (Y0 := "java/lang/RuntimeException") (r0 := ["java/lang/Exception"]) C.1 C.2.1 hlt (by decide +kernel) (by decide +kernel) (by decide +kernel) (by decide +kernel) C.2.2.2.1 (by decide +kernel) (by decide +kernel) (C.2.2.2.2.1 _ hk) (C.2.2.2.2.1 _ hini) (C.2.2.2.2.2.2.2.2.2.2.1 _ _ hstr) (fun w hw => C.2.2.2.2.1 _ (hat w hw)) hgood C.2.2.2.2.2.2.2.2.2.2.2.2.2.1 C.2.2.2.2.2.2.2.2.2.2.2.2.2.2.1.1 hS (by rw [C.2.2.1]; exact hl.choose_spec.1.1) d0 d3 d4 d6 d9 (fun x hx => by rw [htb] at hx; cases hx) (by show 2 + 3 < _; omega) (by rw [h8]; show _ + (13 * (2 + 1) + 43) ≤ _; omega) hR.2.2.1 hR.2.2.2 C.2.2.2.2.2.2.1.1 (fun t h1 h2 h3 => ⟨rfl, rfl, pd_Wd_ext h1 h3 hW, ?_⟩) hS.2.2 hc hs0
  exact ⟨Nat.le_trans hS.1 h2, fun q g1 g2 => (h3 q (Nat.lt_of_lt_of_le g1 hS.1)).trans (hS.2.1 q g1 g2)⟩

def pd_okW (R : Room) (d : Nat) (cells slots mc ms : Nat) (y : MethodName) (bytes : ByteArray) (maxL : Nat) (ret : Option FieldType) (hh : List (Nat × Nat × Nat × Nat)) (n : Nat) : Prop :=
  (d + 1 ≤ R.frames ∧ 8 + (maxL + 11) + 64 * d ≤ R.locals ∧ cells + mc ≤ R.cells ∧ slots + ms ≤ R.slots) ∧ Cond.codeWith y bytes maxL ret hh ∈ pd_gt ∧ Cond.initialized y.cls ∈ pd_gt ∧ (y.cls ≠ "java/lang/invoke/MethodHandle" ∧ y.cls ≠ "java/lang/invoke/VarHandle") ∧ (parseMethodDescriptor y.desc).map (fun d => d.parameters.length) = some n

theorem pd_callVX {y : MethodName} {bytes : ByteArray} {maxL d index : Nat} {ret' : Option FieldType} {xs S0 : List pd_v} {b : Int} {r : Option pd_v} {sh' : pd_S} {F' : pd_F} {fr to hpc ct ih ln : Nat} (hC : pd_CX l y (Cond.code y bytes maxL ret' :: pd_gt) (pd_rm d mc ms) mc ms sh F (pd_R b :: xs) r sh' F') (hd : decode cc pc = .ok (.invokevirtual index, 3)) (hlink : Cond.methodLink own index y ∈ pd_gt) (hinst : Cond.instanceMethod y ∈ pd_gt) (hsel : Cond.selects y.cls y y ∈ pd_gt) {ci : Nat} {T : u_T} {N : Nat} (hcl : vwCl[ci]? = some (y.cls, T, N)) (hob : pd_ob sh ci b = true)
    (hok : pd_ok R d cells slots mc ms y bytes maxL ret' xs.length) (hcat : pd_cat S ≤ 8) (hS0 : xs.reverse ++ pd_R b :: S = S0)
    (htab : pd_hh own nm = [(fr, to, hpc, ct)]) (hcov : fr ≤ pc ∧ pc < to) (hct : ct ≠ 0) (hlk : Cond.classLink own ct pd_nse ∈ pd_gt) (hcast : Cond.castable pd_nse pd_nse ∈ pd_gt) (hst : (decode cc hpc = .ok (.astore ih, 2) ∧ ln = 2) ∨ ∃ f : Fin 4, decode cc hpc = .ok (.astore_n f, 1) ∧ (f : Nat) = ih ∧ ln = 1) (hn : ih < nL)
    (kr : ∀ x, r = some x → pd_V E l R (own, cc, nL, ret, nm) Qf false (cells + mc) (slots + ms) sh' F' (pc + 3) L (x :: S)) (kx : r = none → pd_V E l R (own, cc, nL, ret, nm) Qf false (cells + mc) (slots + ms) sh' F' (hpc + ln) (pd_st1 L ih pd_N) []) : pd_V E l R (own, cc, nL, ret, nm) Qf false cells slots sh F pc L S0 := by
  intro p e s m args below meth c H locs ls st C hW hz hS hl hs
  subst hS0
  obtain ⟨⟨r1, r2, r3, r4⟩, hcode, hinit, hy, hpn⟩ := hok
  obtain ⟨st1, st2, rfl, hs1, hs2⟩ := pd_sv_split _ hs
  obtain ⟨_, st3, rfl, h0, hs3⟩ := pd_sv_cons hs2
  have hs4 := pd_sv_rev hs1
  rw [List.reverse_reverse] at hs4
  obtain ⟨ws, tys, hK, hP, hD, hlen, hw⟩ := id hW
  obtain ⟨nn, h5⟩ := pd_ob_spec hob
  obtain ⟨g1, g2, e1, g3, g4, fs, r', rfl, g5, g6, g7⟩ := pd_sh_at h5 hw
  cases hcl.symm.trans g5
  obtain rfl := (show _ = pd_rf E b from h0).trans g4
  have hrecv : ∃ cellB : Cell, H[E.2.1 + b.toNat]? = some cellB ∧ cellB.vm.isStatics = false ∧ s.vm.findClass y.cls = some cellB.cls := by
    obtain ⟨r0, k1, cell, q1, q2, q3, -⟩ := hP _ _ g3
    cases hcl.symm.trans k1
    exact ⟨cell, q1, by rw [q3]; rfl, by rw [q2]; exact (hK.1 ci _ hcl).2.1⟩
  have hn9 : st1.reverse.length = xs.length := pd_sv_len hs4
  have hrun := vx_runV (e := e) (below := below) (meth := meth) (locs := locs) (cells := cells) (slots := slots) (l := l) (p := p) (R := R) (As := st1.reverse) (rest := st3) (g := F0 m pc ls (st1 ++ .ref (E.2.1 + b.toNat) :: st3)) ⟨C.1, C.2.1, C.2.2.1, C.2.2.2.1, fun w hw => C.2.2.2.2.1 w hw⟩ (hC E (.ref (E.2.1 + b.toNat) :: st1.reverse) ⟨g4.symm, hs4⟩) ⟨(⟨rfl, rfl, r1, r2, pd_gtw C hcode, List.mem_cons_self, C.2.2.2.2.1 _ hcode, C.2.2.2.2.1 _ hinit, hy, pd_pn hpn, C.2.2.2.2.1 _ hlink⟩), C.2.2.2.2.1 _ hinst, C.2.2.2.2.1 _ hsel⟩ ⟨pd_blind, hrecv, pd_start C hW hz hS⟩ rfl hn9 hl.choose_spec.1.1 (by rw [List.reverse_reverse]) (pd_catL hs3 hcat) hd ⟨r3, r4⟩
  intro T hT X
  have hkeep : ∀ {st₀ t T' : State} {L9 : List Loc}, st₀.heap = H → T'.heap = t.heap → (∀ q ∈ L9, pd_A E q.base) → va_F (pd_A E) st₀ t → va_S (pd_A E) s.heap T'.heap (locs ++ L9) := by
    intro st₀ t T' L9 h0 e1 hL9 hF
    obtain ⟨hz1, hk⟩ := hF
    rw [h0] at hz1 hk
    rw [← e1] at hz1 hk
    exact ⟨Nat.le_trans hS.1 hz1, fun q h1 h2 => by rw [hk q (Nat.lt_of_lt_of_le h1 hS.1) h2]; exact hS.2.1 q h1 h2, fun q hq => by
      rcases List.mem_append.mp hq with h | h
      · exact hS.2.2 q h
      · exact hL9 q h⟩
  rcases hrun T hT X with ⟨v, st₀, t, T', L9, h0, X', hL9, e1, e2, ⟨x, hox, ⟨v', hv, hro, hW1, hz1⟩, hF⟩, st⟩ | ⟨q, st₀, t, T', L9, E9, ce, h0, X', hL9, e1, e2, ⟨hox, rfl, hW1, hF⟩, hce, hcv, hcl9, st⟩
  · cases hv
    have hS1 := hkeep h0 e1 hL9 hF
    rw [← e1] at hW1
    match v, hro with
    | some v, hro =>
      obtain ⟨t2, a1, b1⟩ := kr x hox p e s m args below meth c T'.heap (locs ++ L9) ls (v :: st3) C (pd_Wd_moved (by rw [← e2]; exact X'.warmed.alike.symm) hW1) (fun h => by cases h) hS1 hl ⟨hro, hs3⟩ T' rfl X'
      exact ⟨t2, st t2 a1, b1⟩
  · have hS1 := hkeep h0 e1 hL9 hF
    rw [← e1] at hW1 hce
    have htb := C.2.2.2.2.2.2.1.2
    rw [show pd_hh (own, cc, nL, ret, nm).1 (own, cc, nL, ret, nm).2.2.2.2 = [(fr, to, hpc, ct)] from htab] at htb
    obtain ⟨lv, l1, l2⟩ := hl
    have hW2 := pd_Wd_moved (t := s) (by rw [← e2]; exact X'.warmed.alike.symm) hW1
    have hx : vx_W p l e R s m args below meth c T'.heap (locs ++ L9) (cells + mc) (slots + ms) (Qf s args below) (F0 m pc ls st3) q := by
      refine vx_catch (own := own) (name := pd_nse) (E := pd_nse) C.2.2.2.1 [] ⟨fr, to, hpc, ct⟩ [] htb (fun z hz => nomatch hz) (by simp [covers]; omega) hct (C.2.2.2.2.1 _ hlk) (C.2.2.2.2.1 _ hcast) hce hcv hcl9 ?_
      rcases hst with ⟨hdh, rfl⟩ | ⟨f, hdh, hf, rfl⟩
      · exact lv_astore C.1 C.2.1 hdh l1 hn rfl (fun ls' hl' => kx hox p e s m args below meth c T'.heap (locs ++ L9) ls' [] C hW2 (fun h => by cases h) hS1 ⟨_, hl', pd_lv_sN l2⟩ trivial)
      · exact lv_astore_n C.1 C.2.1 hdh hf l1 hn rfl (fun ls' hl' => kx hox p e s m args below meth c T'.heap (locs ++ L9) ls' [] C hW2 (fun h => by cases h) hS1 ⟨_, hl', pd_lv_sN l2⟩ trivial)
    obtain ⟨t2, a1, b1⟩ := hx T' rfl X'
    exact ⟨t2, st.trans a1, b1⟩

theorem pd_callSW {y : MethodName} {hh : List (Nat × Nat × Nat × Nat)} {bytes : ByteArray} {maxL d index : Nat} {ret' : Option FieldType} {xs S0 : List pd_v} {r : Option pd_v} {sh' : pd_S} {F' : pd_F} (hC : pd_C l y (Cond.codeWith y bytes maxL ret' hh :: pd_gt) (pd_rm d mc ms) al mc ms sh F xs r sh' F') (hd : decode cc pc = .ok (.invokestatic index, 3)) (hlink : Cond.methodLink own index y ∈ pd_gt) (hst : Cond.static y ∈ pd_gt)
    (hok : pd_okW R d cells slots mc ms y bytes maxL ret' hh xs.length) (hcat : pd_cat S ≤ 8) (hS0 : xs.reverse ++ S = S0) (k : pd_V E l R (own, cc, nL, ret, nm) Qf al (cells + mc) (slots + ms) sh' F' (pc + 3) L (r.toList ++ S)) : pd_V E l R (own, cc, nL, ret, nm) Qf al cells slots sh F pc L S0 := by
  intro p e s m args below meth c H locs ls st C hW hz hS hl hs
  subst hS0
  obtain ⟨⟨r1, r2, r3, r4⟩, hcode, hinit, hy, hpn⟩ := hok
  obtain ⟨st1, st3, rfl, hs1, hs3⟩ := pd_sv_split _ hs
  have hs4 := pd_sv_rev hs1
  rw [List.reverse_reverse] at hs4
  have hn : st1.reverse.length = xs.length := pd_sv_len hs4
  refine pd_after (vx_runSW (As := st1.reverse) (rest := st3) ⟨C.1, C.2.1, C.2.2.1, C.2.2.2.1, fun w hw => C.2.2.2.2.1 w hw⟩ (hC E st1.reverse hs4) ⟨⟨rfl, rfl, r1, r2, pd_gtw C hcode, List.mem_cons_self⟩, C.2.2.2.2.1 _ hcode, C.2.2.2.2.1 _ hinit, hy, pd_pn hpn, C.2.2.2.2.1 _ hlink, C.2.2.2.2.1 _ hst⟩ ⟨pd_blind, pd_start C hW hz hS⟩ rfl hn hl.choose_spec.1.1 (by rw [List.reverse_reverse]) (pd_catL hs3 hcat) hd ⟨r3, r4⟩) hS (fun v H1 locs1 hro hW1 hz1 hS1 => ?_)
  refine k _ _ _ _ _ _ _ _ _ _ _ _ C hW1 hz1 hS1 hl ?_
  match v, r, hro with
  | none, none, _ => exact hs3
  | some v, some x, h => exact ⟨h, hs3⟩

end PDX

/-! THE CLAIM OUT OF ONE WALK OF THE LAW'S BODY. Your part is whole_start (and what it stands on); all else here is the same for every law, but numbers. -/
def R_law : String := "PayoutDeskLaw"
def lw_P (b : Addr) (xs : List Int32) (args : Array Value) (s : State) : Prop := args = #[.ref b] ∧ s.IntsAt b xs ∧ xs.length ≤ 260 ∧ (Jvm.Cond.and given_1 narrow_1).before args s = true
def lw_Q (_ : Array Value) (s : State) (o : Outcome) (t : State) : Prop := o = .returned (some (.int 1)) ∧ Framed s o t [] 600086 7301442
def lw_Z (below : List Frame) (a : Array Value) (s : State) : State → Prop := fun t => ∃ o, t.status = .running ∧ Ended t below o ∧ lw_Q a s o t
/-- the law's own end, with 1 on the stack, nothing written that was there before, its room as the claim has it -/
theorem lw_ret {p : Program} {l : Launch} {e : Env} {s : State} {m : MethodId} {below : List Frame} {meth : Method} {c : Code} {b : Nat} (hx : p.tables.exec = Jvm.exec) (hb : c.code = code) (hr : meth.sig.returnType = ret) (hlocks : meth.locks = false) {pc : Nat} {H : Heap} {ls : Array Slot} (hdg : decode code pc = .ok (.ireturn, 1)) : W p l e room_1 s m #[Value.ref b] below meth c H [] 600086 7301442 (lw_Z below #[Value.ref b] s) (F0 m pc ls [.int 1]) := by
  intro T hT X
  obtain ⟨fs, hret, hrun, hended, hW, hframe⟩ := X.leave (v := some (.int 1)) (hlocks := hlocks) (fun h => by rw [hr] at h; cases h)
  have hmeth' : T.vm.method? m = some meth := X.method'
  refine ⟨T.setFrames fs, ?_, .returned (some (.int 1)), hrun, hended, rfl, ⟨_, rfl⟩, hW, hframe⟩
  jvm_step X.here [X.here.top, hx, hb, hdg, hmeth', hr, ret, narrow_b1]
  (try refine ⟨rfl, ?_⟩); (try refine ⟨rfl, ?_⟩)
  first | (intro acts; rw [hret _ acts rfl rfl rfl]) | rw [hret _ _ rfl rfl rfl]
  exact Steps.refl _
/-- what holds at the law's entry: the machine, the code, the tables' words (any of lw_tbl by 'hts w (by decide +kernel)'), the script of L ints xs at the cell b, what the Statement gives of the start (any of its parts by flat_of_before) -/
def lw_At (p : Program) (s : State) (m : MethodId) (meth : Method) (c : Code) (b L : Nat) (xs : Nat → Int32) : Prop :=
  p.tables.exec = Jvm.exec ∧ c.code = code ∧ meth.sig.returnType = ret ∧ c.maxLocals = 12 ∧ s.vm.findClass R_law = some m.cls ∧ (∀ w ∈ lw_tbl, w.before #[Value.ref b] s = true) ∧ va_X b L xs s s.heap ∧ b < s.heap.size ∧ meth.locks = false ∧ (Jvm.Cond.and given_1 narrow_1).before #[Value.ref b] s = true
def pd_Ql (E : pd_E) : State → Array Value → List Frame → State → Prop := fun s args below t => s.heap.size = E.2.1 + 1 → lw_Z below args s t
section PDL
variable {E : pd_E} {l : Launch} {R : Room} {own : String} {cc : ByteArray} {nL : Nat} {ret' : Option FieldType} {nm : String} {Qf : State → Array Value → List Frame → State → Prop} {al : Bool} {cells slots mc ms : Nat} {sh : pd_S} {F : pd_F} {pc : Nat} {L S : List pd_v}
theorem pd_toF (k : pd_V E l R (own, cc, nL, ret', nm) Qf false cells slots sh F pc L S) : pd_V E l R (own, cc, nL, ret', nm) Qf true cells slots sh F pc L S := by
  intro p e s m args below meth c H locs ls st C hW hz hS hl hs
  exact k _ _ _ _ _ _ _ _ _ _ _ _ C hW (fun h => by cases h) hS hl hs
theorem pd_okL {d maxL n cells slots mc ms : Nat} {y : MethodName} {bytes : ByteArray} {ret : Option FieldType} (h1 : d + 1 ≤ 2048) (h2 : 8 + (maxL + 11) + 64 * d ≤ 84000) (h3 : cells + mc ≤ 600086) (h4 : slots + ms ≤ 7301442) (hc : Cond.code y bytes maxL ret ∈ pd_gt) (hi : Cond.initialized y.cls ∈ pd_gt) (hy : y.cls ≠ "java/lang/invoke/MethodHandle" ∧ y.cls ≠ "java/lang/invoke/VarHandle") (hn : (parseMethodDescriptor y.desc).map (fun d => d.parameters.length) = some n) : pd_ok room_1 d cells slots mc ms y bytes maxL ret n := ⟨⟨h1, h2, h3, h4⟩, hc, hi, hy, hn⟩
theorem pd_scr : pd_rf E (-60) = .ref (E.2.2.1 59) := by
  unfold pd_rf
  rw [if_neg (by decide), if_pos (by decide)]
  rfl
theorem pd_xlen {Ls : Int} (hd : decode cc pc = .ok (.arraylength, 1)) (hL : Ls = (E.2.2.2 21 : Nat) ∧ Ls < 2147483648) (k : pd_V E l R (own, cc, nL, ret', nm) Qf al cells slots sh F (pc + 1) L (pd_I Ls :: S)) : pd_V E l R (own, cc, nL, ret', nm) Qf al cells slots sh F pc L (pd_R (-60) :: S) := by
  intro p e s m args below meth c H locs ls st C hW hz hS hl hs
  obtain ⟨_, st1, rfl, h0, hs1⟩ := pd_sv_cons hs
  obtain rfl := (show _ = pd_rf E (-60) from h0).trans pd_scr
  obtain ⟨hX, hA⟩ := C.2.2.2.2.2.2.2.2.2.2.2.2.2.2.1.2.1
  have hb : E.2.2.1 59 < s.heap.size := by
    obtain ⟨scr, h3, -⟩ := hX
    exact (Array.getElem?_eq_some_iff.mp h3).1
  refine va_slen C.1 C.2.1 hX hb hA hS hd (k _ _ _ _ _ _ _ _ _ _ _ _ C hW hz hS hl ⟨⟨_, rfl, ?_⟩, hs1⟩)
  rw [pd_ofNat (by omega), hL.1]
theorem pd_xld {Ls i : Int} {xs : Int → Int} (hd : decode cc pc = .ok (.iaload, 1)) (hL : Ls = (E.2.2.2 21 : Nat) ∧ Ls < 2147483648) (hxs : ∀ j : Int, 0 ≤ j → j < Ls → xs j = (Int32.ofNat (E.2.2.2 (22 + j.toNat))).toInt) (hi : 0 ≤ i ∧ i < Ls) (k : pd_V E l R (own, cc, nL, ret', nm) Qf al cells slots sh F (pc + 1) L (pd_I (xs i) :: S)) : pd_V E l R (own, cc, nL, ret', nm) Qf al cells slots sh F pc L (pd_I i :: pd_R (-60) :: S) := by
  intro p e s m args below meth c H locs ls st C hW hz hS hl hs
  obtain ⟨_, st1, rfl, ⟨i, rfl, rfl⟩, hs1⟩ := pd_sv_cons hs
  obtain ⟨_, st2, rfl, h0, hs2⟩ := pd_sv_cons hs1
  obtain rfl := (show _ = pd_rf E (-60) from h0).trans pd_scr
  obtain ⟨hX, hA⟩ := C.2.2.2.2.2.2.2.2.2.2.2.2.2.2.1.2.1
  have hb : E.2.2.1 59 < s.heap.size := by
    obtain ⟨scr, h3, -⟩ := hX
    exact (Array.getElem?_eq_some_iff.mp h3).1
  obtain ⟨j1, j2, j3⟩ := pd_idx hi.1 (show i.toInt < (E.2.2.2 21 : Nat) by omega)
  refine va_sld C.1 C.2.1 hX hb hA hS j1 hd (k _ _ _ _ _ _ _ _ _ _ _ _ C hW hz hS hl ⟨⟨_, rfl, ?_⟩, hs2⟩)
  rw [hxs _ hi.1 hi.2]
  rfl
theorem pd_lwret {p : Program} {l : Launch} {e : Env} {s : State} {m : MethodId} {args : Array Value} {below : List Frame} {meth : Method} {c : Code} (hx : p.tables.exec = Jvm.exec) (hb : c.code = code) (hr : meth.sig.returnType = ret) (hlocks : meth.locks = false) {pc : Nat} {H : Heap} {ls : Array Slot} (hdg : decode code pc = .ok (.ireturn, 1)) : W p l e room_1 s m args below meth c H [] 600086 7301442 (lw_Z below args s) (F0 m pc ls [.int 1]) := by
  intro T hT X
  obtain ⟨fs, hret, hrun, hended, hW, hframe⟩ := X.leave (v := some (.int 1)) (hlocks := hlocks) (fun h => by rw [hr] at h; cases h)
  have hmeth' : T.vm.method? m = some meth := X.method'
  refine ⟨T.setFrames fs, ?_, .returned (some (.int 1)), hrun, hended, rfl, ⟨_, rfl⟩, hW, hframe⟩
  jvm_step X.here [X.here.top, hx, hb, hdg, hmeth', hr, ret, narrow_b1]
  (try refine ⟨rfl, ?_⟩); (try refine ⟨rfl, ?_⟩)
  first | (intro acts; rw [hret _ acts rfl rfl rfl]) | rw [hret _ _ rfl rfl rfl]
  exact Steps.refl _
theorem pd_lret1 (hd : decode cL_law pc = .ok (.ireturn, 1)) (hc : cells ≤ 600086) (hs0 : slots ≤ 7301442) : pd_V E l room_1 (RL, cL_law, nL, ret, nm) (pd_Ql E) al cells slots sh F pc L [pd_I 1] := by
  intro p e s m args below meth c H locs ls st C hW hz hS hl hs
  obtain ⟨_, st1, rfl, ⟨x, rfl, hx⟩, hs1⟩ := pd_sv_cons hs
  obtain rfl := pd_sv_nil hs1
  have hx1 : x = 1 := Int32.toInt_inj.mp (by rw [hx]; rfl)
  subst hx1
  by_cases hb : s.heap.size = E.2.1 + 1
  · have hk := va_forget (fun q hq => by have := hS.2.2 q hq; unfold pd_A at this; omega) (W.widen hc hs0 (pd_lwret (e := e) (l := l) (s := s) (m := m) (args := args) (below := below) (H := H) (ls := ls) C.1 C.2.1 C.2.2.2.2.2.1 C.2.2.2.2.2.2.1.1 hd))
    intro T hT X
    obtain ⟨t, a1, b1⟩ := hk T hT X
    exact ⟨t, a1, fun _ => b1⟩
  · intro T hT X
    exact ⟨_, Steps.refl _, fun h => absurd h hb⟩
end PDL
